theorem dX6_fewestWrong_6 : decode cX6_fewestWrong 6 = .ok (.invokestatic 67, 3) := by decide +kernel
theorem dX6_fewestWrong_9 : decode cX6_fewestWrong 9 = .ok (.istore_n 2, 1) := by decide +kernel
theorem dX6_fewestWrong_10 : decode cX6_fewestWrong 10 = .ok (.aload_n 0, 1) := by decide +kernel
theorem dX6_fewestWrong_11 : decode cX6_fewestWrong 11 = .ok (.iload_n 2, 1) := by decide +kernel
theorem dX6_fewestWrong_12 : decode cX6_fewestWrong 12 = .ok (.iload_n 1, 1) := by decide +kernel
theorem dX6_fewestWrong_13 : decode cX6_fewestWrong 13 = .ok (.invokevirtual 70, 3) := by decide +kernel
theorem dX6_fewestWrong_16 : decode cX6_fewestWrong 16 = .ok (.iconst 1, 1) := by decide +kernel
theorem dX6_fewestWrong_17 : decode cX6_fewestWrong 17 = .ok (.iload_n 2, 1) := by decide +kernel
theorem dX6_fewestWrong_18 : decode cX6_fewestWrong 18 = .ok (.ishl, 1) := by decide +kernel
theorem dX6_fewestWrong_19 : decode cX6_fewestWrong 19 = .ok (.iconst 1, 1) := by decide +kernel
theorem dX6_fewestWrong_20 : decode cX6_fewestWrong 20 = .ok (.isub, 1) := by decide +kernel
theorem dX6_fewestWrong_21 : decode cX6_fewestWrong 21 = .ok (.istore_n 3, 1) := by decide +kernel
theorem dX6_fewestWrong_22 : decode cX6_fewestWrong 22 = .ok (.iload_n 3, 1) := by decide +kernel
theorem dX6_fewestWrong_23 : decode cX6_fewestWrong 23 = .ok (.istore 4, 2) := by decide +kernel
theorem dX6_fewestWrong_25 : decode cX6_fewestWrong 25 = .ok (.iconst 0, 1) := by decide +kernel
theorem dX6_fewestWrong_26 : decode cX6_fewestWrong 26 = .ok (.istore 5, 2) := by decide +kernel
theorem dX6_fewestWrong_28 : decode cX6_fewestWrong 28 = .ok (.iload 5, 2) := by decide +kernel
theorem dX6_fewestWrong_30 : decode cX6_fewestWrong 30 = .ok (.iload_n 3, 1) := by decide +kernel
theorem dX6_fewestWrong_31 : decode cX6_fewestWrong 31 = .ok (.if_icmp .gt 52, 3) := by decide +kernel
theorem dX6_fewestWrong_34 : decode cX6_fewestWrong 34 = .ok (.iload 5, 2) := by decide +kernel
theorem dX6_fewestWrong_36 : decode cX6_fewestWrong 36 = .ok (.invokestatic 74, 3) := by decide +kernel
theorem dX6_fewestWrong_39 : decode cX6_fewestWrong 39 = .ok (.iload 4, 2) := by decide +kernel
theorem dX6_fewestWrong_41 : decode cX6_fewestWrong 41 = .ok (.invokestatic 74, 3) := by decide +kernel
theorem dX6_fewestWrong_44 : decode cX6_fewestWrong 44 = .ok (.if_icmp .ge 7, 3) := by decide +kernel
theorem dX6_fewestWrong_47 : decode cX6_fewestWrong 47 = .ok (.iconst 1, 1) := by decide +kernel
theorem dX6_fewestWrong_48 : decode cX6_fewestWrong 48 = .ok (.goto 4, 3) := by decide +kernel
theorem dX6_fewestWrong_51 : decode cX6_fewestWrong 51 = .ok (.iconst 0, 1) := by decide +kernel
theorem dX6_fewestWrong_52 : decode cX6_fewestWrong 52 = .ok (.istore 6, 2) := by decide +kernel
theorem dX6_fewestWrong_54 : decode cX6_fewestWrong 54 = .ok (.iload 6, 2) := by decide +kernel
theorem dX6_fewestWrong_56 : decode cX6_fewestWrong 56 = .ok (.ifCond .eq 21, 3) := by decide +kernel
theorem dX6_fewestWrong_59 : decode cX6_fewestWrong 59 = .ok (.aload_n 0, 1) := by decide +kernel
theorem dX6_fewestWrong_60 : decode cX6_fewestWrong 60 = .ok (.iload_n 3, 1) := by decide +kernel
theorem dX6_fewestWrong_61 : decode cX6_fewestWrong 61 = .ok (.iload 5, 2) := by decide +kernel
theorem dX6_fewestWrong_63 : decode cX6_fewestWrong 63 = .ok (.iconst (-1), 1) := by decide +kernel
theorem dX6_fewestWrong_64 : decode cX6_fewestWrong 64 = .ok (.ixor, 1) := by decide +kernel
theorem dX6_fewestWrong_65 : decode cX6_fewestWrong 65 = .ok (.iand, 1) := by decide +kernel
theorem dX6_fewestWrong_66 : decode cX6_fewestWrong 66 = .ok (.iload_n 2, 1) := by decide +kernel
theorem dX6_fewestWrong_67 : decode cX6_fewestWrong 67 = .ok (.invokevirtual 79, 3) := by decide +kernel
theorem dX6_fewestWrong_70 : decode cX6_fewestWrong 70 = .ok (.ifCond .eq 7, 3) := by decide +kernel
theorem dX6_fewestWrong_73 : decode cX6_fewestWrong 73 = .ok (.iload 5, 2) := by decide +kernel
theorem dX6_fewestWrong_75 : decode cX6_fewestWrong 75 = .ok (.istore 4, 2) := by decide +kernel
theorem dX6_fewestWrong_77 : decode cX6_fewestWrong 77 = .ok (.iinc 5 1, 3) := by decide +kernel
theorem dX6_fewestWrong_80 : decode cX6_fewestWrong 80 = .ok (.goto (-52), 3) := by decide +kernel
theorem dX6_fewestWrong_83 : decode cX6_fewestWrong 83 = .ok (.iload 4, 2) := by decide +kernel
theorem dX6_fewestWrong_85 : decode cX6_fewestWrong 85 = .ok (.ireturn, 1) := by decide +kernel
theorem dX6_findFoes_0 : decode cX6_findFoes 0 = .ok (.iconst 0, 1) := by decide +kernel
theorem dX6_findFoes_1 : decode cX6_findFoes 1 = .ok (.istore_n 3, 1) := by decide +kernel
theorem dX6_findFoes_2 : decode cX6_findFoes 2 = .ok (.iload_n 3, 1) := by decide +kernel
theorem dX6_findFoes_3 : decode cX6_findFoes 3 = .ok (.iload_n 1, 1) := by decide +kernel
theorem dX6_findFoes_4 : decode cX6_findFoes 4 = .ok (.if_icmp .ge 59, 3) := by decide +kernel
theorem dX6_findFoes_7 : decode cX6_findFoes 7 = .ok (.aload_n 0, 1) := by decide +kernel
theorem dX6_findFoes_8 : decode cX6_findFoes 8 = .ok (.getfield 15, 3) := by decide +kernel
theorem dX6_findFoes_11 : decode cX6_findFoes 11 = .ok (.iload_n 3, 1) := by decide +kernel
theorem dX6_findFoes_12 : decode cX6_findFoes 12 = .ok (.iconst 0, 1) := by decide +kernel
theorem dX6_findFoes_13 : decode cX6_findFoes 13 = .ok (.iastore, 1) := by decide +kernel
theorem dX6_findFoes_14 : decode cX6_findFoes 14 = .ok (.iconst 0, 1) := by decide +kernel
theorem dX6_findFoes_15 : decode cX6_findFoes 15 = .ok (.istore 4, 2) := by decide +kernel
theorem dX6_findFoes_17 : decode cX6_findFoes 17 = .ok (.iload 4, 2) := by decide +kernel
theorem dX6_findFoes_19 : decode cX6_findFoes 19 = .ok (.iload_n 1, 1) := by decide +kernel
theorem dX6_findFoes_20 : decode cX6_findFoes 20 = .ok (.if_icmp .ge 37, 3) := by decide +kernel
theorem dX6_findFoes_23 : decode cX6_findFoes 23 = .ok (.aload_n 0, 1) := by decide +kernel
theorem dX6_findFoes_24 : decode cX6_findFoes 24 = .ok (.getfield 15, 3) := by decide +kernel
theorem dX6_findFoes_27 : decode cX6_findFoes 27 = .ok (.iload_n 3, 1) := by decide +kernel
theorem dX6_findFoes_28 : decode cX6_findFoes 28 = .ok (.dup2, 1) := by decide +kernel
theorem dX6_findFoes_29 : decode cX6_findFoes 29 = .ok (.iaload, 1) := by decide +kernel
theorem dX6_findFoes_30 : decode cX6_findFoes 30 = .ok (.aload_n 0, 1) := by decide +kernel
theorem dX6_findFoes_31 : decode cX6_findFoes 31 = .ok (.iload_n 3, 1) := by decide +kernel
theorem dX6_findFoes_32 : decode cX6_findFoes 32 = .ok (.iload 4, 2) := by decide +kernel
theorem dX6_findFoes_34 : decode cX6_findFoes 34 = .ok (.iload_n 2, 1) := by decide +kernel
theorem dX6_findFoes_35 : decode cX6_findFoes 35 = .ok (.invokevirtual 63, 3) := by decide +kernel
theorem dX6_findFoes_38 : decode cX6_findFoes 38 = .ok (.ifCond .eq 10, 3) := by decide +kernel
theorem dX6_findFoes_41 : decode cX6_findFoes 41 = .ok (.iconst 1, 1) := by decide +kernel
theorem dX6_findFoes_42 : decode cX6_findFoes 42 = .ok (.iload 4, 2) := by decide +kernel
theorem dX6_findFoes_44 : decode cX6_findFoes 44 = .ok (.ishl, 1) := by decide +kernel
theorem dX6_findFoes_45 : decode cX6_findFoes 45 = .ok (.goto 4, 3) := by decide +kernel
theorem dX6_findFoes_48 : decode cX6_findFoes 48 = .ok (.iconst 0, 1) := by decide +kernel
theorem dX6_findFoes_49 : decode cX6_findFoes 49 = .ok (.ior, 1) := by decide +kernel
theorem dX6_findFoes_50 : decode cX6_findFoes 50 = .ok (.iastore, 1) := by decide +kernel
theorem dX6_findFoes_51 : decode cX6_findFoes 51 = .ok (.iinc 4 1, 3) := by decide +kernel
theorem dX6_findFoes_54 : decode cX6_findFoes 54 = .ok (.goto (-37), 3) := by decide +kernel
theorem dX6_findFoes_57 : decode cX6_findFoes 57 = .ok (.iinc 3 1, 3) := by decide +kernel
theorem dX6_findFoes_60 : decode cX6_findFoes 60 = .ok (.goto (-58), 3) := by decide +kernel
theorem dX6_findFoes_63 : decode cX6_findFoes 63 = .ok (.return_, 1) := by decide +kernel
theorem dX6_areAtPeace_0 : decode cX6_areAtPeace 0 = .ok (.iconst 0, 1) := by decide +kernel
theorem dX6_areAtPeace_1 : decode cX6_areAtPeace 1 = .ok (.istore_n 3, 1) := by decide +kernel
theorem dX6_areAtPeace_2 : decode cX6_areAtPeace 2 = .ok (.iload_n 3, 1) := by decide +kernel
theorem dX6_areAtPeace_3 : decode cX6_areAtPeace 3 = .ok (.iload_n 2, 1) := by decide +kernel
theorem dX6_areAtPeace_4 : decode cX6_areAtPeace 4 = .ok (.if_icmp .ge 30, 3) := by decide +kernel
theorem dX6_areAtPeace_7 : decode cX6_areAtPeace 7 = .ok (.iload_n 1, 1) := by decide +kernel
theorem dX6_areAtPeace_8 : decode cX6_areAtPeace 8 = .ok (.iload_n 3, 1) := by decide +kernel
theorem dX6_areAtPeace_9 : decode cX6_areAtPeace 9 = .ok (.ishr, 1) := by decide +kernel
theorem dX6_areAtPeace_10 : decode cX6_areAtPeace 10 = .ok (.iconst 1, 1) := by decide +kernel
theorem dX6_areAtPeace_11 : decode cX6_areAtPeace 11 = .ok (.iand, 1) := by decide +kernel
theorem dX6_areAtPeace_12 : decode cX6_areAtPeace 12 = .ok (.ifCond .eq 16, 3) := by decide +kernel
theorem dX6_areAtPeace_15 : decode cX6_areAtPeace 15 = .ok (.aload_n 0, 1) := by decide +kernel
theorem dX6_areAtPeace_16 : decode cX6_areAtPeace 16 = .ok (.getfield 15, 3) := by decide +kernel
theorem dX6_areAtPeace_19 : decode cX6_areAtPeace 19 = .ok (.iload_n 3, 1) := by decide +kernel
theorem dX6_areAtPeace_20 : decode cX6_areAtPeace 20 = .ok (.iaload, 1) := by decide +kernel
theorem dX6_areAtPeace_21 : decode cX6_areAtPeace 21 = .ok (.iload_n 1, 1) := by decide +kernel
theorem dX6_areAtPeace_22 : decode cX6_areAtPeace 22 = .ok (.iand, 1) := by decide +kernel
theorem dX6_areAtPeace_23 : decode cX6_areAtPeace 23 = .ok (.ifCond .eq 5, 3) := by decide +kernel
theorem dX6_areAtPeace_26 : decode cX6_areAtPeace 26 = .ok (.iconst 0, 1) := by decide +kernel
theorem dX6_areAtPeace_27 : decode cX6_areAtPeace 27 = .ok (.ireturn, 1) := by decide +kernel
theorem dX6_areAtPeace_28 : decode cX6_areAtPeace 28 = .ok (.iinc 3 1, 3) := by decide +kernel
theorem dX6_areAtPeace_31 : decode cX6_areAtPeace 31 = .ok (.goto (-29), 3) := by decide +kernel
theorem dX6_areAtPeace_34 : decode cX6_areAtPeace 34 = .ok (.iconst 1, 1) := by decide +kernel
theorem dX6_areAtPeace_35 : decode cX6_areAtPeace 35 = .ok (.ireturn, 1) := by decide +kernel
theorem dX7_init_0 : decode cX7_init 0 = .ok (.aload_n 0, 1) := by decide +kernel
theorem dX7_init_1 : decode cX7_init 1 = .ok (.invokespecial 1, 3) := by decide +kernel
theorem dX7_init_4 : decode cX7_init 4 = .ok (.aload_n 0, 1) := by decide +kernel
theorem dX7_init_5 : decode cX7_init 5 = .ok (.new 7, 3) := by decide +kernel
theorem dX7_init_8 : decode cX7_init 8 = .ok (.dup, 1) := by decide +kernel
theorem dX7_init_9 : decode cX7_init 9 = .ok (.invokespecial 9, 3) := by decide +kernel
theorem dX7_init_12 : decode cX7_init 12 = .ok (.putfield 10, 3) := by decide +kernel
theorem dX7_init_15 : decode cX7_init 15 = .ok (.aload_n 0, 1) := by decide +kernel
theorem dX7_init_16 : decode cX7_init 16 = .ok (.new 16, 3) := by decide +kernel
theorem dX7_init_19 : decode cX7_init 19 = .ok (.dup, 1) := by decide +kernel
theorem dX7_init_20 : decode cX7_init 20 = .ok (.invokespecial 18, 3) := by decide +kernel
theorem dX7_init_23 : decode cX7_init 23 = .ok (.putfield 19, 3) := by decide +kernel
theorem dX7_init_26 : decode cX7_init 26 = .ok (.aload_n 0, 1) := by decide +kernel
theorem dX7_init_27 : decode cX7_init 27 = .ok (.new 23, 3) := by decide +kernel
theorem dX7_init_30 : decode cX7_init 30 = .ok (.dup, 1) := by decide +kernel
theorem dX7_init_31 : decode cX7_init 31 = .ok (.invokespecial 25, 3) := by decide +kernel
theorem dX7_init_34 : decode cX7_init 34 = .ok (.putfield 26, 3) := by decide +kernel
theorem dX7_init_37 : decode cX7_init 37 = .ok (.aload_n 0, 1) := by decide +kernel
theorem dX7_init_38 : decode cX7_init 38 = .ok (.new 30, 3) := by decide +kernel
theorem dX7_init_41 : decode cX7_init 41 = .ok (.dup, 1) := by decide +kernel
theorem dX7_init_42 : decode cX7_init 42 = .ok (.aload_n 0, 1) := by decide +kernel
theorem dX7_init_43 : decode cX7_init 43 = .ok (.getfield 19, 3) := by decide +kernel
theorem dX7_init_46 : decode cX7_init 46 = .ok (.aload_n 0, 1) := by decide +kernel
theorem dX7_init_47 : decode cX7_init 47 = .ok (.getfield 10, 3) := by decide +kernel
theorem dX7_init_50 : decode cX7_init 50 = .ok (.invokespecial 32, 3) := by decide +kernel
theorem dX7_init_53 : decode cX7_init 53 = .ok (.putfield 35, 3) := by decide +kernel
theorem dX7_init_56 : decode cX7_init 56 = .ok (.aload_n 0, 1) := by decide +kernel
theorem dX7_init_57 : decode cX7_init 57 = .ok (.new 30, 3) := by decide +kernel
theorem dX7_init_60 : decode cX7_init 60 = .ok (.dup, 1) := by decide +kernel
theorem dX7_init_61 : decode cX7_init 61 = .ok (.aload_n 0, 1) := by decide +kernel
theorem dX7_init_62 : decode cX7_init 62 = .ok (.getfield 19, 3) := by decide +kernel
theorem dX7_init_65 : decode cX7_init 65 = .ok (.aload_n 0, 1) := by decide +kernel
theorem dX7_init_66 : decode cX7_init 66 = .ok (.getfield 10, 3) := by decide +kernel
theorem dX7_init_69 : decode cX7_init 69 = .ok (.invokespecial 32, 3) := by decide +kernel
theorem dX7_init_72 : decode cX7_init 72 = .ok (.putfield 39, 3) := by decide +kernel
theorem dX7_init_75 : decode cX7_init 75 = .ok (.aload_n 0, 1) := by decide +kernel
theorem dX7_init_76 : decode cX7_init 76 = .ok (.new 42, 3) := by decide +kernel
theorem dX7_init_79 : decode cX7_init 79 = .ok (.dup, 1) := by decide +kernel
theorem dX7_init_80 : decode cX7_init 80 = .ok (.invokespecial 44, 3) := by decide +kernel
theorem dX7_init_83 : decode cX7_init 83 = .ok (.putfield 45, 3) := by decide +kernel
theorem dX7_init_86 : decode cX7_init 86 = .ok (.aload_n 0, 1) := by decide +kernel
theorem dX7_init_87 : decode cX7_init 87 = .ok (.new 49, 3) := by decide +kernel
theorem dX7_init_90 : decode cX7_init 90 = .ok (.dup, 1) := by decide +kernel
theorem dX7_init_91 : decode cX7_init 91 = .ok (.invokespecial 51, 3) := by decide +kernel
theorem dX7_init_94 : decode cX7_init 94 = .ok (.putfield 52, 3) := by decide +kernel
theorem dX7_init_97 : decode cX7_init 97 = .ok (.aload_n 0, 1) := by decide +kernel
theorem dX7_init_98 : decode cX7_init 98 = .ok (.new 56, 3) := by decide +kernel
theorem dX7_init_101 : decode cX7_init 101 = .ok (.dup, 1) := by decide +kernel
theorem dX7_init_102 : decode cX7_init 102 = .ok (.invokespecial 58, 3) := by decide +kernel
theorem dX7_init_105 : decode cX7_init 105 = .ok (.putfield 59, 3) := by decide +kernel
theorem dX7_init_108 : decode cX7_init 108 = .ok (.aload_n 0, 1) := by decide +kernel
theorem dX7_init_109 : decode cX7_init 109 = .ok (.iconst 1, 1) := by decide +kernel
theorem dX7_init_110 : decode cX7_init 110 = .ok (.putfield 63, 3) := by decide +kernel
theorem dX7_init_113 : decode cX7_init 113 = .ok (.return_, 1) := by decide +kernel
theorem dX7_goOn_0 : decode cX7_goOn 0 = .ok (.aload_n 0, 1) := by decide +kernel
theorem dX7_goOn_1 : decode cX7_goOn 1 = .ok (.getfield 35, 3) := by decide +kernel
theorem dX7_goOn_4 : decode cX7_goOn 4 = .ok (.getfield 67, 3) := by decide +kernel
theorem dX7_goOn_7 : decode cX7_goOn 7 = .ok (.ifCond .ne 14, 3) := by decide +kernel
theorem dX7_goOn_10 : decode cX7_goOn 10 = .ok (.aload_n 0, 1) := by decide +kernel
theorem dX7_goOn_11 : decode cX7_goOn 11 = .ok (.getfield 39, 3) := by decide +kernel
theorem dX7_goOn_14 : decode cX7_goOn 14 = .ok (.aload_n 0, 1) := by decide +kernel
theorem dX7_goOn_15 : decode cX7_goOn 15 = .ok (.getfield 35, 3) := by decide +kernel
theorem dX7_goOn_18 : decode cX7_goOn 18 = .ok (.invokevirtual 70, 3) := by decide +kernel
theorem dX7_goOn_21 : decode cX7_goOn 21 = .ok (.aload_n 0, 1) := by decide +kernel
theorem dX7_goOn_22 : decode cX7_goOn 22 = .ok (.getfield 35, 3) := by decide +kernel
theorem dX7_goOn_25 : decode cX7_goOn 25 = .ok (.aload_n 0, 1) := by decide +kernel
theorem dX7_goOn_26 : decode cX7_goOn 26 = .ok (.getfield 26, 3) := by decide +kernel
theorem dX7_goOn_29 : decode cX7_goOn 29 = .ok (.iconst 0, 1) := by decide +kernel
theorem dX7_goOn_30 : decode cX7_goOn 30 = .ok (.invokevirtual 74, 3) := by decide +kernel
theorem dX7_goOn_33 : decode cX7_goOn 33 = .ok (.aload_n 0, 1) := by decide +kernel
theorem dX7_goOn_34 : decode cX7_goOn 34 = .ok (.getfield 45, 3) := by decide +kernel
theorem dX7_goOn_37 : decode cX7_goOn 37 = .ok (.aload_n 0, 1) := by decide +kernel
theorem dX7_goOn_38 : decode cX7_goOn 38 = .ok (.getfield 35, 3) := by decide +kernel
theorem dX7_goOn_41 : decode cX7_goOn 41 = .ok (.iconst 2, 1) := by decide +kernel
theorem dX7_goOn_42 : decode cX7_goOn 42 = .ok (.invokevirtual 78, 3) := by decide +kernel
theorem dX7_goOn_45 : decode cX7_goOn 45 = .ok (.invokevirtual 82, 3) := by decide +kernel
theorem dX7_goOn_48 : decode cX7_goOn 48 = .ok (.return_, 1) := by decide +kernel
theorem dX7_isHidden_0 : decode cX7_isHidden 0 = .ok (.aload_n 0, 1) := by decide +kernel
theorem dX7_isHidden_1 : decode cX7_isHidden 1 = .ok (.getfield 86, 3) := by decide +kernel
theorem dX7_isHidden_4 : decode cX7_isHidden 4 = .ok (.iload_n 1, 1) := by decide +kernel
theorem dX7_isHidden_5 : decode cX7_isHidden 5 = .ok (.ishr, 1) := by decide +kernel
theorem dX7_isHidden_6 : decode cX7_isHidden 6 = .ok (.iconst 1, 1) := by decide +kernel
theorem dX7_isHidden_7 : decode cX7_isHidden 7 = .ok (.iand, 1) := by decide +kernel
theorem dX7_isHidden_8 : decode cX7_isHidden 8 = .ok (.ifCond .eq 7, 3) := by decide +kernel
theorem dX7_isHidden_11 : decode cX7_isHidden 11 = .ok (.iconst 1, 1) := by decide +kernel
theorem dX7_isHidden_12 : decode cX7_isHidden 12 = .ok (.goto 4, 3) := by decide +kernel
theorem dX7_isHidden_15 : decode cX7_isHidden 15 = .ok (.iconst 0, 1) := by decide +kernel
theorem dX7_isHidden_16 : decode cX7_isHidden 16 = .ok (.ireturn, 1) := by decide +kernel
theorem dX7_become_0 : decode cX7_become 0 = .ok (.aload_n 0, 1) := by decide +kernel
theorem dX7_become_1 : decode cX7_become 1 = .ok (.getfield 10, 3) := by decide +kernel
theorem dX7_become_4 : decode cX7_become 4 = .ok (.aload_n 1, 1) := by decide +kernel
theorem dX7_become_5 : decode cX7_become 5 = .ok (.getfield 10, 3) := by decide +kernel
theorem dX7_become_8 : decode cX7_become 8 = .ok (.invokevirtual 89, 3) := by decide +kernel
theorem dX7_become_11 : decode cX7_become 11 = .ok (.aload_n 0, 1) := by decide +kernel
theorem dX7_become_12 : decode cX7_become 12 = .ok (.getfield 19, 3) := by decide +kernel
theorem dX7_become_15 : decode cX7_become 15 = .ok (.aload_n 1, 1) := by decide +kernel
theorem dX7_become_16 : decode cX7_become 16 = .ok (.getfield 19, 3) := by decide +kernel
theorem dX7_become_19 : decode cX7_become 19 = .ok (.invokevirtual 92, 3) := by decide +kernel
theorem dX7_become_22 : decode cX7_become 22 = .ok (.aload_n 0, 1) := by decide +kernel
theorem dX7_become_23 : decode cX7_become 23 = .ok (.getfield 26, 3) := by decide +kernel
theorem dX7_become_26 : decode cX7_become 26 = .ok (.aload_n 1, 1) := by decide +kernel
theorem dX7_become_27 : decode cX7_become 27 = .ok (.getfield 26, 3) := by decide +kernel
theorem dX7_become_30 : decode cX7_become 30 = .ok (.invokevirtual 95, 3) := by decide +kernel
theorem dX7_become_33 : decode cX7_become 33 = .ok (.aload_n 0, 1) := by decide +kernel
theorem dX7_become_34 : decode cX7_become 34 = .ok (.getfield 35, 3) := by decide +kernel
theorem dX7_become_37 : decode cX7_become 37 = .ok (.aload_n 1, 1) := by decide +kernel
theorem dX7_become_38 : decode cX7_become 38 = .ok (.getfield 35, 3) := by decide +kernel
theorem dX7_become_41 : decode cX7_become 41 = .ok (.invokevirtual 70, 3) := by decide +kernel
theorem dX7_become_44 : decode cX7_become 44 = .ok (.aload_n 0, 1) := by decide +kernel
theorem dX7_become_45 : decode cX7_become 45 = .ok (.getfield 39, 3) := by decide +kernel
theorem dX7_become_48 : decode cX7_become 48 = .ok (.aload_n 1, 1) := by decide +kernel
theorem dX7_become_49 : decode cX7_become 49 = .ok (.getfield 39, 3) := by decide +kernel
theorem dX7_become_52 : decode cX7_become 52 = .ok (.invokevirtual 70, 3) := by decide +kernel
theorem dX7_become_55 : decode cX7_become 55 = .ok (.aload_n 0, 1) := by decide +kernel
theorem dX7_become_56 : decode cX7_become 56 = .ok (.getfield 45, 3) := by decide +kernel
theorem dX7_become_59 : decode cX7_become 59 = .ok (.aload_n 1, 1) := by decide +kernel
theorem dX7_become_60 : decode cX7_become 60 = .ok (.getfield 45, 3) := by decide +kernel
theorem dX7_become_63 : decode cX7_become 63 = .ok (.invokevirtual 98, 3) := by decide +kernel
theorem dX7_become_66 : decode cX7_become 66 = .ok (.aload_n 0, 1) := by decide +kernel
theorem dX7_become_67 : decode cX7_become 67 = .ok (.getfield 52, 3) := by decide +kernel
theorem dX7_become_70 : decode cX7_become 70 = .ok (.aload_n 1, 1) := by decide +kernel
theorem dX7_become_71 : decode cX7_become 71 = .ok (.getfield 52, 3) := by decide +kernel
theorem dX7_become_74 : decode cX7_become 74 = .ok (.invokevirtual 101, 3) := by decide +kernel
theorem dX7_become_77 : decode cX7_become 77 = .ok (.aload_n 0, 1) := by decide +kernel
theorem dX7_become_78 : decode cX7_become 78 = .ok (.getfield 59, 3) := by decide +kernel
theorem dX7_become_81 : decode cX7_become 81 = .ok (.aload_n 1, 1) := by decide +kernel
theorem dX7_become_82 : decode cX7_become 82 = .ok (.getfield 59, 3) := by decide +kernel
theorem dX7_become_85 : decode cX7_become 85 = .ok (.invokevirtual 104, 3) := by decide +kernel
theorem dX7_become_88 : decode cX7_become 88 = .ok (.aload_n 0, 1) := by decide +kernel
theorem dX7_become_89 : decode cX7_become 89 = .ok (.aload_n 1, 1) := by decide +kernel
theorem dX7_become_90 : decode cX7_become 90 = .ok (.getfield 63, 3) := by decide +kernel
theorem dX7_become_93 : decode cX7_become 93 = .ok (.putfield 63, 3) := by decide +kernel
theorem dX7_become_96 : decode cX7_become 96 = .ok (.aload_n 0, 1) := by decide +kernel
theorem dX7_become_97 : decode cX7_become 97 = .ok (.aload_n 1, 1) := by decide +kernel
theorem dX7_become_98 : decode cX7_become 98 = .ok (.getfield 86, 3) := by decide +kernel
theorem dX7_become_101 : decode cX7_become 101 = .ok (.putfield 86, 3) := by decide +kernel
theorem dX7_become_104 : decode cX7_become 104 = .ok (.return_, 1) := by decide +kernel
theorem dX8_init_0 : decode cX8_init 0 = .ok (.aload_n 0, 1) := by decide +kernel
theorem dX8_init_1 : decode cX8_init 1 = .ok (.invokespecial 3, 3) := by decide +kernel
theorem dX8_init_4 : decode cX8_init 4 = .ok (.aload_n 0, 1) := by decide +kernel
theorem dX8_init_5 : decode cX8_init 5 = .ok (.iconst 4, 1) := by decide +kernel
theorem dX8_init_6 : decode cX8_init 6 = .ok (.bipush 60, 2) := by decide +kernel
theorem dX8_init_8 : decode cX8_init 8 = .ok (.multianewarray 11 2, 4) := by decide +kernel
theorem dX8_init_12 : decode cX8_init 12 = .ok (.putfield 13, 3) := by decide +kernel
theorem dX8_init_15 : decode cX8_init 15 = .ok (.aload_n 0, 1) := by decide +kernel
theorem dX8_init_16 : decode cX8_init 16 = .ok (.iconst 4, 1) := by decide +kernel
theorem dX8_init_17 : decode cX8_init 17 = .ok (.bipush 60, 2) := by decide +kernel
theorem dX8_init_19 : decode cX8_init 19 = .ok (.multianewarray 11 2, 4) := by decide +kernel
theorem dX8_init_23 : decode cX8_init 23 = .ok (.putfield 16, 3) := by decide +kernel
theorem dX8_init_26 : decode cX8_init 26 = .ok (.aload_n 0, 1) := by decide +kernel
theorem dX8_init_27 : decode cX8_init 27 = .ok (.iconst 4, 1) := by decide +kernel
theorem dX8_init_28 : decode cX8_init 28 = .ok (.bipush 60, 2) := by decide +kernel
theorem dX8_init_30 : decode cX8_init 30 = .ok (.multianewarray 11 2, 4) := by decide +kernel
theorem dX8_init_34 : decode cX8_init 34 = .ok (.putfield 19, 3) := by decide +kernel
theorem dX8_init_37 : decode cX8_init 37 = .ok (.aload_n 0, 1) := by decide +kernel
theorem dX8_init_38 : decode cX8_init 38 = .ok (.iconst 4, 1) := by decide +kernel
theorem dX8_init_39 : decode cX8_init 39 = .ok (.newarray .int, 2) := by decide +kernel
theorem dX8_init_41 : decode cX8_init 41 = .ok (.putfield 22, 3) := by decide +kernel
theorem dX8_init_44 : decode cX8_init 44 = .ok (.return_, 1) := by decide +kernel
theorem dX8_become_0 : decode cX8_become 0 = .ok (.aload_n 1, 1) := by decide +kernel
theorem dX8_become_1 : decode cX8_become 1 = .ok (.getfield 13, 3) := by decide +kernel
theorem dX8_become_4 : decode cX8_become 4 = .ok (.aload_n 0, 1) := by decide +kernel
theorem dX8_become_5 : decode cX8_become 5 = .ok (.getfield 13, 3) := by decide +kernel
theorem dX8_become_8 : decode cX8_become 8 = .ok (.invokestatic 26, 3) := by decide +kernel
theorem dX8_become_11 : decode cX8_become 11 = .ok (.aload_n 1, 1) := by decide +kernel
theorem dX8_become_12 : decode cX8_become 12 = .ok (.getfield 16, 3) := by decide +kernel
theorem dX8_become_15 : decode cX8_become 15 = .ok (.aload_n 0, 1) := by decide +kernel
theorem dX8_become_16 : decode cX8_become 16 = .ok (.getfield 16, 3) := by decide +kernel
theorem dX8_become_19 : decode cX8_become 19 = .ok (.invokestatic 26, 3) := by decide +kernel
theorem dX8_become_22 : decode cX8_become 22 = .ok (.aload_n 1, 1) := by decide +kernel
theorem dX8_become_23 : decode cX8_become 23 = .ok (.getfield 19, 3) := by decide +kernel
theorem dX8_become_26 : decode cX8_become 26 = .ok (.aload_n 0, 1) := by decide +kernel
theorem dX8_become_27 : decode cX8_become 27 = .ok (.getfield 19, 3) := by decide +kernel
theorem dX8_become_30 : decode cX8_become 30 = .ok (.invokestatic 26, 3) := by decide +kernel
theorem dX8_become_33 : decode cX8_become 33 = .ok (.aload_n 1, 1) := by decide +kernel
theorem dX8_become_34 : decode cX8_become 34 = .ok (.getfield 22, 3) := by decide +kernel
theorem dX8_become_37 : decode cX8_become 37 = .ok (.aload_n 0, 1) := by decide +kernel
theorem dX8_become_38 : decode cX8_become 38 = .ok (.getfield 22, 3) := by decide +kernel
theorem dX8_become_41 : decode cX8_become 41 = .ok (.invokestatic 30, 3) := by decide +kernel
theorem dX8_become_44 : decode cX8_become 44 = .ok (.return_, 1) := by decide +kernel
theorem dX8_add_0 : decode cX8_add 0 = .ok (.aload_n 0, 1) := by decide +kernel
theorem dX8_add_1 : decode cX8_add 1 = .ok (.getfield 22, 3) := by decide +kernel
theorem dX8_add_4 : decode cX8_add 4 = .ok (.iload_n 1, 1) := by decide +kernel
theorem dX8_add_5 : decode cX8_add 5 = .ok (.iaload, 1) := by decide +kernel
theorem dX8_add_6 : decode cX8_add 6 = .ok (.istore 5, 2) := by decide +kernel
theorem dX8_add_8 : decode cX8_add 8 = .ok (.iload 5, 2) := by decide +kernel
theorem dX8_add_10 : decode cX8_add 10 = .ok (.bipush 60, 2) := by decide +kernel
theorem dX8_add_12 : decode cX8_add 12 = .ok (.if_icmp .lt 5, 3) := by decide +kernel
theorem dX8_add_15 : decode cX8_add 15 = .ok (.iconst (-1), 1) := by decide +kernel
theorem dX8_add_16 : decode cX8_add 16 = .ok (.ireturn, 1) := by decide +kernel
theorem dX8_add_17 : decode cX8_add 17 = .ok (.aload_n 0, 1) := by decide +kernel
theorem dX8_add_18 : decode cX8_add 18 = .ok (.getfield 13, 3) := by decide +kernel
theorem dX8_add_21 : decode cX8_add 21 = .ok (.iload_n 1, 1) := by decide +kernel
theorem dX8_add_22 : decode cX8_add 22 = .ok (.aaload, 1) := by decide +kernel
theorem dX8_add_23 : decode cX8_add 23 = .ok (.iload 5, 2) := by decide +kernel
theorem dX8_add_25 : decode cX8_add 25 = .ok (.iload_n 2, 1) := by decide +kernel
theorem dX8_add_26 : decode cX8_add 26 = .ok (.iastore, 1) := by decide +kernel
theorem dX8_add_27 : decode cX8_add 27 = .ok (.aload_n 0, 1) := by decide +kernel
theorem dX8_add_28 : decode cX8_add 28 = .ok (.getfield 16, 3) := by decide +kernel
theorem dX8_add_31 : decode cX8_add 31 = .ok (.iload_n 1, 1) := by decide +kernel
theorem dX8_add_32 : decode cX8_add 32 = .ok (.aaload, 1) := by decide +kernel
theorem dX8_add_33 : decode cX8_add 33 = .ok (.iload 5, 2) := by decide +kernel
theorem dX8_add_35 : decode cX8_add 35 = .ok (.iload_n 3, 1) := by decide +kernel
theorem dX8_add_36 : decode cX8_add 36 = .ok (.iastore, 1) := by decide +kernel
theorem dX8_add_37 : decode cX8_add 37 = .ok (.aload_n 0, 1) := by decide +kernel
theorem dX8_add_38 : decode cX8_add 38 = .ok (.getfield 19, 3) := by decide +kernel
theorem dX8_add_41 : decode cX8_add 41 = .ok (.iload_n 1, 1) := by decide +kernel
theorem dX8_add_42 : decode cX8_add 42 = .ok (.aaload, 1) := by decide +kernel
theorem dX8_add_43 : decode cX8_add 43 = .ok (.iload 5, 2) := by decide +kernel
theorem dX8_add_45 : decode cX8_add 45 = .ok (.iload 4, 2) := by decide +kernel
theorem dX8_add_47 : decode cX8_add 47 = .ok (.iastore, 1) := by decide +kernel
theorem dX8_add_48 : decode cX8_add 48 = .ok (.aload_n 0, 1) := by decide +kernel
theorem dX8_add_49 : decode cX8_add 49 = .ok (.getfield 22, 3) := by decide +kernel
theorem dX8_add_52 : decode cX8_add 52 = .ok (.iload_n 1, 1) := by decide +kernel
theorem dX8_add_53 : decode cX8_add 53 = .ok (.iload 5, 2) := by decide +kernel
theorem dX8_add_55 : decode cX8_add 55 = .ok (.iconst 1, 1) := by decide +kernel
theorem dX8_add_56 : decode cX8_add 56 = .ok (.iadd, 1) := by decide +kernel
theorem dX8_add_57 : decode cX8_add 57 = .ok (.iastore, 1) := by decide +kernel
theorem dX8_add_58 : decode cX8_add 58 = .ok (.aload_n 0, 1) := by decide +kernel
theorem dX8_add_59 : decode cX8_add 59 = .ok (.getfield 22, 3) := by decide +kernel
theorem dX8_add_62 : decode cX8_add 62 = .ok (.iload_n 1, 1) := by decide +kernel
theorem dX8_add_63 : decode cX8_add 63 = .ok (.iaload, 1) := by decide +kernel
theorem dX8_add_64 : decode cX8_add 64 = .ok (.ireturn, 1) := by decide +kernel
theorem dX8_walk_0 : decode cX8_walk 0 = .ok (.iconst 0, 1) := by decide +kernel
theorem dX8_walk_1 : decode cX8_walk 1 = .ok (.istore 4, 2) := by decide +kernel
theorem dX8_walk_3 : decode cX8_walk 3 = .ok (.iload 4, 2) := by decide +kernel
theorem dX8_walk_5 : decode cX8_walk 5 = .ok (.aload_n 0, 1) := by decide +kernel
theorem dX8_walk_6 : decode cX8_walk 6 = .ok (.getfield 22, 3) := by decide +kernel
theorem dX8_walk_9 : decode cX8_walk 9 = .ok (.iload_n 1, 1) := by decide +kernel
theorem dX8_walk_10 : decode cX8_walk 10 = .ok (.iaload, 1) := by decide +kernel
theorem dX8_walk_11 : decode cX8_walk 11 = .ok (.if_icmp .ge 56, 3) := by decide +kernel
theorem dX8_walk_14 : decode cX8_walk 14 = .ok (.aload_n 0, 1) := by decide +kernel
theorem dX8_walk_15 : decode cX8_walk 15 = .ok (.getfield 16, 3) := by decide +kernel
theorem dX8_walk_18 : decode cX8_walk 18 = .ok (.iload_n 1, 1) := by decide +kernel
theorem dX8_walk_19 : decode cX8_walk 19 = .ok (.aaload, 1) := by decide +kernel
theorem dX8_walk_20 : decode cX8_walk 20 = .ok (.iload 4, 2) := by decide +kernel
theorem dX8_walk_22 : decode cX8_walk 22 = .ok (.iaload, 1) := by decide +kernel
theorem dX8_walk_23 : decode cX8_walk 23 = .ok (.iload_n 2, 1) := by decide +kernel
theorem dX8_walk_24 : decode cX8_walk 24 = .ok (.if_icmp .ne 37, 3) := by decide +kernel
theorem dX8_walk_27 : decode cX8_walk 27 = .ok (.aload_n 0, 1) := by decide +kernel
theorem dX8_walk_28 : decode cX8_walk 28 = .ok (.getfield 13, 3) := by decide +kernel
theorem dX8_walk_31 : decode cX8_walk 31 = .ok (.iload_n 1, 1) := by decide +kernel
theorem dX8_walk_32 : decode cX8_walk 32 = .ok (.aaload, 1) := by decide +kernel
theorem dX8_walk_33 : decode cX8_walk 33 = .ok (.iload 4, 2) := by decide +kernel
theorem dX8_walk_35 : decode cX8_walk 35 = .ok (.iaload, 1) := by decide +kernel
theorem dX8_walk_36 : decode cX8_walk 36 = .ok (.aload_n 3, 1) := by decide +kernel
theorem dX8_walk_37 : decode cX8_walk 37 = .ok (.arraylength, 1) := by decide +kernel
theorem dX8_walk_38 : decode cX8_walk 38 = .ok (.if_icmp .ge 23, 3) := by decide +kernel
theorem dX8_walk_41 : decode cX8_walk 41 = .ok (.aload_n 3, 1) := by decide +kernel
theorem dX8_walk_42 : decode cX8_walk 42 = .ok (.aload_n 0, 1) := by decide +kernel
theorem dX8_walk_43 : decode cX8_walk 43 = .ok (.getfield 13, 3) := by decide +kernel
theorem dX8_walk_46 : decode cX8_walk 46 = .ok (.iload_n 1, 1) := by decide +kernel
theorem dX8_walk_47 : decode cX8_walk 47 = .ok (.aaload, 1) := by decide +kernel
theorem dX8_walk_48 : decode cX8_walk 48 = .ok (.iload 4, 2) := by decide +kernel
theorem dX8_walk_50 : decode cX8_walk 50 = .ok (.iaload, 1) := by decide +kernel
theorem dX8_walk_51 : decode cX8_walk 51 = .ok (.aload_n 0, 1) := by decide +kernel
theorem dX8_walk_52 : decode cX8_walk 52 = .ok (.getfield 19, 3) := by decide +kernel
theorem dX8_walk_55 : decode cX8_walk 55 = .ok (.iload_n 1, 1) := by decide +kernel
theorem dX8_walk_56 : decode cX8_walk 56 = .ok (.aaload, 1) := by decide +kernel
theorem dX8_walk_57 : decode cX8_walk 57 = .ok (.iload 4, 2) := by decide +kernel
theorem dX8_walk_59 : decode cX8_walk 59 = .ok (.iaload, 1) := by decide +kernel
theorem dX8_walk_60 : decode cX8_walk 60 = .ok (.iastore, 1) := by decide +kernel
theorem dX8_walk_61 : decode cX8_walk 61 = .ok (.iinc 4 1, 3) := by decide +kernel
theorem dX8_walk_64 : decode cX8_walk 64 = .ok (.goto (-61), 3) := by decide +kernel
theorem dX8_walk_67 : decode cX8_walk 67 = .ok (.return_, 1) := by decide +kernel
theorem dX8_lotsThatMove_0 : decode cX8_lotsThatMove 0 = .ok (.iconst 0, 1) := by decide +kernel
theorem dX8_lotsThatMove_1 : decode cX8_lotsThatMove 1 = .ok (.istore_n 1, 1) := by decide +kernel
theorem dX8_lotsThatMove_2 : decode cX8_lotsThatMove 2 = .ok (.iconst 0, 1) := by decide +kernel
theorem dX8_lotsThatMove_3 : decode cX8_lotsThatMove 3 = .ok (.istore_n 2, 1) := by decide +kernel
theorem dX8_lotsThatMove_4 : decode cX8_lotsThatMove 4 = .ok (.iload_n 2, 1) := by decide +kernel
theorem dX8_lotsThatMove_5 : decode cX8_lotsThatMove 5 = .ok (.iconst 4, 1) := by decide +kernel
theorem dX8_lotsThatMove_6 : decode cX8_lotsThatMove 6 = .ok (.if_icmp .ge 26, 3) := by decide +kernel
theorem dX8_lotsThatMove_9 : decode cX8_lotsThatMove 9 = .ok (.iload_n 1, 1) := by decide +kernel
theorem dX8_lotsThatMove_10 : decode cX8_lotsThatMove 10 = .ok (.aload_n 0, 1) := by decide +kernel
theorem dX8_lotsThatMove_11 : decode cX8_lotsThatMove 11 = .ok (.getfield 22, 3) := by decide +kernel
theorem dX8_lotsThatMove_14 : decode cX8_lotsThatMove 14 = .ok (.iload_n 2, 1) := by decide +kernel
theorem dX8_lotsThatMove_15 : decode cX8_lotsThatMove 15 = .ok (.iaload, 1) := by decide +kernel
theorem dX8_lotsThatMove_16 : decode cX8_lotsThatMove 16 = .ok (.ifCond .le 7, 3) := by decide +kernel
theorem dX8_lotsThatMove_19 : decode cX8_lotsThatMove 19 = .ok (.iconst 1, 1) := by decide +kernel
theorem dX8_lotsThatMove_20 : decode cX8_lotsThatMove 20 = .ok (.goto 4, 3) := by decide +kernel
theorem dX8_lotsThatMove_23 : decode cX8_lotsThatMove 23 = .ok (.iconst 0, 1) := by decide +kernel
theorem dX8_lotsThatMove_24 : decode cX8_lotsThatMove 24 = .ok (.iadd, 1) := by decide +kernel
theorem dX8_lotsThatMove_25 : decode cX8_lotsThatMove 25 = .ok (.istore_n 1, 1) := by decide +kernel
theorem dX8_lotsThatMove_26 : decode cX8_lotsThatMove 26 = .ok (.iinc 2 1, 3) := by decide +kernel
theorem dX8_lotsThatMove_29 : decode cX8_lotsThatMove 29 = .ok (.goto (-25), 3) := by decide +kernel
theorem dX8_lotsThatMove_32 : decode cX8_lotsThatMove 32 = .ok (.iload_n 1, 1) := by decide +kernel
theorem dX8_lotsThatMove_33 : decode cX8_lotsThatMove 33 = .ok (.ireturn, 1) := by decide +kernel
theorem dX9_init_0 : decode cX9_init 0 = .ok (.aload_n 0, 1) := by decide +kernel
theorem dX9_init_1 : decode cX9_init 1 = .ok (.invokespecial 3, 3) := by decide +kernel
theorem dX9_init_4 : decode cX9_init 4 = .ok (.aload_n 0, 1) := by decide +kernel
theorem dX9_init_5 : decode cX9_init 5 = .ok (.bipush 9, 2) := by decide +kernel
theorem dX9_init_7 : decode cX9_init 7 = .ok (.bipush 30, 2) := by decide +kernel
theorem dX9_init_9 : decode cX9_init 9 = .ok (.multianewarray 11 2, 4) := by decide +kernel
theorem dX9_init_13 : decode cX9_init 13 = .ok (.putfield 13, 3) := by decide +kernel
theorem dX9_init_16 : decode cX9_init 16 = .ok (.aload_n 0, 1) := by decide +kernel
theorem dX9_init_17 : decode cX9_init 17 = .ok (.bipush 30, 2) := by decide +kernel
theorem dX9_init_19 : decode cX9_init 19 = .ok (.newarray .int, 2) := by decide +kernel
theorem dX9_init_21 : decode cX9_init 21 = .ok (.putfield 16, 3) := by decide +kernel
theorem dX9_init_24 : decode cX9_init 24 = .ok (.aload_n 0, 1) := by decide +kernel
theorem dX9_init_25 : decode cX9_init 25 = .ok (.bipush 30, 2) := by decide +kernel
theorem dX9_init_27 : decode cX9_init 27 = .ok (.newarray .int, 2) := by decide +kernel
theorem dX9_init_29 : decode cX9_init 29 = .ok (.putfield 20, 3) := by decide +kernel
theorem dX9_init_32 : decode cX9_init 32 = .ok (.return_, 1) := by decide +kernel
theorem dX9_become_0 : decode cX9_become 0 = .ok (.aload_n 1, 1) := by decide +kernel
theorem dX9_become_1 : decode cX9_become 1 = .ok (.getfield 13, 3) := by decide +kernel
theorem dX9_become_4 : decode cX9_become 4 = .ok (.aload_n 0, 1) := by decide +kernel
theorem dX9_become_5 : decode cX9_become 5 = .ok (.getfield 13, 3) := by decide +kernel
theorem dX9_become_8 : decode cX9_become 8 = .ok (.invokestatic 23, 3) := by decide +kernel
theorem dX9_become_11 : decode cX9_become 11 = .ok (.aload_n 1, 1) := by decide +kernel
theorem dX9_become_12 : decode cX9_become 12 = .ok (.getfield 16, 3) := by decide +kernel
theorem dX9_become_15 : decode cX9_become 15 = .ok (.aload_n 0, 1) := by decide +kernel
theorem dX9_become_16 : decode cX9_become 16 = .ok (.getfield 16, 3) := by decide +kernel
theorem dX9_become_19 : decode cX9_become 19 = .ok (.invokestatic 27, 3) := by decide +kernel
theorem dX9_become_22 : decode cX9_become 22 = .ok (.aload_n 1, 1) := by decide +kernel
theorem dX9_become_23 : decode cX9_become 23 = .ok (.getfield 20, 3) := by decide +kernel
theorem dX9_become_26 : decode cX9_become 26 = .ok (.aload_n 0, 1) := by decide +kernel
theorem dX9_become_27 : decode cX9_become 27 = .ok (.getfield 20, 3) := by decide +kernel
theorem dX9_become_30 : decode cX9_become 30 = .ok (.invokestatic 27, 3) := by decide +kernel
theorem dX9_become_33 : decode cX9_become 33 = .ok (.aload_n 0, 1) := by decide +kernel
theorem dX9_become_34 : decode cX9_become 34 = .ok (.aload_n 1, 1) := by decide +kernel
theorem dX9_become_35 : decode cX9_become 35 = .ok (.getfield 31, 3) := by decide +kernel
theorem dX9_become_38 : decode cX9_become 38 = .ok (.putfield 31, 3) := by decide +kernel
theorem dX9_become_41 : decode cX9_become 41 = .ok (.return_, 1) := by decide +kernel
theorem dX9_open_0 : decode cX9_open 0 = .ok (.aload_n 0, 1) := by decide +kernel
theorem dX9_open_1 : decode cX9_open 1 = .ok (.getfield 31, 3) := by decide +kernel
theorem dX9_open_4 : decode cX9_open 4 = .ok (.istore 5, 2) := by decide +kernel
theorem dX9_open_6 : decode cX9_open 6 = .ok (.iload 5, 2) := by decide +kernel
theorem dX9_open_8 : decode cX9_open 8 = .ok (.bipush 30, 2) := by decide +kernel
theorem dX9_open_10 : decode cX9_open 10 = .ok (.if_icmp .lt 5, 3) := by decide +kernel
theorem dX9_open_13 : decode cX9_open 13 = .ok (.iconst (-1), 1) := by decide +kernel
theorem dX9_open_14 : decode cX9_open 14 = .ok (.ireturn, 1) := by decide +kernel
theorem dX9_open_15 : decode cX9_open 15 = .ok (.aload_n 0, 1) := by decide +kernel
theorem dX9_open_16 : decode cX9_open 16 = .ok (.getfield 13, 3) := by decide +kernel
theorem dX9_open_19 : decode cX9_open 19 = .ok (.iconst 0, 1) := by decide +kernel
theorem dX9_open_20 : decode cX9_open 20 = .ok (.aaload, 1) := by decide +kernel
theorem dX9_open_21 : decode cX9_open 21 = .ok (.iload 5, 2) := by decide +kernel
theorem dX9_open_23 : decode cX9_open 23 = .ok (.iload_n 1, 1) := by decide +kernel
theorem dX9_open_24 : decode cX9_open 24 = .ok (.iastore, 1) := by decide +kernel
theorem dX9_open_25 : decode cX9_open 25 = .ok (.aload_n 0, 1) := by decide +kernel
theorem dX9_open_26 : decode cX9_open 26 = .ok (.getfield 13, 3) := by decide +kernel
theorem dX9_open_29 : decode cX9_open 29 = .ok (.iconst 1, 1) := by decide +kernel
theorem dX9_open_30 : decode cX9_open 30 = .ok (.aaload, 1) := by decide +kernel
theorem dX9_open_31 : decode cX9_open 31 = .ok (.iload 5, 2) := by decide +kernel
theorem dX9_open_33 : decode cX9_open 33 = .ok (.iload_n 2, 1) := by decide +kernel
theorem dX9_open_34 : decode cX9_open 34 = .ok (.iastore, 1) := by decide +kernel
theorem dX9_open_35 : decode cX9_open 35 = .ok (.aload_n 0, 1) := by decide +kernel
theorem dX9_open_36 : decode cX9_open 36 = .ok (.getfield 13, 3) := by decide +kernel
theorem dX9_open_39 : decode cX9_open 39 = .ok (.iconst 2, 1) := by decide +kernel
theorem dX9_open_40 : decode cX9_open 40 = .ok (.aaload, 1) := by decide +kernel
theorem dX9_open_41 : decode cX9_open 41 = .ok (.iload 5, 2) := by decide +kernel
theorem dX9_open_43 : decode cX9_open 43 = .ok (.iload_n 3, 1) := by decide +kernel
theorem dX9_open_44 : decode cX9_open 44 = .ok (.iastore, 1) := by decide +kernel
theorem dX9_open_45 : decode cX9_open 45 = .ok (.aload_n 0, 1) := by decide +kernel
theorem dX9_open_46 : decode cX9_open 46 = .ok (.getfield 13, 3) := by decide +kernel
theorem dX9_open_49 : decode cX9_open 49 = .ok (.iconst 3, 1) := by decide +kernel
theorem dX9_open_50 : decode cX9_open 50 = .ok (.aaload, 1) := by decide +kernel
theorem dX9_open_51 : decode cX9_open 51 = .ok (.iload 5, 2) := by decide +kernel
theorem dX9_open_53 : decode cX9_open 53 = .ok (.iload 4, 2) := by decide +kernel
theorem dX9_open_55 : decode cX9_open 55 = .ok (.iastore, 1) := by decide +kernel
theorem dX9_open_56 : decode cX9_open 56 = .ok (.aload_n 0, 1) := by decide +kernel
theorem dX9_open_57 : decode cX9_open 57 = .ok (.getfield 13, 3) := by decide +kernel
theorem dX9_open_60 : decode cX9_open 60 = .ok (.bipush 8, 2) := by decide +kernel
theorem dX9_open_62 : decode cX9_open 62 = .ok (.aaload, 1) := by decide +kernel
theorem dX9_open_63 : decode cX9_open 63 = .ok (.iload 5, 2) := by decide +kernel
theorem dX9_open_65 : decode cX9_open 65 = .ok (.iconst (-1), 1) := by decide +kernel
theorem dX9_open_66 : decode cX9_open 66 = .ok (.iastore, 1) := by decide +kernel
theorem dX9_open_67 : decode cX9_open 67 = .ok (.aload_n 0, 1) := by decide +kernel
theorem dX9_open_68 : decode cX9_open 68 = .ok (.dup, 1) := by decide +kernel
theorem dX9_open_69 : decode cX9_open 69 = .ok (.getfield 31, 3) := by decide +kernel
theorem dX9_open_72 : decode cX9_open 72 = .ok (.iconst 1, 1) := by decide +kernel
theorem dX9_open_73 : decode cX9_open 73 = .ok (.iadd, 1) := by decide +kernel
theorem dX9_open_74 : decode cX9_open 74 = .ok (.putfield 31, 3) := by decide +kernel
theorem dX9_open_77 : decode cX9_open 77 = .ok (.iload 5, 2) := by decide +kernel
theorem dX9_open_79 : decode cX9_open 79 = .ok (.ireturn, 1) := by decide +kernel
theorem dX9_fill_0 : decode cX9_fill 0 = .ok (.iload_n 1, 1) := by decide +kernel
theorem dX9_fill_1 : decode cX9_fill 1 = .ok (.ifCond .lt 49, 3) := by decide +kernel
theorem dX9_fill_4 : decode cX9_fill 4 = .ok (.iload_n 1, 1) := by decide +kernel
theorem dX9_fill_5 : decode cX9_fill 5 = .ok (.bipush 30, 2) := by decide +kernel
theorem dX9_fill_7 : decode cX9_fill 7 = .ok (.if_icmp .ge 43, 3) := by decide +kernel
theorem dX9_fill_10 : decode cX9_fill 10 = .ok (.aload_n 0, 1) := by decide +kernel
theorem dX9_fill_11 : decode cX9_fill 11 = .ok (.getfield 13, 3) := by decide +kernel
theorem dX9_fill_14 : decode cX9_fill 14 = .ok (.iconst 4, 1) := by decide +kernel
theorem dX9_fill_15 : decode cX9_fill 15 = .ok (.aaload, 1) := by decide +kernel
theorem dX9_fill_16 : decode cX9_fill 16 = .ok (.iload_n 1, 1) := by decide +kernel
theorem dX9_fill_17 : decode cX9_fill 17 = .ok (.iload_n 2, 1) := by decide +kernel
theorem dX9_fill_18 : decode cX9_fill 18 = .ok (.iastore, 1) := by decide +kernel
theorem dX9_fill_19 : decode cX9_fill 19 = .ok (.aload_n 0, 1) := by decide +kernel
theorem dX9_fill_20 : decode cX9_fill 20 = .ok (.getfield 13, 3) := by decide +kernel
theorem dX9_fill_23 : decode cX9_fill 23 = .ok (.iconst 5, 1) := by decide +kernel
theorem dX9_fill_24 : decode cX9_fill 24 = .ok (.aaload, 1) := by decide +kernel
theorem dX9_fill_25 : decode cX9_fill 25 = .ok (.iload_n 1, 1) := by decide +kernel
theorem dX9_fill_26 : decode cX9_fill 26 = .ok (.iload_n 3, 1) := by decide +kernel
theorem dX9_fill_27 : decode cX9_fill 27 = .ok (.iastore, 1) := by decide +kernel
theorem dX9_fill_28 : decode cX9_fill 28 = .ok (.aload_n 0, 1) := by decide +kernel
theorem dX9_fill_29 : decode cX9_fill 29 = .ok (.getfield 13, 3) := by decide +kernel
theorem dX9_fill_32 : decode cX9_fill 32 = .ok (.bipush 6, 2) := by decide +kernel
theorem dX9_fill_34 : decode cX9_fill 34 = .ok (.aaload, 1) := by decide +kernel
theorem dX9_fill_35 : decode cX9_fill 35 = .ok (.iload_n 1, 1) := by decide +kernel
theorem dX9_fill_36 : decode cX9_fill 36 = .ok (.iload 4, 2) := by decide +kernel
theorem dX9_fill_38 : decode cX9_fill 38 = .ok (.iastore, 1) := by decide +kernel
theorem dX9_fill_39 : decode cX9_fill 39 = .ok (.aload_n 0, 1) := by decide +kernel
theorem dX9_fill_40 : decode cX9_fill 40 = .ok (.getfield 13, 3) := by decide +kernel
theorem dX9_fill_43 : decode cX9_fill 43 = .ok (.bipush 7, 2) := by decide +kernel
theorem dX9_fill_45 : decode cX9_fill 45 = .ok (.aaload, 1) := by decide +kernel
theorem dX9_fill_46 : decode cX9_fill 46 = .ok (.iload_n 1, 1) := by decide +kernel
theorem dX9_fill_47 : decode cX9_fill 47 = .ok (.iload 5, 2) := by decide +kernel
theorem dX9_fill_49 : decode cX9_fill 49 = .ok (.iastore, 1) := by decide +kernel
theorem dX9_fill_50 : decode cX9_fill 50 = .ok (.return_, 1) := by decide +kernel
theorem dX9_link_0 : decode cX9_link 0 = .ok (.iload_n 1, 1) := by decide +kernel
theorem dX9_link_1 : decode cX9_link 1 = .ok (.ifCond .lt 31, 3) := by decide +kernel
theorem dX9_link_4 : decode cX9_link 4 = .ok (.iload_n 1, 1) := by decide +kernel
theorem dX9_link_5 : decode cX9_link 5 = .ok (.bipush 30, 2) := by decide +kernel
theorem dX9_link_7 : decode cX9_link 7 = .ok (.if_icmp .ge 25, 3) := by decide +kernel
theorem dX9_link_10 : decode cX9_link 10 = .ok (.aload_n 0, 1) := by decide +kernel
theorem dX9_link_11 : decode cX9_link 11 = .ok (.getfield 13, 3) := by decide +kernel
theorem dX9_link_14 : decode cX9_link 14 = .ok (.bipush 8, 2) := by decide +kernel
theorem dX9_link_16 : decode cX9_link 16 = .ok (.aaload, 1) := by decide +kernel
theorem dX9_link_17 : decode cX9_link 17 = .ok (.iload_n 1, 1) := by decide +kernel
theorem dX9_link_18 : decode cX9_link 18 = .ok (.iload_n 2, 1) := by decide +kernel
theorem dX9_link_19 : decode cX9_link 19 = .ok (.iastore, 1) := by decide +kernel
theorem dX9_link_20 : decode cX9_link 20 = .ok (.aload_n 0, 1) := by decide +kernel
theorem dX9_link_21 : decode cX9_link 21 = .ok (.getfield 16, 3) := by decide +kernel
theorem dX9_link_24 : decode cX9_link 24 = .ok (.iload_n 2, 1) := by decide +kernel
theorem dX9_link_25 : decode cX9_link 25 = .ok (.dup2, 1) := by decide +kernel
theorem dX9_link_26 : decode cX9_link 26 = .ok (.iaload, 1) := by decide +kernel
theorem dX9_link_27 : decode cX9_link 27 = .ok (.iconst 1, 1) := by decide +kernel
theorem dX9_link_28 : decode cX9_link 28 = .ok (.iload_n 1, 1) := by decide +kernel
theorem dX9_link_29 : decode cX9_link 29 = .ok (.ishl, 1) := by decide +kernel
theorem dX9_link_30 : decode cX9_link 30 = .ok (.ior, 1) := by decide +kernel
theorem dX9_link_31 : decode cX9_link 31 = .ok (.iastore, 1) := by decide +kernel
theorem dX9_link_32 : decode cX9_link 32 = .ok (.return_, 1) := by decide +kernel
theorem dX9_isDead_0 : decode cX9_isDead 0 = .ok (.iload_n 2, 1) := by decide +kernel
theorem dX9_isDead_1 : decode cX9_isDead 1 = .ok (.aload_n 0, 1) := by decide +kernel
theorem dX9_isDead_2 : decode cX9_isDead 2 = .ok (.getfield 13, 3) := by decide +kernel
theorem dX9_isDead_5 : decode cX9_isDead 5 = .ok (.iconst 2, 1) := by decide +kernel
theorem dX9_isDead_6 : decode cX9_isDead 6 = .ok (.aaload, 1) := by decide +kernel
theorem dX9_isDead_7 : decode cX9_isDead 7 = .ok (.iload_n 1, 1) := by decide +kernel
theorem dX9_isDead_8 : decode cX9_isDead 8 = .ok (.iaload, 1) := by decide +kernel
theorem dX9_isDead_9 : decode cX9_isDead 9 = .ok (.aload_n 0, 1) := by decide +kernel
theorem dX9_isDead_10 : decode cX9_isDead 10 = .ok (.getfield 13, 3) := by decide +kernel
theorem dX9_isDead_13 : decode cX9_isDead 13 = .ok (.iconst 3, 1) := by decide +kernel
theorem dX9_isDead_14 : decode cX9_isDead 14 = .ok (.aaload, 1) := by decide +kernel
theorem dX9_isDead_15 : decode cX9_isDead 15 = .ok (.iload_n 1, 1) := by decide +kernel
theorem dX9_isDead_16 : decode cX9_isDead 16 = .ok (.iaload, 1) := by decide +kernel
theorem dX9_isDead_17 : decode cX9_isDead 17 = .ok (.iadd, 1) := by decide +kernel
theorem dX9_isDead_18 : decode cX9_isDead 18 = .ok (.if_icmp .lt 7, 3) := by decide +kernel
theorem dX9_isDead_21 : decode cX9_isDead 21 = .ok (.iconst 1, 1) := by decide +kernel
theorem dX9_isDead_22 : decode cX9_isDead 22 = .ok (.goto 4, 3) := by decide +kernel
theorem dX9_isDead_25 : decode cX9_isDead 25 = .ok (.iconst 0, 1) := by decide +kernel
theorem dX9_isDead_26 : decode cX9_isDead 26 = .ok (.ireturn, 1) := by decide +kernel
theorem dX9_setVerdict_0 : decode cX9_setVerdict 0 = .ok (.aload_n 0, 1) := by decide +kernel
theorem dX9_setVerdict_1 : decode cX9_setVerdict 1 = .ok (.getfield 20, 3) := by decide +kernel
theorem dX9_setVerdict_4 : decode cX9_setVerdict 4 = .ok (.iload_n 1, 1) := by decide +kernel
theorem dX9_setVerdict_5 : decode cX9_setVerdict 5 = .ok (.iaload, 1) := by decide +kernel
theorem dX9_setVerdict_6 : decode cX9_setVerdict 6 = .ok (.istore_n 3, 1) := by decide +kernel
theorem dX9_setVerdict_7 : decode cX9_setVerdict 7 = .ok (.aload_n 0, 1) := by decide +kernel
theorem dX9_setVerdict_8 : decode cX9_setVerdict 8 = .ok (.getfield 20, 3) := by decide +kernel
theorem dX9_setVerdict_11 : decode cX9_setVerdict 11 = .ok (.iload_n 1, 1) := by decide +kernel
theorem dX9_setVerdict_12 : decode cX9_setVerdict 12 = .ok (.iload_n 2, 1) := by decide +kernel
theorem dX9_setVerdict_13 : decode cX9_setVerdict 13 = .ok (.ifCond .eq 7, 3) := by decide +kernel
theorem dX9_setVerdict_16 : decode cX9_setVerdict 16 = .ok (.iconst 1, 1) := by decide +kernel
theorem dX9_setVerdict_17 : decode cX9_setVerdict 17 = .ok (.goto 4, 3) := by decide +kernel
theorem dX9_setVerdict_20 : decode cX9_setVerdict 20 = .ok (.iconst 2, 1) := by decide +kernel
theorem dX9_setVerdict_21 : decode cX9_setVerdict 21 = .ok (.iastore, 1) := by decide +kernel
theorem dX9_setVerdict_22 : decode cX9_setVerdict 22 = .ok (.iload_n 3, 1) := by decide +kernel
theorem dX9_setVerdict_23 : decode cX9_setVerdict 23 = .ok (.aload_n 0, 1) := by decide +kernel
theorem dX9_setVerdict_24 : decode cX9_setVerdict 24 = .ok (.getfield 20, 3) := by decide +kernel
theorem dX9_setVerdict_27 : decode cX9_setVerdict 27 = .ok (.iload_n 1, 1) := by decide +kernel
theorem dX9_setVerdict_28 : decode cX9_setVerdict 28 = .ok (.iaload, 1) := by decide +kernel
theorem dX9_setVerdict_29 : decode cX9_setVerdict 29 = .ok (.if_icmp .eq 7, 3) := by decide +kernel
theorem dX9_setVerdict_32 : decode cX9_setVerdict 32 = .ok (.iconst 1, 1) := by decide +kernel
theorem dX9_setVerdict_33 : decode cX9_setVerdict 33 = .ok (.goto 4, 3) := by decide +kernel
theorem dX9_setVerdict_36 : decode cX9_setVerdict 36 = .ok (.iconst 0, 1) := by decide +kernel
theorem dX9_setVerdict_37 : decode cX9_setVerdict 37 = .ok (.ireturn, 1) := by decide +kernel
theorem dX9_trust_0 : decode cX9_trust 0 = .ok (.iconst 0, 1) := by decide +kernel
theorem dX9_trust_1 : decode cX9_trust 1 = .ok (.istore_n 2, 1) := by decide +kernel
theorem dX9_trust_2 : decode cX9_trust 2 = .ok (.iconst 0, 1) := by decide +kernel
theorem dX9_trust_3 : decode cX9_trust 3 = .ok (.istore_n 3, 1) := by decide +kernel
theorem dX9_trust_4 : decode cX9_trust 4 = .ok (.iconst 0, 1) := by decide +kernel
theorem dX9_trust_5 : decode cX9_trust 5 = .ok (.istore 4, 2) := by decide +kernel
theorem dX9_trust_7 : decode cX9_trust 7 = .ok (.iload 4, 2) := by decide +kernel
theorem dX9_trust_9 : decode cX9_trust 9 = .ok (.aload_n 0, 1) := by decide +kernel
theorem dX9_trust_10 : decode cX9_trust 10 = .ok (.getfield 31, 3) := by decide +kernel
theorem dX9_trust_13 : decode cX9_trust 13 = .ok (.if_icmp .ge 54, 3) := by decide +kernel
theorem dX9_trust_16 : decode cX9_trust 16 = .ok (.aload_n 0, 1) := by decide +kernel
theorem dX9_trust_17 : decode cX9_trust 17 = .ok (.getfield 13, 3) := by decide +kernel
theorem dX9_trust_20 : decode cX9_trust 20 = .ok (.iconst 1, 1) := by decide +kernel
theorem dX9_trust_21 : decode cX9_trust 21 = .ok (.aaload, 1) := by decide +kernel
theorem dX9_trust_22 : decode cX9_trust 22 = .ok (.iload 4, 2) := by decide +kernel
theorem dX9_trust_24 : decode cX9_trust 24 = .ok (.iaload, 1) := by decide +kernel
theorem dX9_trust_25 : decode cX9_trust 25 = .ok (.iload_n 1, 1) := by decide +kernel
theorem dX9_trust_26 : decode cX9_trust 26 = .ok (.if_icmp .ne 35, 3) := by decide +kernel
theorem dX9_trust_29 : decode cX9_trust 29 = .ok (.aload_n 0, 1) := by decide +kernel
theorem dX9_trust_30 : decode cX9_trust 30 = .ok (.getfield 20, 3) := by decide +kernel
theorem dX9_trust_33 : decode cX9_trust 33 = .ok (.iload 4, 2) := by decide +kernel
theorem dX9_trust_35 : decode cX9_trust 35 = .ok (.iaload, 1) := by decide +kernel
theorem dX9_trust_36 : decode cX9_trust 36 = .ok (.ifCond .eq 25, 3) := by decide +kernel
theorem dX9_trust_39 : decode cX9_trust 39 = .ok (.iinc 2 1, 3) := by decide +kernel
theorem dX9_trust_42 : decode cX9_trust 42 = .ok (.iload_n 3, 1) := by decide +kernel
theorem dX9_trust_43 : decode cX9_trust 43 = .ok (.aload_n 0, 1) := by decide +kernel
theorem dX9_trust_44 : decode cX9_trust 44 = .ok (.getfield 20, 3) := by decide +kernel
theorem dX9_trust_47 : decode cX9_trust 47 = .ok (.iload 4, 2) := by decide +kernel
theorem dX9_trust_49 : decode cX9_trust 49 = .ok (.iaload, 1) := by decide +kernel
theorem dX9_trust_50 : decode cX9_trust 50 = .ok (.iconst 1, 1) := by decide +kernel
theorem dX9_trust_51 : decode cX9_trust 51 = .ok (.if_icmp .ne 7, 3) := by decide +kernel
theorem dX9_trust_54 : decode cX9_trust 54 = .ok (.iconst 1, 1) := by decide +kernel
theorem dX9_trust_55 : decode cX9_trust 55 = .ok (.goto 4, 3) := by decide +kernel
theorem dX9_trust_58 : decode cX9_trust 58 = .ok (.iconst 0, 1) := by decide +kernel
theorem dX9_trust_59 : decode cX9_trust 59 = .ok (.iadd, 1) := by decide +kernel
theorem dX9_trust_60 : decode cX9_trust 60 = .ok (.istore_n 3, 1) := by decide +kernel
theorem dX9_trust_61 : decode cX9_trust 61 = .ok (.iinc 4 1, 3) := by decide +kernel
theorem dX9_trust_64 : decode cX9_trust 64 = .ok (.goto (-57), 3) := by decide +kernel
theorem dX9_trust_67 : decode cX9_trust 67 = .ok (.sipush 1000, 3) := by decide +kernel
theorem dX9_trust_70 : decode cX9_trust 70 = .ok (.iload_n 3, 1) := by decide +kernel
theorem dX9_trust_71 : decode cX9_trust 71 = .ok (.iconst 1, 1) := by decide +kernel
theorem dX9_trust_72 : decode cX9_trust 72 = .ok (.iadd, 1) := by decide +kernel
theorem dX9_trust_73 : decode cX9_trust 73 = .ok (.imul, 1) := by decide +kernel
theorem dX9_trust_74 : decode cX9_trust 74 = .ok (.iload_n 2, 1) := by decide +kernel
theorem dX9_trust_75 : decode cX9_trust 75 = .ok (.iconst 2, 1) := by decide +kernel
theorem dX9_trust_76 : decode cX9_trust 76 = .ok (.iadd, 1) := by decide +kernel
theorem dX9_trust_77 : decode cX9_trust 77 = .ok (.idiv, 1) := by decide +kernel
theorem dX9_trust_78 : decode cX9_trust 78 = .ok (.ireturn, 1) := by decide +kernel
theorem dX10_init_0 : decode cX10_init 0 = .ok (.aload_n 0, 1) := by decide +kernel
theorem dX10_init_1 : decode cX10_init 1 = .ok (.invokespecial 1, 3) := by decide +kernel
theorem dX10_init_4 : decode cX10_init 4 = .ok (.aload_n 0, 1) := by decide +kernel
theorem dX10_init_5 : decode cX10_init 5 = .ok (.new 7, 3) := by decide +kernel
theorem dX10_init_8 : decode cX10_init 8 = .ok (.dup, 1) := by decide +kernel
theorem dX10_init_9 : decode cX10_init 9 = .ok (.invokespecial 9, 3) := by decide +kernel
theorem dX10_init_12 : decode cX10_init 12 = .ok (.putfield 10, 3) := by decide +kernel
theorem dX10_init_15 : decode cX10_init 15 = .ok (.aload_n 0, 1) := by decide +kernel
theorem dX10_init_16 : decode cX10_init 16 = .ok (.new 16, 3) := by decide +kernel
theorem dX10_init_19 : decode cX10_init 19 = .ok (.dup, 1) := by decide +kernel
theorem dX10_init_20 : decode cX10_init 20 = .ok (.invokespecial 18, 3) := by decide +kernel
theorem dX10_init_23 : decode cX10_init 23 = .ok (.putfield 19, 3) := by decide +kernel
theorem dX10_init_26 : decode cX10_init 26 = .ok (.aload_n 0, 1) := by decide +kernel
theorem dX10_init_27 : decode cX10_init 27 = .ok (.new 23, 3) := by decide +kernel
theorem dX10_init_30 : decode cX10_init 30 = .ok (.dup, 1) := by decide +kernel
theorem dX10_init_31 : decode cX10_init 31 = .ok (.aload_n 0, 1) := by decide +kernel
theorem dX10_init_32 : decode cX10_init 32 = .ok (.getfield 19, 3) := by decide +kernel
theorem dX10_init_35 : decode cX10_init 35 = .ok (.getfield 25, 3) := by decide +kernel
theorem dX10_init_38 : decode cX10_init 38 = .ok (.aload_n 0, 1) := by decide +kernel
theorem dX10_init_39 : decode cX10_init 39 = .ok (.getfield 19, 3) := by decide +kernel
theorem dX10_init_42 : decode cX10_init 42 = .ok (.getfield 29, 3) := by decide +kernel
theorem dX10_init_45 : decode cX10_init 45 = .ok (.invokespecial 33, 3) := by decide +kernel
theorem dX10_init_48 : decode cX10_init 48 = .ok (.putfield 36, 3) := by decide +kernel
theorem dX10_init_51 : decode cX10_init 51 = .ok (.aload_n 0, 1) := by decide +kernel
theorem dX10_init_52 : decode cX10_init 52 = .ok (.new 40, 3) := by decide +kernel
theorem dX10_init_55 : decode cX10_init 55 = .ok (.dup, 1) := by decide +kernel
theorem dX10_init_56 : decode cX10_init 56 = .ok (.aload_n 0, 1) := by decide +kernel
theorem dX10_init_57 : decode cX10_init 57 = .ok (.getfield 19, 3) := by decide +kernel
theorem dX10_init_60 : decode cX10_init 60 = .ok (.getfield 25, 3) := by decide +kernel
theorem dX10_init_63 : decode cX10_init 63 = .ok (.aload_n 0, 1) := by decide +kernel
theorem dX10_init_64 : decode cX10_init 64 = .ok (.getfield 19, 3) := by decide +kernel
theorem dX10_init_67 : decode cX10_init 67 = .ok (.getfield 42, 3) := by decide +kernel
theorem dX10_init_70 : decode cX10_init 70 = .ok (.invokespecial 45, 3) := by decide +kernel
theorem dX10_init_73 : decode cX10_init 73 = .ok (.putfield 48, 3) := by decide +kernel
theorem dX10_init_76 : decode cX10_init 76 = .ok (.return_, 1) := by decide +kernel
theorem dX10_feed_0 : decode cX10_feed 0 = .ok (.aload_n 0, 1) := by decide +kernel
theorem dX10_feed_1 : decode cX10_feed 1 = .ok (.getfield 10, 3) := by decide +kernel
theorem dX10_feed_4 : decode cX10_feed 4 = .ok (.bipush 20, 2) := by decide +kernel
theorem dX10_feed_6 : decode cX10_feed 6 = .ok (.invokevirtual 52, 3) := by decide +kernel
theorem dX10_feed_9 : decode cX10_feed 9 = .ok (.ifCond .ne 5, 3) := by decide +kernel
theorem dX10_feed_12 : decode cX10_feed 12 = .ok (.iconst (-1), 1) := by decide +kernel
theorem dX10_feed_13 : decode cX10_feed 13 = .ok (.ireturn, 1) := by decide +kernel
theorem dX10_feed_14 : decode cX10_feed 14 = .ok (.aload_n 0, 1) := by decide +kernel
theorem dX10_feed_15 : decode cX10_feed 15 = .ok (.getfield 10, 3) := by decide +kernel
theorem dX10_feed_18 : decode cX10_feed 18 = .ok (.iload_n 1, 1) := by decide +kernel
theorem dX10_feed_19 : decode cX10_feed 19 = .ok (.invokevirtual 56, 3) := by decide +kernel
theorem dX10_feed_22 : decode cX10_feed 22 = .ok (.aload_n 0, 1) := by decide +kernel
theorem dX10_feed_23 : decode cX10_feed 23 = .ok (.getfield 10, 3) := by decide +kernel
theorem dX10_feed_26 : decode cX10_feed 26 = .ok (.iload_n 2, 1) := by decide +kernel
theorem dX10_feed_27 : decode cX10_feed 27 = .ok (.invokevirtual 56, 3) := by decide +kernel
theorem dX10_feed_30 : decode cX10_feed 30 = .ok (.aload_n 0, 1) := by decide +kernel
theorem dX10_feed_31 : decode cX10_feed 31 = .ok (.getfield 10, 3) := by decide +kernel
theorem dX10_feed_34 : decode cX10_feed 34 = .ok (.iload_n 3, 1) := by decide +kernel
theorem dX10_feed_35 : decode cX10_feed 35 = .ok (.invokevirtual 56, 3) := by decide +kernel
theorem dX10_feed_38 : decode cX10_feed 38 = .ok (.aload_n 0, 1) := by decide +kernel
theorem dX10_feed_39 : decode cX10_feed 39 = .ok (.getfield 10, 3) := by decide +kernel
theorem dX10_feed_42 : decode cX10_feed 42 = .ok (.iload 4, 2) := by decide +kernel
theorem dX10_feed_44 : decode cX10_feed 44 = .ok (.invokevirtual 56, 3) := by decide +kernel
theorem dX10_feed_47 : decode cX10_feed 47 = .ok (.aload_n 0, 1) := by decide +kernel
theorem dX10_feed_48 : decode cX10_feed 48 = .ok (.getfield 10, 3) := by decide +kernel
theorem dX10_feed_51 : decode cX10_feed 51 = .ok (.iload 5, 2) := by decide +kernel
theorem dX10_feed_53 : decode cX10_feed 53 = .ok (.invokevirtual 56, 3) := by decide +kernel
theorem dX10_feed_56 : decode cX10_feed 56 = .ok (.aload_n 0, 1) := by decide +kernel
theorem dX10_feed_57 : decode cX10_feed 57 = .ok (.getfield 10, 3) := by decide +kernel
theorem dX10_feed_60 : decode cX10_feed 60 = .ok (.getfield 60, 3) := by decide +kernel
theorem dX10_feed_63 : decode cX10_feed 63 = .ok (.ireturn, 1) := by decide +kernel
theorem dX10_end_0 : decode cX10_end 0 = .ok (.iload_n 1, 1) := by decide +kernel
theorem dX10_end_1 : decode cX10_end 1 = .ok (.ifCond .lt 14, 3) := by decide +kernel
theorem dX10_end_4 : decode cX10_end 4 = .ok (.iload_n 1, 1) := by decide +kernel
theorem dX10_end_5 : decode cX10_end 5 = .ok (.aload_n 0, 1) := by decide +kernel
theorem dX10_end_6 : decode cX10_end 6 = .ok (.getfield 10, 3) := by decide +kernel
theorem dX10_end_9 : decode cX10_end 9 = .ok (.getfield 60, 3) := by decide +kernel
theorem dX10_end_12 : decode cX10_end 12 = .ok (.if_icmp .le 5, 3) := by decide +kernel
theorem dX10_end_15 : decode cX10_end 15 = .ok (.iconst 0, 1) := by decide +kernel
theorem dX10_end_16 : decode cX10_end 16 = .ok (.ireturn, 1) := by decide +kernel
theorem dX10_end_17 : decode cX10_end 17 = .ok (.aload_n 0, 1) := by decide +kernel
theorem dX10_end_18 : decode cX10_end 18 = .ok (.getfield 10, 3) := by decide +kernel
theorem dX10_end_21 : decode cX10_end 21 = .ok (.iload_n 1, 1) := by decide +kernel
theorem dX10_end_22 : decode cX10_end 22 = .ok (.putfield 60, 3) := by decide +kernel
theorem dX10_end_25 : decode cX10_end 25 = .ok (.iconst 1, 1) := by decide +kernel
theorem dX10_end_26 : decode cX10_end 26 = .ok (.ireturn, 1) := by decide +kernel
theorem dX10_phone_0 : decode cX10_phone 0 = .ok (.iload_n 1, 1) := by decide +kernel
theorem dX10_phone_1 : decode cX10_phone 1 = .ok (.invokestatic 64, 3) := by decide +kernel
theorem dX10_phone_4 : decode cX10_phone 4 = .ok (.iload_n 2, 1) := by decide +kernel
theorem dX10_phone_5 : decode cX10_phone 5 = .ok (.iconst 0, 1) := by decide +kernel
theorem dX10_phone_6 : decode cX10_phone 6 = .ok (.sipush 1000, 3) := by decide +kernel
theorem dX10_phone_9 : decode cX10_phone 9 = .ok (.invokestatic 67, 3) := by decide +kernel
theorem dX10_phone_12 : decode cX10_phone 12 = .ok (.iload_n 3, 1) := by decide +kernel
theorem dX10_phone_13 : decode cX10_phone 13 = .ok (.iconst 1, 1) := by decide +kernel
theorem dX10_phone_14 : decode cX10_phone 14 = .ok (.bipush 12, 2) := by decide +kernel
theorem dX10_phone_16 : decode cX10_phone 16 = .ok (.invokestatic 67, 3) := by decide +kernel
theorem dX10_phone_19 : decode cX10_phone 19 = .ok (.iload 4, 2) := by decide +kernel
theorem dX10_phone_21 : decode cX10_phone 21 = .ok (.iconst 0, 1) := by decide +kernel
theorem dX10_phone_22 : decode cX10_phone 22 = .ok (.bipush 9, 2) := by decide +kernel
theorem dX10_phone_24 : decode cX10_phone 24 = .ok (.invokestatic 67, 3) := by decide +kernel
theorem dX10_phone_27 : decode cX10_phone 27 = .ok (.aload_n 0, 1) := by decide +kernel
theorem dX10_phone_28 : decode cX10_phone 28 = .ok (.getfield 19, 3) := by decide +kernel
theorem dX10_phone_31 : decode cX10_phone 31 = .ok (.getfield 42, 3) := by decide +kernel
theorem dX10_phone_34 : decode cX10_phone 34 = .ok (.getfield 71, 3) := by decide +kernel
theorem dX10_phone_37 : decode cX10_phone 37 = .ok (.bipush 10, 2) := by decide +kernel
theorem dX10_phone_39 : decode cX10_phone 39 = .ok (.invokestatic 74, 3) := by decide +kernel
theorem dX10_phone_42 : decode cX10_phone 42 = .ok (.aload_n 0, 1) := by decide +kernel
theorem dX10_phone_43 : decode cX10_phone 43 = .ok (.invokevirtual 78, 3) := by decide +kernel
theorem dX10_phone_46 : decode cX10_phone 46 = .ok (.aload_n 0, 1) := by decide +kernel
theorem dX10_phone_47 : decode cX10_phone 47 = .ok (.getfield 19, 3) := by decide +kernel
theorem dX10_phone_50 : decode cX10_phone 50 = .ok (.getfield 42, 3) := by decide +kernel
theorem dX10_phone_53 : decode cX10_phone 53 = .ok (.iload_n 1, 1) := by decide +kernel
theorem dX10_phone_54 : decode cX10_phone 54 = .ok (.iload_n 2, 1) := by decide +kernel
theorem dX10_phone_55 : decode cX10_phone 55 = .ok (.iload_n 3, 1) := by decide +kernel
theorem dX10_phone_56 : decode cX10_phone 56 = .ok (.iload 4, 2) := by decide +kernel
theorem dX10_phone_58 : decode cX10_phone 58 = .ok (.invokevirtual 81, 3) := by decide +kernel
theorem dX10_phone_61 : decode cX10_phone 61 = .ok (.ireturn, 1) := by decide +kernel
theorem dX10_move_0 : decode cX10_move 0 = .ok (.iload_n 1, 1) := by decide +kernel
theorem dX10_move_1 : decode cX10_move 1 = .ok (.iconst 4, 1) := by decide +kernel
theorem dX10_move_2 : decode cX10_move 2 = .ok (.invokestatic 87, 3) := by decide +kernel
theorem dX10_move_5 : decode cX10_move 5 = .ok (.aload_n 0, 1) := by decide +kernel
theorem dX10_move_6 : decode cX10_move 6 = .ok (.iload_n 2, 1) := by decide +kernel
theorem dX10_move_7 : decode cX10_move 7 = .ok (.invokevirtual 90, 3) := by decide +kernel
theorem dX10_move_10 : decode cX10_move 10 = .ok (.iload 4, 2) := by decide +kernel
theorem dX10_move_12 : decode cX10_move 12 = .ok (.invokestatic 64, 3) := by decide +kernel
theorem dX10_move_15 : decode cX10_move 15 = .ok (.iload_n 3, 1) := by decide +kernel
theorem dX10_move_16 : decode cX10_move 16 = .ok (.aload_n 0, 1) := by decide +kernel
theorem dX10_move_17 : decode cX10_move 17 = .ok (.getfield 19, 3) := by decide +kernel
theorem dX10_move_20 : decode cX10_move 20 = .ok (.getfield 42, 3) := by decide +kernel
theorem dX10_move_23 : decode cX10_move 23 = .ok (.getfield 93, 3) := by decide +kernel
theorem dX10_move_26 : decode cX10_move 26 = .ok (.iconst 1, 1) := by decide +kernel
theorem dX10_move_27 : decode cX10_move 27 = .ok (.iadd, 1) := by decide +kernel
theorem dX10_move_28 : decode cX10_move 28 = .ok (.sipush 400, 3) := by decide +kernel
theorem dX10_move_31 : decode cX10_move 31 = .ok (.invokestatic 67, 3) := by decide +kernel
theorem dX10_move_34 : decode cX10_move 34 = .ok (.aload_n 0, 1) := by decide +kernel
theorem dX10_move_35 : decode cX10_move 35 = .ok (.getfield 19, 3) := by decide +kernel
theorem dX10_move_38 : decode cX10_move 38 = .ok (.getfield 96, 3) := by decide +kernel
theorem dX10_move_41 : decode cX10_move 41 = .ok (.iload_n 1, 1) := by decide +kernel
theorem dX10_move_42 : decode cX10_move 42 = .ok (.iload_n 2, 1) := by decide +kernel
theorem dX10_move_43 : decode cX10_move 43 = .ok (.iload_n 3, 1) := by decide +kernel
theorem dX10_move_44 : decode cX10_move 44 = .ok (.iload 4, 2) := by decide +kernel
theorem dX10_move_46 : decode cX10_move 46 = .ok (.invokevirtual 100, 3) := by decide +kernel
theorem dX10_move_49 : decode cX10_move 49 = .ok (.ireturn, 1) := by decide +kernel
theorem dX10_rules_0 : decode cX10_rules 0 = .ok (.aload_n 0, 1) := by decide +kernel
theorem dX10_rules_1 : decode cX10_rules 1 = .ok (.getfield 10, 3) := by decide +kernel
theorem dX10_rules_4 : decode cX10_rules 4 = .ok (.invokevirtual 103, 3) := by decide +kernel
theorem dX10_rules_7 : decode cX10_rules 7 = .ok (.invokestatic 107, 3) := by decide +kernel
theorem dX10_rules_10 : decode cX10_rules 10 = .ok (.aload_n 0, 1) := by decide +kernel
theorem dX10_rules_11 : decode cX10_rules 11 = .ok (.invokevirtual 78, 3) := by decide +kernel
theorem dX10_rules_14 : decode cX10_rules 14 = .ok (.aload_n 0, 1) := by decide +kernel
theorem dX10_rules_15 : decode cX10_rules 15 = .ok (.getfield 19, 3) := by decide +kernel
theorem dX10_rules_18 : decode cX10_rules 18 = .ok (.getfield 29, 3) := by decide +kernel
theorem dX10_rules_21 : decode cX10_rules 21 = .ok (.aload_n 0, 1) := by decide +kernel
theorem dX10_rules_22 : decode cX10_rules 22 = .ok (.getfield 10, 3) := by decide +kernel
theorem dX10_rules_25 : decode cX10_rules 25 = .ok (.getfield 111, 3) := by decide +kernel
theorem dX10_rules_28 : decode cX10_rules 28 = .ok (.invokevirtual 114, 3) := by decide +kernel
theorem dX10_rules_31 : decode cX10_rules 31 = .ok (.aload_n 0, 1) := by decide +kernel
theorem dX10_rules_32 : decode cX10_rules 32 = .ok (.getfield 19, 3) := by decide +kernel
theorem dX10_rules_35 : decode cX10_rules 35 = .ok (.getfield 29, 3) := by decide +kernel
theorem dX10_rules_38 : decode cX10_rules 38 = .ok (.getfield 120, 3) := by decide +kernel
theorem dX10_rules_41 : decode cX10_rules 41 = .ok (.ireturn, 1) := by decide +kernel
theorem dX10_fault_0 : decode cX10_fault 0 = .ok (.aload_n 0, 1) := by decide +kernel
theorem dX10_fault_1 : decode cX10_fault 1 = .ok (.getfield 10, 3) := by decide +kernel
theorem dX10_fault_4 : decode cX10_fault 4 = .ok (.getfield 123, 3) := by decide +kernel
theorem dX10_fault_7 : decode cX10_fault 7 = .ok (.ireturn, 1) := by decide +kernel
theorem dX10_say_0 : decode cX10_say 0 = .ok (.aload_n 0, 1) := by decide +kernel
theorem dX10_say_1 : decode cX10_say 1 = .ok (.iload_n 1, 1) := by decide +kernel
theorem dX10_say_2 : decode cX10_say 2 = .ok (.invokevirtual 90, 3) := by decide +kernel
theorem dX10_say_5 : decode cX10_say 5 = .ok (.iload 4, 2) := by decide +kernel
theorem dX10_say_7 : decode cX10_say 7 = .ok (.bipush 16, 2) := by decide +kernel
theorem dX10_say_9 : decode cX10_say 9 = .ok (.invokestatic 87, 3) := by decide +kernel
theorem dX10_say_12 : decode cX10_say 12 = .ok (.iload 5, 2) := by decide +kernel
theorem dX10_say_14 : decode cX10_say 14 = .ok (.invokestatic 64, 3) := by decide +kernel
theorem dX10_say_17 : decode cX10_say 17 = .ok (.iload_n 2, 1) := by decide +kernel
theorem dX10_say_18 : decode cX10_say 18 = .ok (.iconst 0, 1) := by decide +kernel
theorem dX10_say_19 : decode cX10_say 19 = .ok (.iconst 4, 1) := by decide +kernel
theorem dX10_say_20 : decode cX10_say 20 = .ok (.invokestatic 67, 3) := by decide +kernel
theorem dX10_say_23 : decode cX10_say 23 = .ok (.iload_n 3, 1) := by decide +kernel
theorem dX10_say_24 : decode cX10_say 24 = .ok (.iconst 1, 1) := by decide +kernel
theorem dX10_say_25 : decode cX10_say 25 = .ok (.sipush 200, 3) := by decide +kernel
theorem dX10_say_28 : decode cX10_say 28 = .ok (.invokestatic 67, 3) := by decide +kernel
theorem dX10_say_31 : decode cX10_say 31 = .ok (.iload_n 2, 1) := by decide +kernel
theorem dX10_say_32 : decode cX10_say 32 = .ok (.iconst 1, 1) := by decide +kernel
theorem dX10_say_33 : decode cX10_say 33 = .ok (.if_icmp .gt 19, 3) := by decide +kernel
theorem dX10_say_36 : decode cX10_say 36 = .ok (.iload 6, 2) := by decide +kernel
theorem dX10_say_38 : decode cX10_say 38 = .ok (.iconst 0, 1) := by decide +kernel
theorem dX10_say_39 : decode cX10_say 39 = .ok (.aload_n 0, 1) := by decide +kernel
theorem dX10_say_40 : decode cX10_say 40 = .ok (.getfield 19, 3) := by decide +kernel
theorem dX10_say_43 : decode cX10_say 43 = .ok (.getfield 42, 3) := by decide +kernel
theorem dX10_say_46 : decode cX10_say 46 = .ok (.getfield 93, 3) := by decide +kernel
theorem dX10_say_49 : decode cX10_say 49 = .ok (.invokestatic 67, 3) := by decide +kernel
theorem dX10_say_52 : decode cX10_say 52 = .ok (.iload 7, 2) := by decide +kernel
theorem dX10_say_54 : decode cX10_say 54 = .ok (.iconst 0, 1) := by decide +kernel
theorem dX10_say_55 : decode cX10_say 55 = .ok (.sipush 9999, 3) := by decide +kernel
theorem dX10_say_58 : decode cX10_say 58 = .ok (.invokestatic 67, 3) := by decide +kernel
theorem dX10_say_61 : decode cX10_say 61 = .ok (.aload_n 0, 1) := by decide +kernel
theorem dX10_say_62 : decode cX10_say 62 = .ok (.getfield 19, 3) := by decide +kernel
theorem dX10_say_65 : decode cX10_say 65 = .ok (.getfield 25, 3) := by decide +kernel
theorem dX10_say_68 : decode cX10_say 68 = .ok (.getfield 126, 3) := by decide +kernel
theorem dX10_say_71 : decode cX10_say 71 = .ok (.bipush 30, 2) := by decide +kernel
theorem dX10_say_73 : decode cX10_say 73 = .ok (.invokestatic 74, 3) := by decide +kernel
theorem dX10_say_76 : decode cX10_say 76 = .ok (.aload_n 0, 1) := by decide +kernel
theorem dX10_say_77 : decode cX10_say 77 = .ok (.getfield 19, 3) := by decide +kernel
theorem dX10_say_80 : decode cX10_say 80 = .ok (.getfield 25, 3) := by decide +kernel
theorem dX10_say_83 : decode cX10_say 83 = .ok (.iload_n 2, 1) := by decide +kernel
theorem dX10_say_84 : decode cX10_say 84 = .ok (.iload_n 1, 1) := by decide +kernel
theorem dX10_say_85 : decode cX10_say 85 = .ok (.aload_n 0, 1) := by decide +kernel
theorem dX10_say_86 : decode cX10_say 86 = .ok (.getfield 19, 3) := by decide +kernel
theorem dX10_say_89 : decode cX10_say 89 = .ok (.getfield 42, 3) := by decide +kernel
theorem dX10_say_92 : decode cX10_say 92 = .ok (.getfield 93, 3) := by decide +kernel
theorem dX10_say_95 : decode cX10_say 95 = .ok (.iload_n 3, 1) := by decide +kernel
theorem dX10_say_96 : decode cX10_say 96 = .ok (.invokevirtual 131, 3) := by decide +kernel
theorem dX10_say_99 : decode cX10_say 99 = .ok (.istore 8, 2) := by decide +kernel
theorem dX10_say_101 : decode cX10_say 101 = .ok (.aload_n 0, 1) := by decide +kernel
theorem dX10_say_102 : decode cX10_say 102 = .ok (.getfield 19, 3) := by decide +kernel
theorem dX10_say_105 : decode cX10_say 105 = .ok (.getfield 25, 3) := by decide +kernel
theorem dX10_say_108 : decode cX10_say 108 = .ok (.iload 8, 2) := by decide +kernel
theorem dX10_say_110 : decode cX10_say 110 = .ok (.iload 4, 2) := by decide +kernel
theorem dX10_say_112 : decode cX10_say 112 = .ok (.iload 5, 2) := by decide +kernel
theorem dX10_say_114 : decode cX10_say 114 = .ok (.iload 6, 2) := by decide +kernel
theorem dX10_say_116 : decode cX10_say 116 = .ok (.iload 7, 2) := by decide +kernel
theorem dX10_say_118 : decode cX10_say 118 = .ok (.invokevirtual 134, 3) := by decide +kernel
theorem dX10_say_121 : decode cX10_say 121 = .ok (.aload_n 0, 1) := by decide +kernel
theorem dX10_say_122 : decode cX10_say 122 = .ok (.getfield 19, 3) := by decide +kernel
theorem dX10_say_125 : decode cX10_say 125 = .ok (.getfield 42, 3) := by decide +kernel
theorem dX10_say_128 : decode cX10_say 128 = .ok (.invokevirtual 138, 3) := by decide +kernel
theorem dX10_say_131 : decode cX10_say 131 = .ok (.iload 8, 2) := by decide +kernel
theorem dX10_say_133 : decode cX10_say 133 = .ok (.ireturn, 1) := by decide +kernel
theorem dX10_undo_0 : decode cX10_undo 0 = .ok (.aload_n 0, 1) := by decide +kernel
theorem dX10_undo_1 : decode cX10_undo 1 = .ok (.iload_n 1, 1) := by decide +kernel
theorem dX10_undo_2 : decode cX10_undo 2 = .ok (.invokevirtual 90, 3) := by decide +kernel
theorem dX10_undo_5 : decode cX10_undo 5 = .ok (.aload_n 0, 1) := by decide +kernel
theorem dX10_undo_6 : decode cX10_undo 6 = .ok (.iload_n 3, 1) := by decide +kernel
theorem dX10_undo_7 : decode cX10_undo 7 = .ok (.invokevirtual 141, 3) := by decide +kernel
theorem dX10_undo_10 : decode cX10_undo 10 = .ok (.iload_n 2, 1) := by decide +kernel
theorem dX10_undo_11 : decode cX10_undo 11 = .ok (.iconst 1, 1) := by decide +kernel
theorem dX10_undo_12 : decode cX10_undo 12 = .ok (.sipush 200, 3) := by decide +kernel
theorem dX10_undo_15 : decode cX10_undo 15 = .ok (.invokestatic 67, 3) := by decide +kernel
theorem dX10_undo_18 : decode cX10_undo 18 = .ok (.aload_n 0, 1) := by decide +kernel
theorem dX10_undo_19 : decode cX10_undo 19 = .ok (.getfield 19, 3) := by decide +kernel
theorem dX10_undo_22 : decode cX10_undo 22 = .ok (.getfield 25, 3) := by decide +kernel
theorem dX10_undo_25 : decode cX10_undo 25 = .ok (.getfield 144, 3) := by decide +kernel
theorem dX10_undo_28 : decode cX10_undo 28 = .ok (.iconst 0, 1) := by decide +kernel
theorem dX10_undo_29 : decode cX10_undo 29 = .ok (.aaload, 1) := by decide +kernel
theorem dX10_undo_30 : decode cX10_undo 30 = .ok (.iload_n 3, 1) := by decide +kernel
theorem dX10_undo_31 : decode cX10_undo 31 = .ok (.iaload, 1) := by decide +kernel
theorem dX10_undo_32 : decode cX10_undo 32 = .ok (.iconst 0, 1) := by decide +kernel
theorem dX10_undo_33 : decode cX10_undo 33 = .ok (.iconst 4, 1) := by decide +kernel
theorem dX10_undo_34 : decode cX10_undo 34 = .ok (.invokestatic 67, 3) := by decide +kernel
theorem dX10_undo_37 : decode cX10_undo 37 = .ok (.aload_n 0, 1) := by decide +kernel
theorem dX10_undo_38 : decode cX10_undo 38 = .ok (.getfield 19, 3) := by decide +kernel
theorem dX10_undo_41 : decode cX10_undo 41 = .ok (.getfield 25, 3) := by decide +kernel
theorem dX10_undo_44 : decode cX10_undo 44 = .ok (.getfield 126, 3) := by decide +kernel
theorem dX10_undo_47 : decode cX10_undo 47 = .ok (.bipush 30, 2) := by decide +kernel
theorem dX10_undo_49 : decode cX10_undo 49 = .ok (.invokestatic 74, 3) := by decide +kernel
theorem dX10_undo_52 : decode cX10_undo 52 = .ok (.aload_n 0, 1) := by decide +kernel
theorem dX10_undo_53 : decode cX10_undo 53 = .ok (.getfield 19, 3) := by decide +kernel
theorem dX10_undo_56 : decode cX10_undo 56 = .ok (.getfield 25, 3) := by decide +kernel
theorem dX10_undo_59 : decode cX10_undo 59 = .ok (.iconst 5, 1) := by decide +kernel
theorem dX10_undo_60 : decode cX10_undo 60 = .ok (.iload_n 1, 1) := by decide +kernel
theorem dX10_undo_61 : decode cX10_undo 61 = .ok (.aload_n 0, 1) := by decide +kernel
theorem dX10_undo_62 : decode cX10_undo 62 = .ok (.getfield 19, 3) := by decide +kernel
theorem dX10_undo_65 : decode cX10_undo 65 = .ok (.getfield 42, 3) := by decide +kernel
theorem dX10_undo_68 : decode cX10_undo 68 = .ok (.getfield 93, 3) := by decide +kernel
theorem dX10_undo_71 : decode cX10_undo 71 = .ok (.iload_n 2, 1) := by decide +kernel
theorem dX10_undo_72 : decode cX10_undo 72 = .ok (.invokevirtual 131, 3) := by decide +kernel
theorem dX10_undo_75 : decode cX10_undo 75 = .ok (.istore 4, 2) := by decide +kernel
theorem dX10_undo_77 : decode cX10_undo 77 = .ok (.aload_n 0, 1) := by decide +kernel
theorem dX10_undo_78 : decode cX10_undo 78 = .ok (.getfield 19, 3) := by decide +kernel
theorem dX10_undo_81 : decode cX10_undo 81 = .ok (.getfield 25, 3) := by decide +kernel
theorem dX10_undo_84 : decode cX10_undo 84 = .ok (.iload 4, 2) := by decide +kernel
theorem dX10_undo_86 : decode cX10_undo 86 = .ok (.iload_n 3, 1) := by decide +kernel
theorem dX10_undo_87 : decode cX10_undo 87 = .ok (.invokevirtual 148, 3) := by decide +kernel
theorem dX10_undo_90 : decode cX10_undo 90 = .ok (.aload_n 0, 1) := by decide +kernel
theorem dX10_undo_91 : decode cX10_undo 91 = .ok (.getfield 19, 3) := by decide +kernel
theorem dX10_undo_94 : decode cX10_undo 94 = .ok (.getfield 42, 3) := by decide +kernel
theorem dX10_undo_97 : decode cX10_undo 97 = .ok (.invokevirtual 138, 3) := by decide +kernel
theorem dX10_undo_100 : decode cX10_undo 100 = .ok (.iload 4, 2) := by decide +kernel
theorem dX10_undo_102 : decode cX10_undo 102 = .ok (.ireturn, 1) := by decide +kernel
theorem dX10_ticks_0 : decode cX10_ticks 0 = .ok (.iload_n 1, 1) := by decide +kernel
theorem dX10_ticks_1 : decode cX10_ticks 1 = .ok (.iconst 0, 1) := by decide +kernel
theorem dX10_ticks_2 : decode cX10_ticks 2 = .ok (.bipush 40, 2) := by decide +kernel
theorem dX10_ticks_4 : decode cX10_ticks 4 = .ok (.invokestatic 67, 3) := by decide +kernel
theorem dX10_ticks_7 : decode cX10_ticks 7 = .ok (.iconst 0, 1) := by decide +kernel
theorem dX10_ticks_8 : decode cX10_ticks 8 = .ok (.istore_n 2, 1) := by decide +kernel
theorem dX10_ticks_9 : decode cX10_ticks 9 = .ok (.iload_n 2, 1) := by decide +kernel
theorem dX10_ticks_10 : decode cX10_ticks 10 = .ok (.iload_n 1, 1) := by decide +kernel
theorem dX10_ticks_11 : decode cX10_ticks 11 = .ok (.if_icmp .ge 32, 3) := by decide +kernel
theorem dX10_ticks_14 : decode cX10_ticks 14 = .ok (.aload_n 0, 1) := by decide +kernel
theorem dX10_ticks_15 : decode cX10_ticks 15 = .ok (.getfield 19, 3) := by decide +kernel
theorem dX10_ticks_18 : decode cX10_ticks 18 = .ok (.getfield 42, 3) := by decide +kernel
theorem dX10_ticks_21 : decode cX10_ticks 21 = .ok (.getfield 93, 3) := by decide +kernel
theorem dX10_ticks_24 : decode cX10_ticks 24 = .ok (.sipush 400, 3) := by decide +kernel
theorem dX10_ticks_27 : decode cX10_ticks 27 = .ok (.if_icmp .ge 16, 3) := by decide +kernel
theorem dX10_ticks_30 : decode cX10_ticks 30 = .ok (.aload_n 0, 1) := by decide +kernel
theorem dX10_ticks_31 : decode cX10_ticks 31 = .ok (.getfield 19, 3) := by decide +kernel
theorem dX10_ticks_34 : decode cX10_ticks 34 = .ok (.invokevirtual 151, 3) := by decide +kernel
theorem dX10_ticks_37 : decode cX10_ticks 37 = .ok (.iinc 2 1, 3) := by decide +kernel
theorem dX10_ticks_40 : decode cX10_ticks 40 = .ok (.goto (-31), 3) := by decide +kernel
theorem dX10_ticks_43 : decode cX10_ticks 43 = .ok (.aload_n 0, 1) := by decide +kernel
theorem dX10_ticks_44 : decode cX10_ticks 44 = .ok (.getfield 19, 3) := by decide +kernel
theorem dX10_ticks_47 : decode cX10_ticks 47 = .ok (.getfield 42, 3) := by decide +kernel
theorem dX10_ticks_50 : decode cX10_ticks 50 = .ok (.getfield 93, 3) := by decide +kernel
theorem dX10_ticks_53 : decode cX10_ticks 53 = .ok (.ireturn, 1) := by decide +kernel
theorem dX10_look_0 : decode cX10_look 0 = .ok (.aload_n 0, 1) := by decide +kernel
theorem dX10_look_1 : decode cX10_look 1 = .ok (.iload_n 1, 1) := by decide +kernel
theorem dX10_look_2 : decode cX10_look 2 = .ok (.invokevirtual 90, 3) := by decide +kernel
theorem dX10_look_5 : decode cX10_look 5 = .ok (.iload_n 2, 1) := by decide +kernel
theorem dX10_look_6 : decode cX10_look 6 = .ok (.bipush 8, 2) := by decide +kernel
theorem dX10_look_8 : decode cX10_look 8 = .ok (.invokestatic 154, 3) := by decide +kernel
theorem dX10_look_11 : decode cX10_look 11 = .ok (.aload_n 0, 1) := by decide +kernel
theorem dX10_look_12 : decode cX10_look 12 = .ok (.getfield 19, 3) := by decide +kernel
theorem dX10_look_15 : decode cX10_look 15 = .ok (.getfield 42, 3) := by decide +kernel
theorem dX10_look_18 : decode cX10_look 18 = .ok (.getfield 157, 3) := by decide +kernel
theorem dX10_look_21 : decode cX10_look 21 = .ok (.iload_n 2, 1) := by decide +kernel
theorem dX10_look_22 : decode cX10_look 22 = .ok (.aaload, 1) := by decide +kernel
theorem dX10_look_23 : decode cX10_look 23 = .ok (.iload_n 1, 1) := by decide +kernel
theorem dX10_look_24 : decode cX10_look 24 = .ok (.iaload, 1) := by decide +kernel
theorem dX10_look_25 : decode cX10_look 25 = .ok (.ireturn, 1) := by decide +kernel
theorem dX10_copy_0 : decode cX10_copy 0 = .ok (.aload_n 0, 1) := by decide +kernel
theorem dX10_copy_1 : decode cX10_copy 1 = .ok (.iload_n 1, 1) := by decide +kernel
theorem dX10_copy_2 : decode cX10_copy 2 = .ok (.invokevirtual 90, 3) := by decide +kernel
theorem dX10_copy_5 : decode cX10_copy 5 = .ok (.aload_n 0, 1) := by decide +kernel
theorem dX10_copy_6 : decode cX10_copy 6 = .ok (.iload_n 2, 1) := by decide +kernel
theorem dX10_copy_7 : decode cX10_copy 7 = .ok (.invokevirtual 141, 3) := by decide +kernel
theorem dX10_copy_10 : decode cX10_copy 10 = .ok (.iload_n 3, 1) := by decide +kernel
theorem dX10_copy_11 : decode cX10_copy 11 = .ok (.bipush 6, 2) := by decide +kernel
theorem dX10_copy_13 : decode cX10_copy 13 = .ok (.invokestatic 154, 3) := by decide +kernel
theorem dX10_copy_16 : decode cX10_copy 16 = .ok (.aload_n 0, 1) := by decide +kernel
theorem dX10_copy_17 : decode cX10_copy 17 = .ok (.getfield 19, 3) := by decide +kernel
theorem dX10_copy_20 : decode cX10_copy 20 = .ok (.getfield 42, 3) := by decide +kernel
theorem dX10_copy_23 : decode cX10_copy 23 = .ok (.iload_n 1, 1) := by decide +kernel
theorem dX10_copy_24 : decode cX10_copy 24 = .ok (.iload_n 2, 1) := by decide +kernel
theorem dX10_copy_25 : decode cX10_copy 25 = .ok (.invokevirtual 160, 3) := by decide +kernel
theorem dX10_copy_28 : decode cX10_copy 28 = .ok (.ifCond .ne 5, 3) := by decide +kernel
theorem dX10_copy_31 : decode cX10_copy 31 = .ok (.iconst (-1), 1) := by decide +kernel
theorem dX10_copy_32 : decode cX10_copy 32 = .ok (.ireturn, 1) := by decide +kernel
theorem dX10_copy_33 : decode cX10_copy 33 = .ok (.iload_n 3, 1) := by decide +kernel
theorem dX10_copy_34 : decode cX10_copy 34 = .ok (.iconst 4, 1) := by decide +kernel
theorem dX10_copy_35 : decode cX10_copy 35 = .ok (.if_icmp .ge 22, 3) := by decide +kernel
theorem dX10_copy_38 : decode cX10_copy 38 = .ok (.aload_n 0, 1) := by decide +kernel
theorem dX10_copy_39 : decode cX10_copy 39 = .ok (.getfield 19, 3) := by decide +kernel
theorem dX10_copy_42 : decode cX10_copy 42 = .ok (.getfield 42, 3) := by decide +kernel
theorem dX10_copy_45 : decode cX10_copy 45 = .ok (.getfield 164, 3) := by decide +kernel
theorem dX10_copy_48 : decode cX10_copy 48 = .ok (.iload_n 3, 1) := by decide +kernel
theorem dX10_copy_49 : decode cX10_copy 49 = .ok (.aaload, 1) := by decide +kernel
theorem dX10_copy_50 : decode cX10_copy 50 = .ok (.iload_n 1, 1) := by decide +kernel
theorem dX10_copy_51 : decode cX10_copy 51 = .ok (.iload_n 2, 1) := by decide +kernel
theorem dX10_copy_52 : decode cX10_copy 52 = .ok (.invokestatic 167, 3) := by decide +kernel
theorem dX10_copy_55 : decode cX10_copy 55 = .ok (.iaload, 1) := by decide +kernel
theorem dX10_copy_56 : decode cX10_copy 56 = .ok (.ireturn, 1) := by decide +kernel
theorem dX10_copy_57 : decode cX10_copy 57 = .ok (.aload_n 0, 1) := by decide +kernel
theorem dX10_copy_58 : decode cX10_copy 58 = .ok (.getfield 19, 3) := by decide +kernel
theorem dX10_copy_61 : decode cX10_copy 61 = .ok (.getfield 42, 3) := by decide +kernel
theorem dX10_copy_64 : decode cX10_copy 64 = .ok (.iload_n 1, 1) := by decide +kernel
theorem dX10_copy_65 : decode cX10_copy 65 = .ok (.iload_n 2, 1) := by decide +kernel
theorem dX10_copy_66 : decode cX10_copy 66 = .ok (.invokevirtual 171, 3) := by decide +kernel
theorem dX10_copy_69 : decode cX10_copy 69 = .ok (.iload_n 3, 1) := by decide +kernel
theorem dX10_copy_70 : decode cX10_copy 70 = .ok (.iconst 4, 1) := by decide +kernel
theorem dX10_copy_71 : decode cX10_copy 71 = .ok (.if_icmp .ne 14, 3) := by decide +kernel
theorem dX10_copy_74 : decode cX10_copy 74 = .ok (.aload_n 0, 1) := by decide +kernel
theorem dX10_copy_75 : decode cX10_copy 75 = .ok (.getfield 19, 3) := by decide +kernel
theorem dX10_copy_78 : decode cX10_copy 78 = .ok (.getfield 29, 3) := by decide +kernel
theorem dX10_copy_81 : decode cX10_copy 81 = .ok (.invokevirtual 174, 3) := by decide +kernel
theorem dX10_copy_84 : decode cX10_copy 84 = .ok (.ireturn, 1) := by decide +kernel
theorem dX10_copy_85 : decode cX10_copy 85 = .ok (.aload_n 0, 1) := by decide +kernel
theorem dX10_copy_86 : decode cX10_copy 86 = .ok (.getfield 19, 3) := by decide +kernel
theorem dX10_copy_89 : decode cX10_copy 89 = .ok (.getfield 29, 3) := by decide +kernel
theorem dX10_copy_92 : decode cX10_copy 92 = .ok (.invokevirtual 178, 3) := by decide +kernel
theorem dX10_copy_95 : decode cX10_copy 95 = .ok (.ifCond .eq 7, 3) := by decide +kernel
theorem dX10_copy_98 : decode cX10_copy 98 = .ok (.iconst 1, 1) := by decide +kernel
theorem dX10_copy_99 : decode cX10_copy 99 = .ok (.goto 4, 3) := by decide +kernel
theorem dX10_copy_102 : decode cX10_copy 102 = .ok (.iconst 0, 1) := by decide +kernel
theorem dX10_copy_103 : decode cX10_copy 103 = .ok (.ireturn, 1) := by decide +kernel
theorem dX10_word_0 : decode cX10_word 0 = .ok (.aload_n 0, 1) := by decide +kernel
theorem dX10_word_1 : decode cX10_word 1 = .ok (.iload_n 1, 1) := by decide +kernel
theorem dX10_word_2 : decode cX10_word 2 = .ok (.invokevirtual 141, 3) := by decide +kernel
theorem dX10_word_5 : decode cX10_word 5 = .ok (.iload_n 2, 1) := by decide +kernel
theorem dX10_word_6 : decode cX10_word 6 = .ok (.bipush 11, 2) := by decide +kernel
theorem dX10_word_8 : decode cX10_word 8 = .ok (.invokestatic 154, 3) := by decide +kernel
theorem dX10_word_11 : decode cX10_word 11 = .ok (.iload_n 2, 1) := by decide +kernel
theorem dX10_word_12 : decode cX10_word 12 = .ok (.bipush 9, 2) := by decide +kernel
theorem dX10_word_14 : decode cX10_word 14 = .ok (.if_icmp .ge 18, 3) := by decide +kernel
theorem dX10_word_17 : decode cX10_word 17 = .ok (.aload_n 0, 1) := by decide +kernel
theorem dX10_word_18 : decode cX10_word 18 = .ok (.getfield 19, 3) := by decide +kernel
theorem dX10_word_21 : decode cX10_word 21 = .ok (.getfield 25, 3) := by decide +kernel
theorem dX10_word_24 : decode cX10_word 24 = .ok (.getfield 144, 3) := by decide +kernel
theorem dX10_word_27 : decode cX10_word 27 = .ok (.iload_n 2, 1) := by decide +kernel
theorem dX10_word_28 : decode cX10_word 28 = .ok (.aaload, 1) := by decide +kernel
theorem dX10_word_29 : decode cX10_word 29 = .ok (.iload_n 1, 1) := by decide +kernel
theorem dX10_word_30 : decode cX10_word 30 = .ok (.iaload, 1) := by decide +kernel
theorem dX10_word_31 : decode cX10_word 31 = .ok (.ireturn, 1) := by decide +kernel
theorem dX10_word_32 : decode cX10_word 32 = .ok (.iload_n 2, 1) := by decide +kernel
theorem dX10_word_33 : decode cX10_word 33 = .ok (.bipush 9, 2) := by decide +kernel
theorem dX10_word_35 : decode cX10_word 35 = .ok (.if_icmp .ne 16, 3) := by decide +kernel
theorem dX10_word_38 : decode cX10_word 38 = .ok (.aload_n 0, 1) := by decide +kernel
theorem dX10_word_39 : decode cX10_word 39 = .ok (.getfield 19, 3) := by decide +kernel
theorem dX10_word_42 : decode cX10_word 42 = .ok (.getfield 42, 3) := by decide +kernel
theorem dX10_word_45 : decode cX10_word 45 = .ok (.getfield 181, 3) := by decide +kernel
theorem dX10_word_48 : decode cX10_word 48 = .ok (.iload_n 1, 1) := by decide +kernel
theorem dX10_word_49 : decode cX10_word 49 = .ok (.iaload, 1) := by decide +kernel
theorem dX10_word_50 : decode cX10_word 50 = .ok (.ireturn, 1) := by decide +kernel
theorem dX10_word_51 : decode cX10_word 51 = .ok (.aload_n 0, 1) := by decide +kernel
theorem dX10_word_52 : decode cX10_word 52 = .ok (.getfield 19, 3) := by decide +kernel
theorem dX10_word_55 : decode cX10_word 55 = .ok (.getfield 25, 3) := by decide +kernel
theorem dX10_word_58 : decode cX10_word 58 = .ok (.iload_n 1, 1) := by decide +kernel
theorem dX10_word_59 : decode cX10_word 59 = .ok (.aload_n 0, 1) := by decide +kernel
theorem dX10_word_60 : decode cX10_word 60 = .ok (.getfield 19, 3) := by decide +kernel
theorem dX10_word_63 : decode cX10_word 63 = .ok (.getfield 42, 3) := by decide +kernel
theorem dX10_word_66 : decode cX10_word 66 = .ok (.getfield 93, 3) := by decide +kernel
theorem dX10_word_69 : decode cX10_word 69 = .ok (.invokevirtual 185, 3) := by decide +kernel
theorem dX10_word_72 : decode cX10_word 72 = .ok (.ifCond .eq 7, 3) := by decide +kernel
theorem dX10_word_75 : decode cX10_word 75 = .ok (.iconst 1, 1) := by decide +kernel
theorem dX10_word_76 : decode cX10_word 76 = .ok (.goto 4, 3) := by decide +kernel
theorem dX10_word_79 : decode cX10_word 79 = .ok (.iconst 0, 1) := by decide +kernel
theorem dX10_word_80 : decode cX10_word 80 = .ok (.ireturn, 1) := by decide +kernel
theorem dX10_had_0 : decode cX10_had 0 = .ok (.aload_n 0, 1) := by decide +kernel
theorem dX10_had_1 : decode cX10_had 1 = .ok (.iload_n 1, 1) := by decide +kernel
theorem dX10_had_2 : decode cX10_had 2 = .ok (.invokevirtual 141, 3) := by decide +kernel
theorem dX10_had_5 : decode cX10_had 5 = .ok (.aload_n 0, 1) := by decide +kernel
theorem dX10_had_6 : decode cX10_had 6 = .ok (.getfield 19, 3) := by decide +kernel
theorem dX10_had_9 : decode cX10_had 9 = .ok (.getfield 42, 3) := by decide +kernel
theorem dX10_had_12 : decode cX10_had 12 = .ok (.getfield 188, 3) := by decide +kernel
theorem dX10_had_15 : decode cX10_had 15 = .ok (.iload_n 1, 1) := by decide +kernel
theorem dX10_had_16 : decode cX10_had 16 = .ok (.iaload, 1) := by decide +kernel
theorem dX10_had_17 : decode cX10_had 17 = .ok (.ireturn, 1) := by decide +kernel
theorem dX10_way_0 : decode cX10_way 0 = .ok (.aload_n 0, 1) := by decide +kernel
theorem dX10_way_1 : decode cX10_way 1 = .ok (.iload_n 1, 1) := by decide +kernel
theorem dX10_way_2 : decode cX10_way 2 = .ok (.invokevirtual 141, 3) := by decide +kernel
theorem dX10_way_5 : decode cX10_way 5 = .ok (.aload_n 0, 1) := by decide +kernel
theorem dX10_way_6 : decode cX10_way 6 = .ok (.getfield 19, 3) := by decide +kernel
theorem dX10_way_9 : decode cX10_way 9 = .ok (.getfield 42, 3) := by decide +kernel
theorem dX10_way_12 : decode cX10_way 12 = .ok (.getfield 188, 3) := by decide +kernel
theorem dX10_way_15 : decode cX10_way 15 = .ok (.iload_n 1, 1) := by decide +kernel
theorem dX10_way_16 : decode cX10_way 16 = .ok (.iaload, 1) := by decide +kernel
theorem dX10_way_17 : decode cX10_way 17 = .ok (.iconst (-1), 1) := by decide +kernel
theorem dX10_way_18 : decode cX10_way 18 = .ok (.if_icmp .ne 5, 3) := by decide +kernel
theorem dX10_way_21 : decode cX10_way 21 = .ok (.iconst (-1), 1) := by decide +kernel
theorem dX10_way_22 : decode cX10_way 22 = .ok (.ireturn, 1) := by decide +kernel
theorem dX10_way_23 : decode cX10_way 23 = .ok (.aload_n 0, 1) := by decide +kernel
theorem dX10_way_24 : decode cX10_way 24 = .ok (.getfield 19, 3) := by decide +kernel
theorem dX10_way_27 : decode cX10_way 27 = .ok (.getfield 42, 3) := by decide +kernel
theorem dX10_way_30 : decode cX10_way 30 = .ok (.getfield 191, 3) := by decide +kernel
theorem dX10_way_33 : decode cX10_way 33 = .ok (.iload_n 1, 1) := by decide +kernel
theorem dX10_way_34 : decode cX10_way 34 = .ok (.iaload, 1) := by decide +kernel
theorem dX10_way_35 : decode cX10_way 35 = .ok (.ifCond .ne 13, 3) := by decide +kernel
theorem dX10_way_38 : decode cX10_way 38 = .ok (.iload_n 2, 1) := by decide +kernel
theorem dX10_way_39 : decode cX10_way 39 = .ok (.ifCond .ne 7, 3) := by decide +kernel
theorem dX10_way_42 : decode cX10_way 42 = .ok (.iconst 0, 1) := by decide +kernel
theorem dX10_way_43 : decode cX10_way 43 = .ok (.goto 4, 3) := by decide +kernel
theorem dX10_way_46 : decode cX10_way 46 = .ok (.iconst (-1), 1) := by decide +kernel
theorem dX10_way_47 : decode cX10_way 47 = .ok (.ireturn, 1) := by decide +kernel
theorem dX10_way_48 : decode cX10_way 48 = .ok (.iload_n 2, 1) := by decide +kernel
theorem dX10_way_49 : decode cX10_way 49 = .ok (.ifCond .lt 34, 3) := by decide +kernel
theorem dX10_way_52 : decode cX10_way 52 = .ok (.iload_n 2, 1) := by decide +kernel
theorem dX10_way_53 : decode cX10_way 53 = .ok (.aload_n 0, 1) := by decide +kernel
theorem dX10_way_54 : decode cX10_way 54 = .ok (.getfield 19, 3) := by decide +kernel
theorem dX10_way_57 : decode cX10_way 57 = .ok (.getfield 42, 3) := by decide +kernel
theorem dX10_way_60 : decode cX10_way 60 = .ok (.getfield 191, 3) := by decide +kernel
theorem dX10_way_63 : decode cX10_way 63 = .ok (.iload_n 1, 1) := by decide +kernel
theorem dX10_way_64 : decode cX10_way 64 = .ok (.iaload, 1) := by decide +kernel
theorem dX10_way_65 : decode cX10_way 65 = .ok (.if_icmp .ge 18, 3) := by decide +kernel
theorem dX10_way_68 : decode cX10_way 68 = .ok (.aload_n 0, 1) := by decide +kernel
theorem dX10_way_69 : decode cX10_way 69 = .ok (.getfield 19, 3) := by decide +kernel
theorem dX10_way_72 : decode cX10_way 72 = .ok (.getfield 42, 3) := by decide +kernel
theorem dX10_way_75 : decode cX10_way 75 = .ok (.iload_n 1, 1) := by decide +kernel
theorem dX10_way_76 : decode cX10_way 76 = .ok (.iload_n 2, 1) := by decide +kernel
theorem dX10_way_77 : decode cX10_way 77 = .ok (.invokevirtual 194, 3) := by decide +kernel
theorem dX10_way_80 : decode cX10_way 80 = .ok (.goto 4, 3) := by decide +kernel
theorem dX10_way_83 : decode cX10_way 83 = .ok (.iconst (-1), 1) := by decide +kernel
theorem dX10_way_84 : decode cX10_way 84 = .ok (.ireturn, 1) := by decide +kernel
theorem dX10_late_0 : decode cX10_late 0 = .ok (.aload_n 0, 1) := by decide +kernel
theorem dX10_late_1 : decode cX10_late 1 = .ok (.iload_n 1, 1) := by decide +kernel
theorem dX10_late_2 : decode cX10_late 2 = .ok (.invokevirtual 141, 3) := by decide +kernel
theorem dX10_late_5 : decode cX10_late 5 = .ok (.aload_n 0, 1) := by decide +kernel
theorem dX10_late_6 : decode cX10_late 6 = .ok (.getfield 19, 3) := by decide +kernel
theorem dX10_late_9 : decode cX10_late 9 = .ok (.getfield 42, 3) := by decide +kernel
theorem dX10_late_12 : decode cX10_late 12 = .ok (.getfield 188, 3) := by decide +kernel
theorem dX10_late_15 : decode cX10_late 15 = .ok (.iload_n 1, 1) := by decide +kernel
theorem dX10_late_16 : decode cX10_late 16 = .ok (.iaload, 1) := by decide +kernel
theorem dX10_late_17 : decode cX10_late 17 = .ok (.istore_n 2, 1) := by decide +kernel
theorem dX10_late_18 : decode cX10_late 18 = .ok (.iload_n 2, 1) := by decide +kernel
theorem dX10_late_19 : decode cX10_late 19 = .ok (.iconst (-1), 1) := by decide +kernel
theorem dX10_late_20 : decode cX10_late 20 = .ok (.if_icmp .ne 7, 3) := by decide +kernel
theorem dX10_late_23 : decode cX10_late 23 = .ok (.iconst (-1), 1) := by decide +kernel
theorem dX10_late_24 : decode cX10_late 24 = .ok (.goto 19, 3) := by decide +kernel
theorem dX10_late_27 : decode cX10_late 27 = .ok (.iload_n 2, 1) := by decide +kernel
theorem dX10_late_28 : decode cX10_late 28 = .ok (.aload_n 0, 1) := by decide +kernel
theorem dX10_late_29 : decode cX10_late 29 = .ok (.getfield 19, 3) := by decide +kernel
theorem dX10_late_32 : decode cX10_late 32 = .ok (.getfield 25, 3) := by decide +kernel
theorem dX10_late_35 : decode cX10_late 35 = .ok (.getfield 144, 3) := by decide +kernel
theorem dX10_late_38 : decode cX10_late 38 = .ok (.iconst 2, 1) := by decide +kernel
theorem dX10_late_39 : decode cX10_late 39 = .ok (.aaload, 1) := by decide +kernel
theorem dX10_late_40 : decode cX10_late 40 = .ok (.iload_n 1, 1) := by decide +kernel
theorem dX10_late_41 : decode cX10_late 41 = .ok (.iaload, 1) := by decide +kernel
theorem dX10_late_42 : decode cX10_late 42 = .ok (.isub, 1) := by decide +kernel
theorem dX10_late_43 : decode cX10_late 43 = .ok (.ireturn, 1) := by decide +kernel
theorem dX10_rumour_0 : decode cX10_rumour 0 = .ok (.aload_n 0, 1) := by decide +kernel
theorem dX10_rumour_1 : decode cX10_rumour 1 = .ok (.iload_n 1, 1) := by decide +kernel
theorem dX10_rumour_2 : decode cX10_rumour 2 = .ok (.invokevirtual 141, 3) := by decide +kernel
theorem dX10_rumour_5 : decode cX10_rumour 5 = .ok (.aload_n 0, 1) := by decide +kernel
theorem dX10_rumour_6 : decode cX10_rumour 6 = .ok (.getfield 19, 3) := by decide +kernel
theorem dX10_rumour_9 : decode cX10_rumour 9 = .ok (.getfield 42, 3) := by decide +kernel
theorem dX10_rumour_12 : decode cX10_rumour 12 = .ok (.iload_n 1, 1) := by decide +kernel
theorem dX10_rumour_13 : decode cX10_rumour 13 = .ok (.invokevirtual 197, 3) := by decide +kernel
theorem dX10_rumour_16 : decode cX10_rumour 16 = .ok (.ireturn, 1) := by decide +kernel
theorem dX10_sayings_0 : decode cX10_sayings 0 = .ok (.iload_n 1, 1) := by decide +kernel
theorem dX10_sayings_1 : decode cX10_sayings 1 = .ok (.bipush 16, 2) := by decide +kernel
theorem dX10_sayings_3 : decode cX10_sayings 3 = .ok (.invokestatic 87, 3) := by decide +kernel
theorem dX10_sayings_6 : decode cX10_sayings 6 = .ok (.aload_n 0, 1) := by decide +kernel
theorem dX10_sayings_7 : decode cX10_sayings 7 = .ok (.getfield 48, 3) := by decide +kernel
theorem dX10_sayings_10 : decode cX10_sayings 10 = .ok (.iload_n 1, 1) := by decide +kernel
theorem dX10_sayings_11 : decode cX10_sayings 11 = .ok (.iload_n 2, 1) := by decide +kernel
theorem dX10_sayings_12 : decode cX10_sayings 12 = .ok (.invokevirtual 201, 3) := by decide +kernel
theorem dX10_sayings_15 : decode cX10_sayings 15 = .ok (.iload_n 3, 1) := by decide +kernel
theorem dX10_sayings_16 : decode cX10_sayings 16 = .ok (.ifCond .eq 17, 3) := by decide +kernel
theorem dX10_sayings_19 : decode cX10_sayings 19 = .ok (.aload_n 0, 1) := by decide +kernel
theorem dX10_sayings_20 : decode cX10_sayings 20 = .ok (.getfield 48, 3) := by decide +kernel
theorem dX10_sayings_23 : decode cX10_sayings 23 = .ok (.iconst (-1), 1) := by decide +kernel
theorem dX10_sayings_24 : decode cX10_sayings 24 = .ok (.invokevirtual 204, 3) := by decide +kernel
theorem dX10_sayings_27 : decode cX10_sayings 27 = .ok (.invokestatic 207, 3) := by decide +kernel
theorem dX10_sayings_30 : decode cX10_sayings 30 = .ok (.goto 10, 3) := by decide +kernel
theorem dX10_sayings_33 : decode cX10_sayings 33 = .ok (.aload_n 0, 1) := by decide +kernel
theorem dX10_sayings_34 : decode cX10_sayings 34 = .ok (.getfield 48, 3) := by decide +kernel
theorem dX10_sayings_37 : decode cX10_sayings 37 = .ok (.getfield 212, 3) := by decide +kernel
theorem dX10_sayings_40 : decode cX10_sayings 40 = .ok (.ireturn, 1) := by decide +kernel
theorem dX10_speed_0 : decode cX10_speed 0 = .ok (.iload_n 1, 1) := by decide +kernel
theorem dX10_speed_1 : decode cX10_speed 1 = .ok (.iconst 1, 1) := by decide +kernel
theorem dX10_speed_2 : decode cX10_speed 2 = .ok (.bipush 8, 2) := by decide +kernel
theorem dX10_speed_4 : decode cX10_speed 4 = .ok (.invokestatic 67, 3) := by decide +kernel
theorem dX10_speed_7 : decode cX10_speed 7 = .ok (.aload_n 0, 1) := by decide +kernel
theorem dX10_speed_8 : decode cX10_speed 8 = .ok (.getfield 19, 3) := by decide +kernel
theorem dX10_speed_11 : decode cX10_speed 11 = .ok (.iload_n 1, 1) := by decide +kernel
theorem dX10_speed_12 : decode cX10_speed 12 = .ok (.putfield 213, 3) := by decide +kernel
theorem dX10_speed_15 : decode cX10_speed 15 = .ok (.return_, 1) := by decide +kernel
theorem dX10_could_0 : decode cX10_could 0 = .ok (.iload_n 1, 1) := by decide +kernel
theorem dX10_could_1 : decode cX10_could 1 = .ok (.bipush 16, 2) := by decide +kernel
theorem dX10_could_3 : decode cX10_could 3 = .ok (.invokestatic 87, 3) := by decide +kernel
theorem dX10_could_6 : decode cX10_could 6 = .ok (.iload_n 2, 1) := by decide +kernel
theorem dX10_could_7 : decode cX10_could 7 = .ok (.iconst 0, 1) := by decide +kernel
theorem dX10_could_8 : decode cX10_could 8 = .ok (.sipush 400, 3) := by decide +kernel
theorem dX10_could_11 : decode cX10_could 11 = .ok (.invokestatic 67, 3) := by decide +kernel
theorem dX10_could_14 : decode cX10_could 14 = .ok (.aload_n 0, 1) := by decide +kernel
theorem dX10_could_15 : decode cX10_could 15 = .ok (.getfield 48, 3) := by decide +kernel
theorem dX10_could_18 : decode cX10_could 18 = .ok (.iload_n 1, 1) := by decide +kernel
theorem dX10_could_19 : decode cX10_could 19 = .ok (.iload_n 3, 1) := by decide +kernel
theorem dX10_could_20 : decode cX10_could 20 = .ok (.invokevirtual 201, 3) := by decide +kernel
theorem dX10_could_23 : decode cX10_could 23 = .ok (.aload_n 0, 1) := by decide +kernel
theorem dX10_could_24 : decode cX10_could 24 = .ok (.getfield 48, 3) := by decide +kernel
theorem dX10_could_27 : decode cX10_could 27 = .ok (.iload_n 2, 1) := by decide +kernel
theorem dX10_could_28 : decode cX10_could 28 = .ok (.aload_n 0, 1) := by decide +kernel
theorem dX10_could_29 : decode cX10_could 29 = .ok (.getfield 19, 3) := by decide +kernel
theorem dX10_could_32 : decode cX10_could 32 = .ok (.getfield 213, 3) := by decide +kernel
theorem dX10_could_35 : decode cX10_could 35 = .ok (.invokevirtual 216, 3) := by decide +kernel
theorem dX10_could_38 : decode cX10_could 38 = .ok (.ireturn, 1) := by decide +kernel
theorem dX10_least_0 : decode cX10_least 0 = .ok (.iload_n 1, 1) := by decide +kernel
theorem dX10_least_1 : decode cX10_least 1 = .ok (.bipush 16, 2) := by decide +kernel
theorem dX10_least_3 : decode cX10_least 3 = .ok (.invokestatic 87, 3) := by decide +kernel
theorem dX10_least_6 : decode cX10_least 6 = .ok (.aload_n 0, 1) := by decide +kernel
theorem dX10_least_7 : decode cX10_least 7 = .ok (.getfield 48, 3) := by decide +kernel
theorem dX10_least_10 : decode cX10_least 10 = .ok (.iload_n 1, 1) := by decide +kernel
theorem dX10_least_11 : decode cX10_least 11 = .ok (.iload_n 2, 1) := by decide +kernel
theorem dX10_least_12 : decode cX10_least 12 = .ok (.invokevirtual 201, 3) := by decide +kernel
theorem dX10_least_15 : decode cX10_least 15 = .ok (.aload_n 0, 1) := by decide +kernel
theorem dX10_least_16 : decode cX10_least 16 = .ok (.getfield 48, 3) := by decide +kernel
theorem dX10_least_19 : decode cX10_least 19 = .ok (.aload_n 0, 1) := by decide +kernel
theorem dX10_least_20 : decode cX10_least 20 = .ok (.getfield 19, 3) := by decide +kernel
theorem dX10_least_23 : decode cX10_least 23 = .ok (.getfield 213, 3) := by decide +kernel
theorem dX10_least_26 : decode cX10_least 26 = .ok (.invokevirtual 219, 3) := by decide +kernel
theorem dX10_least_29 : decode cX10_least 29 = .ok (.istore 4, 2) := by decide +kernel
theorem dX10_least_31 : decode cX10_least 31 = .ok (.iload_n 3, 1) := by decide +kernel
theorem dX10_least_32 : decode cX10_least 32 = .ok (.ifCond .eq 8, 3) := by decide +kernel
theorem dX10_least_35 : decode cX10_least 35 = .ok (.iload 4, 2) := by decide +kernel
theorem dX10_least_37 : decode cX10_least 37 = .ok (.goto 8, 3) := by decide +kernel
theorem dX10_least_40 : decode cX10_least 40 = .ok (.iload 4, 2) := by decide +kernel
theorem dX10_least_42 : decode cX10_least 42 = .ok (.invokestatic 207, 3) := by decide +kernel
theorem dX10_least_45 : decode cX10_least 45 = .ok (.ireturn, 1) := by decide +kernel
theorem dX10_judge_0 : decode cX10_judge 0 = .ok (.aload_n 0, 1) := by decide +kernel
theorem dX10_judge_1 : decode cX10_judge 1 = .ok (.iload_n 1, 1) := by decide +kernel
theorem dX10_judge_2 : decode cX10_judge 2 = .ok (.invokevirtual 141, 3) := by decide +kernel
theorem dX10_judge_5 : decode cX10_judge 5 = .ok (.aload_n 0, 1) := by decide +kernel
theorem dX10_judge_6 : decode cX10_judge 6 = .ok (.getfield 19, 3) := by decide +kernel
theorem dX10_judge_9 : decode cX10_judge 9 = .ok (.getfield 25, 3) := by decide +kernel
theorem dX10_judge_12 : decode cX10_judge 12 = .ok (.iload_n 1, 1) := by decide +kernel
theorem dX10_judge_13 : decode cX10_judge 13 = .ok (.iload_n 2, 1) := by decide +kernel
theorem dX10_judge_14 : decode cX10_judge 14 = .ok (.invokevirtual 222, 3) := by decide +kernel
theorem dX10_judge_17 : decode cX10_judge 17 = .ok (.ireturn, 1) := by decide +kernel
theorem dX10_weight_0 : decode cX10_weight 0 = .ok (.aload_n 0, 1) := by decide +kernel
theorem dX10_weight_1 : decode cX10_weight 1 = .ok (.iload_n 1, 1) := by decide +kernel
theorem dX10_weight_2 : decode cX10_weight 2 = .ok (.invokevirtual 90, 3) := by decide +kernel
theorem dX10_weight_5 : decode cX10_weight 5 = .ok (.aload_n 0, 1) := by decide +kernel
theorem dX10_weight_6 : decode cX10_weight 6 = .ok (.getfield 19, 3) := by decide +kernel
theorem dX10_weight_9 : decode cX10_weight 9 = .ok (.getfield 25, 3) := by decide +kernel
theorem dX10_weight_12 : decode cX10_weight 12 = .ok (.iload_n 1, 1) := by decide +kernel
theorem dX10_weight_13 : decode cX10_weight 13 = .ok (.invokevirtual 226, 3) := by decide +kernel
theorem dX10_weight_16 : decode cX10_weight 16 = .ok (.ireturn, 1) := by decide +kernel
theorem dX10_sure_0 : decode cX10_sure 0 = .ok (.iload_n 1, 1) := by decide +kernel
theorem dX10_sure_1 : decode cX10_sure 1 = .ok (.bipush 16, 2) := by decide +kernel
theorem dX10_sure_3 : decode cX10_sure 3 = .ok (.invokestatic 87, 3) := by decide +kernel
theorem dX10_sure_6 : decode cX10_sure 6 = .ok (.iload_n 2, 1) := by decide +kernel
theorem dX10_sure_7 : decode cX10_sure 7 = .ok (.invokestatic 64, 3) := by decide +kernel
theorem dX10_sure_10 : decode cX10_sure 10 = .ok (.aload_n 0, 1) := by decide +kernel
theorem dX10_sure_11 : decode cX10_sure 11 = .ok (.getfield 48, 3) := by decide +kernel
theorem dX10_sure_14 : decode cX10_sure 14 = .ok (.iload_n 1, 1) := by decide +kernel
theorem dX10_sure_15 : decode cX10_sure 15 = .ok (.aload_n 0, 1) := by decide +kernel
theorem dX10_sure_16 : decode cX10_sure 16 = .ok (.getfield 19, 3) := by decide +kernel
theorem dX10_sure_19 : decode cX10_sure 19 = .ok (.getfield 42, 3) := by decide +kernel
theorem dX10_sure_22 : decode cX10_sure 22 = .ok (.getfield 93, 3) := by decide +kernel
theorem dX10_sure_25 : decode cX10_sure 25 = .ok (.invokevirtual 201, 3) := by decide +kernel
theorem dX10_sure_28 : decode cX10_sure 28 = .ok (.aload_n 0, 1) := by decide +kernel
theorem dX10_sure_29 : decode cX10_sure 29 = .ok (.getfield 48, 3) := by decide +kernel
theorem dX10_sure_32 : decode cX10_sure 32 = .ok (.aload_n 0, 1) := by decide +kernel
theorem dX10_sure_33 : decode cX10_sure 33 = .ok (.getfield 19, 3) := by decide +kernel
theorem dX10_sure_36 : decode cX10_sure 36 = .ok (.getfield 213, 3) := by decide +kernel
theorem dX10_sure_39 : decode cX10_sure 39 = .ok (.invokevirtual 229, 3) := by decide +kernel
theorem dX10_sure_42 : decode cX10_sure 42 = .ok (.ifCond .eq 5, 3) := by decide +kernel
theorem dX10_sure_45 : decode cX10_sure 45 = .ok (.iconst 0, 1) := by decide +kernel
theorem dX10_sure_46 : decode cX10_sure 46 = .ok (.ireturn, 1) := by decide +kernel
theorem dX10_sure_47 : decode cX10_sure 47 = .ok (.aload_n 0, 1) := by decide +kernel
theorem dX10_sure_48 : decode cX10_sure 48 = .ok (.getfield 48, 3) := by decide +kernel
theorem dX10_sure_51 : decode cX10_sure 51 = .ok (.iload_n 2, 1) := by decide +kernel
theorem dX10_sure_52 : decode cX10_sure 52 = .ok (.invokevirtual 204, 3) := by decide +kernel
theorem dX10_sure_55 : decode cX10_sure 55 = .ok (.istore_n 3, 1) := by decide +kernel
theorem dX10_sure_56 : decode cX10_sure 56 = .ok (.iconst 0, 1) := by decide +kernel
theorem dX10_sure_57 : decode cX10_sure 57 = .ok (.istore 4, 2) := by decide +kernel
theorem dX10_sure_59 : decode cX10_sure 59 = .ok (.iconst 0, 1) := by decide +kernel
theorem dX10_sure_60 : decode cX10_sure 60 = .ok (.istore 5, 2) := by decide +kernel
theorem dX10_sure_62 : decode cX10_sure 62 = .ok (.iload 5, 2) := by decide +kernel
theorem dX10_sure_64 : decode cX10_sure 64 = .ok (.aload_n 0, 1) := by decide +kernel
theorem dX10_sure_65 : decode cX10_sure 65 = .ok (.getfield 19, 3) := by decide +kernel
theorem dX10_sure_68 : decode cX10_sure 68 = .ok (.getfield 42, 3) := by decide +kernel
theorem dX10_sure_71 : decode cX10_sure 71 = .ok (.getfield 71, 3) := by decide +kernel
theorem dX10_sure_74 : decode cX10_sure 74 = .ok (.if_icmp .ge 35, 3) := by decide +kernel
theorem dX10_sure_77 : decode cX10_sure 77 = .ok (.iload_n 3, 1) := by decide +kernel
theorem dX10_sure_78 : decode cX10_sure 78 = .ok (.iload 5, 2) := by decide +kernel
theorem dX10_sure_80 : decode cX10_sure 80 = .ok (.ishr, 1) := by decide +kernel
theorem dX10_sure_81 : decode cX10_sure 81 = .ok (.iconst 1, 1) := by decide +kernel
theorem dX10_sure_82 : decode cX10_sure 82 = .ok (.iand, 1) := by decide +kernel
theorem dX10_sure_83 : decode cX10_sure 83 = .ok (.ifCond .eq 20, 3) := by decide +kernel
theorem dX10_sure_86 : decode cX10_sure 86 = .ok (.iload 4, 2) := by decide +kernel
theorem dX10_sure_88 : decode cX10_sure 88 = .ok (.aload_n 0, 1) := by decide +kernel
theorem dX10_sure_89 : decode cX10_sure 89 = .ok (.getfield 19, 3) := by decide +kernel
theorem dX10_sure_92 : decode cX10_sure 92 = .ok (.getfield 25, 3) := by decide +kernel
theorem dX10_sure_95 : decode cX10_sure 95 = .ok (.iload 5, 2) := by decide +kernel
theorem dX10_sure_97 : decode cX10_sure 97 = .ok (.invokevirtual 226, 3) := by decide +kernel
theorem dX10_sure_100 : decode cX10_sure 100 = .ok (.iadd, 1) := by decide +kernel
theorem dX10_sure_101 : decode cX10_sure 101 = .ok (.istore 4, 2) := by decide +kernel
theorem dX10_sure_103 : decode cX10_sure 103 = .ok (.iinc 5 1, 3) := by decide +kernel
theorem dX10_sure_106 : decode cX10_sure 106 = .ok (.goto (-44), 3) := by decide +kernel
theorem dX10_sure_109 : decode cX10_sure 109 = .ok (.iload 4, 2) := by decide +kernel
theorem dX10_sure_111 : decode cX10_sure 111 = .ok (.ireturn, 1) := by decide +kernel
theorem dX10_describe_0 : decode cX10_describe 0 = .ok (.iload_n 1, 1) := by decide +kernel
theorem dX10_describe_1 : decode cX10_describe 1 = .ok (.iconst (-1), 1) := by decide +kernel
theorem dX10_describe_2 : decode cX10_describe 2 = .ok (.bipush 99, 2) := by decide +kernel
theorem dX10_describe_4 : decode cX10_describe 4 = .ok (.invokestatic 67, 3) := by decide +kernel
theorem dX10_describe_7 : decode cX10_describe 7 = .ok (.iload_n 2, 1) := by decide +kernel
theorem dX10_describe_8 : decode cX10_describe 8 = .ok (.iconst (-1), 1) := by decide +kernel
theorem dX10_describe_9 : decode cX10_describe 9 = .ok (.bipush 99, 2) := by decide +kernel
theorem dX10_describe_11 : decode cX10_describe 11 = .ok (.invokestatic 67, 3) := by decide +kernel
theorem dX10_describe_14 : decode cX10_describe 14 = .ok (.iload_n 3, 1) := by decide +kernel
theorem dX10_describe_15 : decode cX10_describe 15 = .ok (.iconst (-1), 1) := by decide +kernel
theorem dX10_describe_16 : decode cX10_describe 16 = .ok (.bipush 9, 2) := by decide +kernel
theorem dX10_describe_18 : decode cX10_describe 18 = .ok (.invokestatic 67, 3) := by decide +kernel
theorem dX10_describe_21 : decode cX10_describe 21 = .ok (.aload_n 0, 1) := by decide +kernel
theorem dX10_describe_22 : decode cX10_describe 22 = .ok (.getfield 19, 3) := by decide +kernel
theorem dX10_describe_25 : decode cX10_describe 25 = .ok (.getfield 232, 3) := by decide +kernel
theorem dX10_describe_28 : decode cX10_describe 28 = .ok (.iload_n 1, 1) := by decide +kernel
theorem dX10_describe_29 : decode cX10_describe 29 = .ok (.iload_n 2, 1) := by decide +kernel
theorem dX10_describe_30 : decode cX10_describe 30 = .ok (.iload_n 3, 1) := by decide +kernel
theorem dX10_describe_31 : decode cX10_describe 31 = .ok (.invokevirtual 236, 3) := by decide +kernel
theorem dX10_describe_34 : decode cX10_describe 34 = .ok (.ireturn, 1) := by decide +kernel
theorem dX10_apart_0 : decode cX10_apart 0 = .ok (.iload_n 1, 1) := by decide +kernel
theorem dX10_apart_1 : decode cX10_apart 1 = .ok (.iconst 0, 1) := by decide +kernel
theorem dX10_apart_2 : decode cX10_apart 2 = .ok (.sipush 1000, 3) := by decide +kernel
theorem dX10_apart_5 : decode cX10_apart 5 = .ok (.invokestatic 67, 3) := by decide +kernel
theorem dX10_apart_8 : decode cX10_apart 8 = .ok (.aload_n 0, 1) := by decide +kernel
theorem dX10_apart_9 : decode cX10_apart 9 = .ok (.getfield 19, 3) := by decide +kernel
theorem dX10_apart_12 : decode cX10_apart 12 = .ok (.getfield 232, 3) := by decide +kernel
theorem dX10_apart_15 : decode cX10_apart 15 = .ok (.iload_n 1, 1) := by decide +kernel
theorem dX10_apart_16 : decode cX10_apart 16 = .ok (.putfield 241, 3) := by decide +kernel
theorem dX10_apart_19 : decode cX10_apart 19 = .ok (.return_, 1) := by decide +kernel
theorem dX10_heaps_0 : decode cX10_heaps 0 = .ok (.iload_n 1, 1) := by decide +kernel
theorem dX10_heaps_1 : decode cX10_heaps 1 = .ok (.iconst 2, 1) := by decide +kernel
theorem dX10_heaps_2 : decode cX10_heaps 2 = .ok (.invokestatic 154, 3) := by decide +kernel
theorem dX10_heaps_5 : decode cX10_heaps 5 = .ok (.aload_n 0, 1) := by decide +kernel
theorem dX10_heaps_6 : decode cX10_heaps 6 = .ok (.getfield 19, 3) := by decide +kernel
theorem dX10_heaps_9 : decode cX10_heaps 9 = .ok (.getfield 232, 3) := by decide +kernel
theorem dX10_heaps_12 : decode cX10_heaps 12 = .ok (.invokevirtual 244, 3) := by decide +kernel
theorem dX10_heaps_15 : decode cX10_heaps 15 = .ok (.iload_n 1, 1) := by decide +kernel
theorem dX10_heaps_16 : decode cX10_heaps 16 = .ok (.ifCond .ne 16, 3) := by decide +kernel
theorem dX10_heaps_19 : decode cX10_heaps 19 = .ok (.aload_n 0, 1) := by decide +kernel
theorem dX10_heaps_20 : decode cX10_heaps 20 = .ok (.getfield 19, 3) := by decide +kernel
theorem dX10_heaps_23 : decode cX10_heaps 23 = .ok (.getfield 232, 3) := by decide +kernel
theorem dX10_heaps_26 : decode cX10_heaps 26 = .ok (.getfield 247, 3) := by decide +kernel
theorem dX10_heaps_29 : decode cX10_heaps 29 = .ok (.goto 13, 3) := by decide +kernel
theorem dX10_heaps_32 : decode cX10_heaps 32 = .ok (.aload_n 0, 1) := by decide +kernel
theorem dX10_heaps_33 : decode cX10_heaps 33 = .ok (.getfield 19, 3) := by decide +kernel
theorem dX10_heaps_36 : decode cX10_heaps 36 = .ok (.getfield 232, 3) := by decide +kernel
theorem dX10_heaps_39 : decode cX10_heaps 39 = .ok (.getfield 250, 3) := by decide +kernel
theorem dX10_heaps_42 : decode cX10_heaps 42 = .ok (.ireturn, 1) := by decide +kernel
theorem dX10_heap_0 : decode cX10_heap 0 = .ok (.iload_n 1, 1) := by decide +kernel
theorem dX10_heap_1 : decode cX10_heap 1 = .ok (.aload_n 0, 1) := by decide +kernel
theorem dX10_heap_2 : decode cX10_heap 2 = .ok (.getfield 19, 3) := by decide +kernel
theorem dX10_heap_5 : decode cX10_heap 5 = .ok (.getfield 232, 3) := by decide +kernel
theorem dX10_heap_8 : decode cX10_heap 8 = .ok (.getfield 253, 3) := by decide +kernel
theorem dX10_heap_11 : decode cX10_heap 11 = .ok (.invokestatic 87, 3) := by decide +kernel
theorem dX10_heap_14 : decode cX10_heap 14 = .ok (.aload_n 0, 1) := by decide +kernel
theorem dX10_heap_15 : decode cX10_heap 15 = .ok (.getfield 19, 3) := by decide +kernel
theorem dX10_heap_18 : decode cX10_heap 18 = .ok (.getfield 232, 3) := by decide +kernel
theorem dX10_heap_21 : decode cX10_heap 21 = .ok (.invokevirtual 244, 3) := by decide +kernel
theorem dX10_heap_24 : decode cX10_heap 24 = .ok (.aload_n 0, 1) := by decide +kernel
theorem dX10_heap_25 : decode cX10_heap 25 = .ok (.getfield 19, 3) := by decide +kernel
theorem dX10_heap_28 : decode cX10_heap 28 = .ok (.getfield 232, 3) := by decide +kernel
theorem dX10_heap_31 : decode cX10_heap 31 = .ok (.getfield 254, 3) := by decide +kernel
theorem dX10_heap_34 : decode cX10_heap 34 = .ok (.iload_n 1, 1) := by decide +kernel
theorem dX10_heap_35 : decode cX10_heap 35 = .ok (.iaload, 1) := by decide +kernel
theorem dX10_heap_36 : decode cX10_heap 36 = .ok (.ireturn, 1) := by decide +kernel
theorem dX10_stones_0 : decode cX10_stones 0 = .ok (.iload_n 1, 1) := by decide +kernel
theorem dX10_stones_1 : decode cX10_stones 1 = .ok (.invokestatic 64, 3) := by decide +kernel
theorem dX10_stones_4 : decode cX10_stones 4 = .ok (.iload_n 2, 1) := by decide +kernel
theorem dX10_stones_5 : decode cX10_stones 5 = .ok (.iconst 0, 1) := by decide +kernel
theorem dX10_stones_6 : decode cX10_stones 6 = .ok (.bipush 100, 2) := by decide +kernel
theorem dX10_stones_8 : decode cX10_stones 8 = .ok (.invokestatic 67, 3) := by decide +kernel
theorem dX10_stones_11 : decode cX10_stones 11 = .ok (.iload_n 3, 1) := by decide +kernel
theorem dX10_stones_12 : decode cX10_stones 12 = .ok (.iconst 0, 1) := by decide +kernel
theorem dX10_stones_13 : decode cX10_stones 13 = .ok (.bipush 100, 2) := by decide +kernel
theorem dX10_stones_15 : decode cX10_stones 15 = .ok (.invokestatic 67, 3) := by decide +kernel
theorem dX10_stones_18 : decode cX10_stones 18 = .ok (.iload 4, 2) := by decide +kernel
theorem dX10_stones_20 : decode cX10_stones 20 = .ok (.iconst 0, 1) := by decide +kernel
theorem dX10_stones_21 : decode cX10_stones 21 = .ok (.bipush 20, 2) := by decide +kernel
theorem dX10_stones_23 : decode cX10_stones 23 = .ok (.invokestatic 67, 3) := by decide +kernel
theorem dX10_stones_26 : decode cX10_stones 26 = .ok (.iload 5, 2) := by decide +kernel
theorem dX10_stones_28 : decode cX10_stones 28 = .ok (.iconst 1, 1) := by decide +kernel
theorem dX10_stones_29 : decode cX10_stones 29 = .ok (.sipush 1000, 3) := by decide +kernel
theorem dX10_stones_32 : decode cX10_stones 32 = .ok (.invokestatic 67, 3) := by decide +kernel
theorem dX10_stones_35 : decode cX10_stones 35 = .ok (.aload_n 0, 1) := by decide +kernel
theorem dX10_stones_36 : decode cX10_stones 36 = .ok (.getfield 19, 3) := by decide +kernel
theorem dX10_stones_39 : decode cX10_stones 39 = .ok (.getfield 257, 3) := by decide +kernel
theorem dX10_stones_42 : decode cX10_stones 42 = .ok (.getfield 261, 3) := by decide +kernel
theorem dX10_stones_45 : decode cX10_stones 45 = .ok (.iconst 5, 1) := by decide +kernel
theorem dX10_stones_46 : decode cX10_stones 46 = .ok (.invokestatic 74, 3) := by decide +kernel
theorem dX10_stones_49 : decode cX10_stones 49 = .ok (.aload_n 0, 1) := by decide +kernel
theorem dX10_stones_50 : decode cX10_stones 50 = .ok (.getfield 19, 3) := by decide +kernel
theorem dX10_stones_53 : decode cX10_stones 53 = .ok (.getfield 257, 3) := by decide +kernel
theorem dX10_stones_56 : decode cX10_stones 56 = .ok (.iload_n 1, 1) := by decide +kernel
theorem dX10_stones_57 : decode cX10_stones 57 = .ok (.iload_n 2, 1) := by decide +kernel
theorem dX10_stones_58 : decode cX10_stones 58 = .ok (.iload_n 3, 1) := by decide +kernel
theorem dX10_stones_59 : decode cX10_stones 59 = .ok (.iload 4, 2) := by decide +kernel
theorem dX10_stones_61 : decode cX10_stones 61 = .ok (.iload 5, 2) := by decide +kernel
theorem dX10_stones_63 : decode cX10_stones 63 = .ok (.aload_n 0, 1) := by decide +kernel
theorem dX10_stones_64 : decode cX10_stones 64 = .ok (.getfield 19, 3) := by decide +kernel
theorem dX10_stones_67 : decode cX10_stones 67 = .ok (.getfield 42, 3) := by decide +kernel
theorem dX10_stones_70 : decode cX10_stones 70 = .ok (.getfield 93, 3) := by decide +kernel
theorem dX10_stones_73 : decode cX10_stones 73 = .ok (.invokevirtual 266, 3) := by decide +kernel
theorem dX10_stones_76 : decode cX10_stones 76 = .ok (.ireturn, 1) := by decide +kernel
theorem dX10_gang_0 : decode cX10_gang 0 = .ok (.iload_n 1, 1) := by decide +kernel
theorem dX10_gang_1 : decode cX10_gang 1 = .ok (.invokestatic 64, 3) := by decide +kernel
theorem dX10_gang_4 : decode cX10_gang 4 = .ok (.iload_n 2, 1) := by decide +kernel
theorem dX10_gang_5 : decode cX10_gang 5 = .ok (.iconst 1, 1) := by decide +kernel
theorem dX10_gang_6 : decode cX10_gang 6 = .ok (.bipush 100, 2) := by decide +kernel
theorem dX10_gang_8 : decode cX10_gang 8 = .ok (.invokestatic 67, 3) := by decide +kernel
theorem dX10_gang_11 : decode cX10_gang 11 = .ok (.aload_n 0, 1) := by decide +kernel
theorem dX10_gang_12 : decode cX10_gang 12 = .ok (.getfield 19, 3) := by decide +kernel
theorem dX10_gang_15 : decode cX10_gang 15 = .ok (.getfield 257, 3) := by decide +kernel
theorem dX10_gang_18 : decode cX10_gang 18 = .ok (.getfield 270, 3) := by decide +kernel
theorem dX10_gang_21 : decode cX10_gang 21 = .ok (.iconst 4, 1) := by decide +kernel
theorem dX10_gang_22 : decode cX10_gang 22 = .ok (.invokestatic 74, 3) := by decide +kernel
theorem dX10_gang_25 : decode cX10_gang 25 = .ok (.aload_n 0, 1) := by decide +kernel
theorem dX10_gang_26 : decode cX10_gang 26 = .ok (.getfield 19, 3) := by decide +kernel
theorem dX10_gang_29 : decode cX10_gang 29 = .ok (.getfield 257, 3) := by decide +kernel
theorem dX10_gang_32 : decode cX10_gang 32 = .ok (.iload_n 1, 1) := by decide +kernel
theorem dX10_gang_33 : decode cX10_gang 33 = .ok (.iload_n 2, 1) := by decide +kernel
theorem dX10_gang_34 : decode cX10_gang 34 = .ok (.invokevirtual 273, 3) := by decide +kernel
theorem dX10_gang_37 : decode cX10_gang 37 = .ok (.ireturn, 1) := by decide +kernel
theorem dX10_saved_0 : decode cX10_saved 0 = .ok (.iload_n 1, 1) := by decide +kernel
theorem dX10_saved_1 : decode cX10_saved 1 = .ok (.aload_n 0, 1) := by decide +kernel
theorem dX10_saved_2 : decode cX10_saved 2 = .ok (.getfield 19, 3) := by decide +kernel
theorem dX10_saved_5 : decode cX10_saved 5 = .ok (.getfield 257, 3) := by decide +kernel
theorem dX10_saved_8 : decode cX10_saved 8 = .ok (.getfield 270, 3) := by decide +kernel
theorem dX10_saved_11 : decode cX10_saved 11 = .ok (.invokestatic 87, 3) := by decide +kernel
theorem dX10_saved_14 : decode cX10_saved 14 = .ok (.iload_n 2, 1) := by decide +kernel
theorem dX10_saved_15 : decode cX10_saved 15 = .ok (.aload_n 0, 1) := by decide +kernel
theorem dX10_saved_16 : decode cX10_saved 16 = .ok (.getfield 19, 3) := by decide +kernel
theorem dX10_saved_19 : decode cX10_saved 19 = .ok (.getfield 257, 3) := by decide +kernel
theorem dX10_saved_22 : decode cX10_saved 22 = .ok (.getfield 261, 3) := by decide +kernel
theorem dX10_saved_25 : decode cX10_saved 25 = .ok (.invokestatic 87, 3) := by decide +kernel
theorem dX10_saved_28 : decode cX10_saved 28 = .ok (.aload_n 0, 1) := by decide +kernel
theorem dX10_saved_29 : decode cX10_saved 29 = .ok (.getfield 19, 3) := by decide +kernel
theorem dX10_saved_32 : decode cX10_saved 32 = .ok (.getfield 257, 3) := by decide +kernel
theorem dX10_saved_35 : decode cX10_saved 35 = .ok (.iload_n 1, 1) := by decide +kernel
theorem dX10_saved_36 : decode cX10_saved 36 = .ok (.iload_n 2, 1) := by decide +kernel
theorem dX10_saved_37 : decode cX10_saved 37 = .ok (.aload_n 0, 1) := by decide +kernel
theorem dX10_saved_38 : decode cX10_saved 38 = .ok (.getfield 19, 3) := by decide +kernel
theorem dX10_saved_41 : decode cX10_saved 41 = .ok (.getfield 42, 3) := by decide +kernel
theorem dX10_saved_44 : decode cX10_saved 44 = .ok (.getfield 93, 3) := by decide +kernel
theorem dX10_saved_47 : decode cX10_saved 47 = .ok (.invokevirtual 276, 3) := by decide +kernel
theorem dX10_saved_50 : decode cX10_saved 50 = .ok (.ireturn, 1) := by decide +kernel
theorem dX10_send_0 : decode cX10_send 0 = .ok (.iload_n 1, 1) := by decide +kernel
theorem dX10_send_1 : decode cX10_send 1 = .ok (.iconst (-1), 1) := by decide +kernel
theorem dX10_send_2 : decode cX10_send 2 = .ok (.if_icmp .eq 17, 3) := by decide +kernel
theorem dX10_send_5 : decode cX10_send 5 = .ok (.iload_n 1, 1) := by decide +kernel
theorem dX10_send_6 : decode cX10_send 6 = .ok (.aload_n 0, 1) := by decide +kernel
theorem dX10_send_7 : decode cX10_send 7 = .ok (.getfield 19, 3) := by decide +kernel
theorem dX10_send_10 : decode cX10_send 10 = .ok (.getfield 257, 3) := by decide +kernel
theorem dX10_send_13 : decode cX10_send 13 = .ok (.getfield 270, 3) := by decide +kernel
theorem dX10_send_16 : decode cX10_send 16 = .ok (.invokestatic 87, 3) := by decide +kernel
theorem dX10_send_19 : decode cX10_send 19 = .ok (.aload_n 0, 1) := by decide +kernel
theorem dX10_send_20 : decode cX10_send 20 = .ok (.getfield 19, 3) := by decide +kernel
theorem dX10_send_23 : decode cX10_send 23 = .ok (.getfield 257, 3) := by decide +kernel
theorem dX10_send_26 : decode cX10_send 26 = .ok (.aload_n 0, 1) := by decide +kernel
theorem dX10_send_27 : decode cX10_send 27 = .ok (.getfield 19, 3) := by decide +kernel
theorem dX10_send_30 : decode cX10_send 30 = .ok (.getfield 42, 3) := by decide +kernel
theorem dX10_send_33 : decode cX10_send 33 = .ok (.getfield 93, 3) := by decide +kernel
theorem dX10_send_36 : decode cX10_send 36 = .ok (.invokevirtual 279, 3) := by decide +kernel
theorem dX10_send_39 : decode cX10_send 39 = .ok (.iload_n 1, 1) := by decide +kernel
theorem dX10_send_40 : decode cX10_send 40 = .ok (.iconst (-1), 1) := by decide +kernel
theorem dX10_send_41 : decode cX10_send 41 = .ok (.if_icmp .ne 16, 3) := by decide +kernel
theorem dX10_send_44 : decode cX10_send 44 = .ok (.aload_n 0, 1) := by decide +kernel
theorem dX10_send_45 : decode cX10_send 45 = .ok (.getfield 19, 3) := by decide +kernel
theorem dX10_send_48 : decode cX10_send 48 = .ok (.getfield 257, 3) := by decide +kernel
theorem dX10_send_51 : decode cX10_send 51 = .ok (.getfield 281, 3) := by decide +kernel
theorem dX10_send_54 : decode cX10_send 54 = .ok (.goto 15, 3) := by decide +kernel
theorem dX10_send_57 : decode cX10_send 57 = .ok (.aload_n 0, 1) := by decide +kernel
theorem dX10_send_58 : decode cX10_send 58 = .ok (.getfield 19, 3) := by decide +kernel
theorem dX10_send_61 : decode cX10_send 61 = .ok (.getfield 257, 3) := by decide +kernel
theorem dX10_send_64 : decode cX10_send 64 = .ok (.getfield 284, 3) := by decide +kernel
theorem dX10_send_67 : decode cX10_send 67 = .ok (.iload_n 1, 1) := by decide +kernel
theorem dX10_send_68 : decode cX10_send 68 = .ok (.iaload, 1) := by decide +kernel
theorem dX10_send_69 : decode cX10_send 69 = .ok (.ireturn, 1) := by decide +kernel
theorem dX10_hide_0 : decode cX10_hide 0 = .ok (.iload_n 1, 1) := by decide +kernel
theorem dX10_hide_1 : decode cX10_hide 1 = .ok (.bipush 16, 2) := by decide +kernel
theorem dX10_hide_3 : decode cX10_hide 3 = .ok (.invokestatic 87, 3) := by decide +kernel
theorem dX10_hide_6 : decode cX10_hide 6 = .ok (.aload_n 0, 1) := by decide +kernel
theorem dX10_hide_7 : decode cX10_hide 7 = .ok (.getfield 19, 3) := by decide +kernel
theorem dX10_hide_10 : decode cX10_hide 10 = .ok (.iload_n 1, 1) := by decide +kernel
theorem dX10_hide_11 : decode cX10_hide 11 = .ok (.invokevirtual 285, 3) := by decide +kernel
theorem dX10_hide_14 : decode cX10_hide 14 = .ok (.istore_n 3, 1) := by decide +kernel
theorem dX10_hide_15 : decode cX10_hide 15 = .ok (.iload_n 3, 1) := by decide +kernel
theorem dX10_hide_16 : decode cX10_hide 16 = .ok (.iload_n 2, 1) := by decide +kernel
theorem dX10_hide_17 : decode cX10_hide 17 = .ok (.if_icmp .eq 18, 3) := by decide +kernel
theorem dX10_hide_20 : decode cX10_hide 20 = .ok (.aload_n 0, 1) := by decide +kernel
theorem dX10_hide_21 : decode cX10_hide 21 = .ok (.getfield 19, 3) := by decide +kernel
theorem dX10_hide_24 : decode cX10_hide 24 = .ok (.dup, 1) := by decide +kernel
theorem dX10_hide_25 : decode cX10_hide 25 = .ok (.getfield 288, 3) := by decide +kernel
theorem dX10_hide_28 : decode cX10_hide 28 = .ok (.iconst 1, 1) := by decide +kernel
theorem dX10_hide_29 : decode cX10_hide 29 = .ok (.iload_n 1, 1) := by decide +kernel
theorem dX10_hide_30 : decode cX10_hide 30 = .ok (.ishl, 1) := by decide +kernel
theorem dX10_hide_31 : decode cX10_hide 31 = .ok (.ixor, 1) := by decide +kernel
theorem dX10_hide_32 : decode cX10_hide 32 = .ok (.putfield 288, 3) := by decide +kernel
theorem dX10_hide_35 : decode cX10_hide 35 = .ok (.iload_n 3, 1) := by decide +kernel
theorem dX10_hide_36 : decode cX10_hide 36 = .ok (.iload_n 2, 1) := by decide +kernel
theorem dX10_hide_37 : decode cX10_hide 37 = .ok (.if_icmp .eq 7, 3) := by decide +kernel
theorem dX10_hide_40 : decode cX10_hide 40 = .ok (.iconst 1, 1) := by decide +kernel
theorem dX10_hide_41 : decode cX10_hide 41 = .ok (.goto 4, 3) := by decide +kernel
theorem dX10_hide_44 : decode cX10_hide 44 = .ok (.iconst 0, 1) := by decide +kernel
theorem dX10_hide_45 : decode cX10_hide 45 = .ok (.ireturn, 1) := by decide +kernel
theorem dX10_ask_0 : decode cX10_ask 0 = .ok (.iload_n 1, 1) := by decide +kernel
theorem dX10_ask_1 : decode cX10_ask 1 = .ok (.bipush 16, 2) := by decide +kernel
theorem dX10_ask_3 : decode cX10_ask 3 = .ok (.invokestatic 87, 3) := by decide +kernel
theorem dX10_ask_6 : decode cX10_ask 6 = .ok (.aload_n 0, 1) := by decide +kernel
theorem dX10_ask_7 : decode cX10_ask 7 = .ok (.getfield 48, 3) := by decide +kernel
theorem dX10_ask_10 : decode cX10_ask 10 = .ok (.iload_n 1, 1) := by decide +kernel
theorem dX10_ask_11 : decode cX10_ask 11 = .ok (.aload_n 0, 1) := by decide +kernel
theorem dX10_ask_12 : decode cX10_ask 12 = .ok (.getfield 19, 3) := by decide +kernel
theorem dX10_ask_15 : decode cX10_ask 15 = .ok (.getfield 42, 3) := by decide +kernel
theorem dX10_ask_18 : decode cX10_ask 18 = .ok (.getfield 93, 3) := by decide +kernel
theorem dX10_ask_21 : decode cX10_ask 21 = .ok (.invokevirtual 201, 3) := by decide +kernel
theorem dX10_ask_24 : decode cX10_ask 24 = .ok (.aload_n 0, 1) := by decide +kernel
theorem dX10_ask_25 : decode cX10_ask 25 = .ok (.getfield 48, 3) := by decide +kernel
theorem dX10_ask_28 : decode cX10_ask 28 = .ok (.getfield 212, 3) := by decide +kernel
theorem dX10_ask_31 : decode cX10_ask 31 = .ok (.ifCond .eq 28, 3) := by decide +kernel
theorem dX10_ask_34 : decode cX10_ask 34 = .ok (.aload_n 0, 1) := by decide +kernel
theorem dX10_ask_35 : decode cX10_ask 35 = .ok (.getfield 19, 3) := by decide +kernel
theorem dX10_ask_38 : decode cX10_ask 38 = .ok (.iload_n 1, 1) := by decide +kernel
theorem dX10_ask_39 : decode cX10_ask 39 = .ok (.invokevirtual 285, 3) := by decide +kernel
theorem dX10_ask_42 : decode cX10_ask 42 = .ok (.ifCond .eq 19, 3) := by decide +kernel
