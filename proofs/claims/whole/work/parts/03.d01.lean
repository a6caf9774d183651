theorem dX0_init_0 : decode cX0_init 0 = .ok (.aload_n 0, 1) := by decide +kernel
theorem dX0_init_1 : decode cX0_init 1 = .ok (.invokespecial 3, 3) := by decide +kernel
theorem dX0_init_4 : decode cX0_init 4 = .ok (.aload_n 0, 1) := by decide +kernel
theorem dX0_init_5 : decode cX0_init 5 = .ok (.bipush 6, 2) := by decide +kernel
theorem dX0_init_7 : decode cX0_init 7 = .ok (.iconst 5, 1) := by decide +kernel
theorem dX0_init_8 : decode cX0_init 8 = .ok (.multianewarray 11 2, 4) := by decide +kernel
theorem dX0_init_12 : decode cX0_init 12 = .ok (.putfield 13, 3) := by decide +kernel
theorem dX0_init_15 : decode cX0_init 15 = .ok (.aload_n 0, 1) := by decide +kernel
theorem dX0_init_16 : decode cX0_init 16 = .ok (.iconst 4, 1) := by decide +kernel
theorem dX0_init_17 : decode cX0_init 17 = .ok (.newarray .int, 2) := by decide +kernel
theorem dX0_init_19 : decode cX0_init 19 = .ok (.putfield 16, 3) := by decide +kernel
theorem dX0_init_22 : decode cX0_init 22 = .ok (.aload_n 0, 1) := by decide +kernel
theorem dX0_init_23 : decode cX0_init 23 = .ok (.iconst 4, 1) := by decide +kernel
theorem dX0_init_24 : decode cX0_init 24 = .ok (.newarray .int, 2) := by decide +kernel
theorem dX0_init_26 : decode cX0_init 26 = .ok (.putfield 20, 3) := by decide +kernel
theorem dX0_init_29 : decode cX0_init 29 = .ok (.aload_n 0, 1) := by decide +kernel
theorem dX0_init_30 : decode cX0_init 30 = .ok (.iconst 4, 1) := by decide +kernel
theorem dX0_init_31 : decode cX0_init 31 = .ok (.newarray .int, 2) := by decide +kernel
theorem dX0_init_33 : decode cX0_init 33 = .ok (.putfield 23, 3) := by decide +kernel
theorem dX0_init_36 : decode cX0_init 36 = .ok (.aload_n 0, 1) := by decide +kernel
theorem dX0_init_37 : decode cX0_init 37 = .ok (.iconst 4, 1) := by decide +kernel
theorem dX0_init_38 : decode cX0_init 38 = .ok (.newarray .int, 2) := by decide +kernel
theorem dX0_init_40 : decode cX0_init 40 = .ok (.putfield 26, 3) := by decide +kernel
theorem dX0_init_43 : decode cX0_init 43 = .ok (.return_, 1) := by decide +kernel
theorem dX0_become_0 : decode cX0_become 0 = .ok (.aload_n 1, 1) := by decide +kernel
theorem dX0_become_1 : decode cX0_become 1 = .ok (.getfield 13, 3) := by decide +kernel
theorem dX0_become_4 : decode cX0_become 4 = .ok (.aload_n 0, 1) := by decide +kernel
theorem dX0_become_5 : decode cX0_become 5 = .ok (.getfield 13, 3) := by decide +kernel
theorem dX0_become_8 : decode cX0_become 8 = .ok (.invokestatic 29, 3) := by decide +kernel
theorem dX0_become_11 : decode cX0_become 11 = .ok (.aload_n 1, 1) := by decide +kernel
theorem dX0_become_12 : decode cX0_become 12 = .ok (.getfield 16, 3) := by decide +kernel
theorem dX0_become_15 : decode cX0_become 15 = .ok (.aload_n 0, 1) := by decide +kernel
theorem dX0_become_16 : decode cX0_become 16 = .ok (.getfield 16, 3) := by decide +kernel
theorem dX0_become_19 : decode cX0_become 19 = .ok (.invokestatic 33, 3) := by decide +kernel
theorem dX0_become_22 : decode cX0_become 22 = .ok (.aload_n 1, 1) := by decide +kernel
theorem dX0_become_23 : decode cX0_become 23 = .ok (.getfield 20, 3) := by decide +kernel
theorem dX0_become_26 : decode cX0_become 26 = .ok (.aload_n 0, 1) := by decide +kernel
theorem dX0_become_27 : decode cX0_become 27 = .ok (.getfield 20, 3) := by decide +kernel
theorem dX0_become_30 : decode cX0_become 30 = .ok (.invokestatic 33, 3) := by decide +kernel
theorem dX0_become_33 : decode cX0_become 33 = .ok (.aload_n 0, 1) := by decide +kernel
theorem dX0_become_34 : decode cX0_become 34 = .ok (.aload_n 1, 1) := by decide +kernel
theorem dX0_become_35 : decode cX0_become 35 = .ok (.getfield 37, 3) := by decide +kernel
theorem dX0_become_38 : decode cX0_become 38 = .ok (.putfield 37, 3) := by decide +kernel
theorem dX0_become_41 : decode cX0_become 41 = .ok (.aload_n 0, 1) := by decide +kernel
theorem dX0_become_42 : decode cX0_become 42 = .ok (.aload_n 1, 1) := by decide +kernel
theorem dX0_become_43 : decode cX0_become 43 = .ok (.getfield 41, 3) := by decide +kernel
theorem dX0_become_46 : decode cX0_become 46 = .ok (.putfield 41, 3) := by decide +kernel
theorem dX0_become_49 : decode cX0_become 49 = .ok (.return_, 1) := by decide +kernel
theorem dX0_addStones_0 : decode cX0_addStones 0 = .ok (.aload_n 0, 1) := by decide +kernel
theorem dX0_addStones_1 : decode cX0_addStones 1 = .ok (.getfield 37, 3) := by decide +kernel
theorem dX0_addStones_4 : decode cX0_addStones 4 = .ok (.istore 7, 2) := by decide +kernel
theorem dX0_addStones_6 : decode cX0_addStones 6 = .ok (.iload 7, 2) := by decide +kernel
theorem dX0_addStones_8 : decode cX0_addStones 8 = .ok (.iconst 5, 1) := by decide +kernel
theorem dX0_addStones_9 : decode cX0_addStones 9 = .ok (.if_icmp .lt 5, 3) := by decide +kernel
theorem dX0_addStones_12 : decode cX0_addStones 12 = .ok (.iconst (-1), 1) := by decide +kernel
theorem dX0_addStones_13 : decode cX0_addStones 13 = .ok (.ireturn, 1) := by decide +kernel
theorem dX0_addStones_14 : decode cX0_addStones 14 = .ok (.aload_n 0, 1) := by decide +kernel
theorem dX0_addStones_15 : decode cX0_addStones 15 = .ok (.getfield 13, 3) := by decide +kernel
theorem dX0_addStones_18 : decode cX0_addStones 18 = .ok (.iconst 0, 1) := by decide +kernel
theorem dX0_addStones_19 : decode cX0_addStones 19 = .ok (.aaload, 1) := by decide +kernel
theorem dX0_addStones_20 : decode cX0_addStones 20 = .ok (.iload 7, 2) := by decide +kernel
theorem dX0_addStones_22 : decode cX0_addStones 22 = .ok (.iload_n 1, 1) := by decide +kernel
theorem dX0_addStones_23 : decode cX0_addStones 23 = .ok (.iastore, 1) := by decide +kernel
theorem dX0_addStones_24 : decode cX0_addStones 24 = .ok (.aload_n 0, 1) := by decide +kernel
theorem dX0_addStones_25 : decode cX0_addStones 25 = .ok (.getfield 13, 3) := by decide +kernel
theorem dX0_addStones_28 : decode cX0_addStones 28 = .ok (.iconst 1, 1) := by decide +kernel
theorem dX0_addStones_29 : decode cX0_addStones 29 = .ok (.aaload, 1) := by decide +kernel
theorem dX0_addStones_30 : decode cX0_addStones 30 = .ok (.iload 7, 2) := by decide +kernel
theorem dX0_addStones_32 : decode cX0_addStones 32 = .ok (.iload_n 2, 1) := by decide +kernel
theorem dX0_addStones_33 : decode cX0_addStones 33 = .ok (.iastore, 1) := by decide +kernel
theorem dX0_addStones_34 : decode cX0_addStones 34 = .ok (.aload_n 0, 1) := by decide +kernel
theorem dX0_addStones_35 : decode cX0_addStones 35 = .ok (.getfield 13, 3) := by decide +kernel
theorem dX0_addStones_38 : decode cX0_addStones 38 = .ok (.iconst 2, 1) := by decide +kernel
theorem dX0_addStones_39 : decode cX0_addStones 39 = .ok (.aaload, 1) := by decide +kernel
theorem dX0_addStones_40 : decode cX0_addStones 40 = .ok (.iload 7, 2) := by decide +kernel
theorem dX0_addStones_42 : decode cX0_addStones 42 = .ok (.iload_n 3, 1) := by decide +kernel
theorem dX0_addStones_43 : decode cX0_addStones 43 = .ok (.iastore, 1) := by decide +kernel
theorem dX0_addStones_44 : decode cX0_addStones 44 = .ok (.aload_n 0, 1) := by decide +kernel
theorem dX0_addStones_45 : decode cX0_addStones 45 = .ok (.getfield 13, 3) := by decide +kernel
theorem dX0_addStones_48 : decode cX0_addStones 48 = .ok (.iconst 3, 1) := by decide +kernel
theorem dX0_addStones_49 : decode cX0_addStones 49 = .ok (.aaload, 1) := by decide +kernel
theorem dX0_addStones_50 : decode cX0_addStones 50 = .ok (.iload 7, 2) := by decide +kernel
theorem dX0_addStones_52 : decode cX0_addStones 52 = .ok (.iload 4, 2) := by decide +kernel
theorem dX0_addStones_54 : decode cX0_addStones 54 = .ok (.iastore, 1) := by decide +kernel
theorem dX0_addStones_55 : decode cX0_addStones 55 = .ok (.aload_n 0, 1) := by decide +kernel
theorem dX0_addStones_56 : decode cX0_addStones 56 = .ok (.getfield 13, 3) := by decide +kernel
theorem dX0_addStones_59 : decode cX0_addStones 59 = .ok (.iconst 4, 1) := by decide +kernel
theorem dX0_addStones_60 : decode cX0_addStones 60 = .ok (.aaload, 1) := by decide +kernel
theorem dX0_addStones_61 : decode cX0_addStones 61 = .ok (.iload 7, 2) := by decide +kernel
theorem dX0_addStones_63 : decode cX0_addStones 63 = .ok (.iload 5, 2) := by decide +kernel
theorem dX0_addStones_65 : decode cX0_addStones 65 = .ok (.iastore, 1) := by decide +kernel
theorem dX0_addStones_66 : decode cX0_addStones 66 = .ok (.aload_n 0, 1) := by decide +kernel
theorem dX0_addStones_67 : decode cX0_addStones 67 = .ok (.getfield 13, 3) := by decide +kernel
theorem dX0_addStones_70 : decode cX0_addStones 70 = .ok (.iconst 5, 1) := by decide +kernel
theorem dX0_addStones_71 : decode cX0_addStones 71 = .ok (.aaload, 1) := by decide +kernel
theorem dX0_addStones_72 : decode cX0_addStones 72 = .ok (.iload 7, 2) := by decide +kernel
theorem dX0_addStones_74 : decode cX0_addStones 74 = .ok (.iload 6, 2) := by decide +kernel
theorem dX0_addStones_76 : decode cX0_addStones 76 = .ok (.iastore, 1) := by decide +kernel
theorem dX0_addStones_77 : decode cX0_addStones 77 = .ok (.aload_n 0, 1) := by decide +kernel
theorem dX0_addStones_78 : decode cX0_addStones 78 = .ok (.dup, 1) := by decide +kernel
theorem dX0_addStones_79 : decode cX0_addStones 79 = .ok (.getfield 37, 3) := by decide +kernel
theorem dX0_addStones_82 : decode cX0_addStones 82 = .ok (.iconst 1, 1) := by decide +kernel
theorem dX0_addStones_83 : decode cX0_addStones 83 = .ok (.iadd, 1) := by decide +kernel
theorem dX0_addStones_84 : decode cX0_addStones 84 = .ok (.putfield 37, 3) := by decide +kernel
theorem dX0_addStones_87 : decode cX0_addStones 87 = .ok (.iload 7, 2) := by decide +kernel
theorem dX0_addStones_89 : decode cX0_addStones 89 = .ok (.ireturn, 1) := by decide +kernel
theorem dX0_addGang_0 : decode cX0_addGang 0 = .ok (.aload_n 0, 1) := by decide +kernel
theorem dX0_addGang_1 : decode cX0_addGang 1 = .ok (.getfield 41, 3) := by decide +kernel
theorem dX0_addGang_4 : decode cX0_addGang 4 = .ok (.istore_n 3, 1) := by decide +kernel
theorem dX0_addGang_5 : decode cX0_addGang 5 = .ok (.iload_n 3, 1) := by decide +kernel
theorem dX0_addGang_6 : decode cX0_addGang 6 = .ok (.iconst 4, 1) := by decide +kernel
theorem dX0_addGang_7 : decode cX0_addGang 7 = .ok (.if_icmp .lt 5, 3) := by decide +kernel
theorem dX0_addGang_10 : decode cX0_addGang 10 = .ok (.iconst (-1), 1) := by decide +kernel
theorem dX0_addGang_11 : decode cX0_addGang 11 = .ok (.ireturn, 1) := by decide +kernel
theorem dX0_addGang_12 : decode cX0_addGang 12 = .ok (.aload_n 0, 1) := by decide +kernel
theorem dX0_addGang_13 : decode cX0_addGang 13 = .ok (.getfield 16, 3) := by decide +kernel
theorem dX0_addGang_16 : decode cX0_addGang 16 = .ok (.iload_n 3, 1) := by decide +kernel
theorem dX0_addGang_17 : decode cX0_addGang 17 = .ok (.iload_n 1, 1) := by decide +kernel
theorem dX0_addGang_18 : decode cX0_addGang 18 = .ok (.iastore, 1) := by decide +kernel
theorem dX0_addGang_19 : decode cX0_addGang 19 = .ok (.aload_n 0, 1) := by decide +kernel
theorem dX0_addGang_20 : decode cX0_addGang 20 = .ok (.getfield 20, 3) := by decide +kernel
theorem dX0_addGang_23 : decode cX0_addGang 23 = .ok (.iload_n 3, 1) := by decide +kernel
theorem dX0_addGang_24 : decode cX0_addGang 24 = .ok (.iload_n 2, 1) := by decide +kernel
theorem dX0_addGang_25 : decode cX0_addGang 25 = .ok (.iastore, 1) := by decide +kernel
theorem dX0_addGang_26 : decode cX0_addGang 26 = .ok (.aload_n 0, 1) := by decide +kernel
theorem dX0_addGang_27 : decode cX0_addGang 27 = .ok (.dup, 1) := by decide +kernel
theorem dX0_addGang_28 : decode cX0_addGang 28 = .ok (.getfield 41, 3) := by decide +kernel
theorem dX0_addGang_31 : decode cX0_addGang 31 = .ok (.iconst 1, 1) := by decide +kernel
theorem dX0_addGang_32 : decode cX0_addGang 32 = .ok (.iadd, 1) := by decide +kernel
theorem dX0_addGang_33 : decode cX0_addGang 33 = .ok (.putfield 41, 3) := by decide +kernel
theorem dX0_addGang_36 : decode cX0_addGang 36 = .ok (.iload_n 3, 1) := by decide +kernel
theorem dX0_addGang_37 : decode cX0_addGang 37 = .ok (.ireturn, 1) := by decide +kernel
theorem dX0_savedBy_0 : decode cX0_savedBy 0 = .ok (.aload_n 0, 1) := by decide +kernel
theorem dX0_savedBy_1 : decode cX0_savedBy 1 = .ok (.getfield 20, 3) := by decide +kernel
theorem dX0_savedBy_4 : decode cX0_savedBy 4 = .ok (.iload_n 1, 1) := by decide +kernel
theorem dX0_savedBy_5 : decode cX0_savedBy 5 = .ok (.iaload, 1) := by decide +kernel
theorem dX0_savedBy_6 : decode cX0_savedBy 6 = .ok (.istore 4, 2) := by decide +kernel
theorem dX0_savedBy_8 : decode cX0_savedBy 8 = .ok (.iload 4, 2) := by decide +kernel
theorem dX0_savedBy_10 : decode cX0_savedBy 10 = .ok (.iconst 1, 1) := by decide +kernel
theorem dX0_savedBy_11 : decode cX0_savedBy 11 = .ok (.if_icmp .ge 5, 3) := by decide +kernel
theorem dX0_savedBy_14 : decode cX0_savedBy 14 = .ok (.iconst 0, 1) := by decide +kernel
theorem dX0_savedBy_15 : decode cX0_savedBy 15 = .ok (.ireturn, 1) := by decide +kernel
theorem dX0_savedBy_16 : decode cX0_savedBy 16 = .ok (.aload_n 0, 1) := by decide +kernel
theorem dX0_savedBy_17 : decode cX0_savedBy 17 = .ok (.getfield 13, 3) := by decide +kernel
theorem dX0_savedBy_20 : decode cX0_savedBy 20 = .ok (.iconst 4, 1) := by decide +kernel
theorem dX0_savedBy_21 : decode cX0_savedBy 21 = .ok (.aaload, 1) := by decide +kernel
theorem dX0_savedBy_22 : decode cX0_savedBy 22 = .ok (.iload_n 2, 1) := by decide +kernel
theorem dX0_savedBy_23 : decode cX0_savedBy 23 = .ok (.iaload, 1) := by decide +kernel
theorem dX0_savedBy_24 : decode cX0_savedBy 24 = .ok (.iload 4, 2) := by decide +kernel
theorem dX0_savedBy_26 : decode cX0_savedBy 26 = .ok (.iadd, 1) := by decide +kernel
theorem dX0_savedBy_27 : decode cX0_savedBy 27 = .ok (.iconst 1, 1) := by decide +kernel
theorem dX0_savedBy_28 : decode cX0_savedBy 28 = .ok (.isub, 1) := by decide +kernel
theorem dX0_savedBy_29 : decode cX0_savedBy 29 = .ok (.iload 4, 2) := by decide +kernel
theorem dX0_savedBy_31 : decode cX0_savedBy 31 = .ok (.idiv, 1) := by decide +kernel
theorem dX0_savedBy_32 : decode cX0_savedBy 32 = .ok (.istore 5, 2) := by decide +kernel
theorem dX0_savedBy_34 : decode cX0_savedBy 34 = .ok (.iload_n 3, 1) := by decide +kernel
theorem dX0_savedBy_35 : decode cX0_savedBy 35 = .ok (.aload_n 0, 1) := by decide +kernel
theorem dX0_savedBy_36 : decode cX0_savedBy 36 = .ok (.getfield 16, 3) := by decide +kernel
theorem dX0_savedBy_39 : decode cX0_savedBy 39 = .ok (.iload_n 1, 1) := by decide +kernel
theorem dX0_savedBy_40 : decode cX0_savedBy 40 = .ok (.iaload, 1) := by decide +kernel
theorem dX0_savedBy_41 : decode cX0_savedBy 41 = .ok (.aload_n 0, 1) := by decide +kernel
theorem dX0_savedBy_42 : decode cX0_savedBy 42 = .ok (.getfield 13, 3) := by decide +kernel
theorem dX0_savedBy_45 : decode cX0_savedBy 45 = .ok (.iconst 0, 1) := by decide +kernel
theorem dX0_savedBy_46 : decode cX0_savedBy 46 = .ok (.aaload, 1) := by decide +kernel
theorem dX0_savedBy_47 : decode cX0_savedBy 47 = .ok (.iload_n 2, 1) := by decide +kernel
theorem dX0_savedBy_48 : decode cX0_savedBy 48 = .ok (.iaload, 1) := by decide +kernel
theorem dX0_savedBy_49 : decode cX0_savedBy 49 = .ok (.invokestatic 44, 3) := by decide +kernel
theorem dX0_savedBy_52 : decode cX0_savedBy 52 = .ok (.iadd, 1) := by decide +kernel
theorem dX0_savedBy_53 : decode cX0_savedBy 53 = .ok (.iload 5, 2) := by decide +kernel
theorem dX0_savedBy_55 : decode cX0_savedBy 55 = .ok (.iadd, 1) := by decide +kernel
theorem dX0_savedBy_56 : decode cX0_savedBy 56 = .ok (.istore 6, 2) := by decide +kernel
theorem dX0_savedBy_58 : decode cX0_savedBy 58 = .ok (.aload_n 0, 1) := by decide +kernel
theorem dX0_savedBy_59 : decode cX0_savedBy 59 = .ok (.getfield 13, 3) := by decide +kernel
theorem dX0_savedBy_62 : decode cX0_savedBy 62 = .ok (.iconst 2, 1) := by decide +kernel
theorem dX0_savedBy_63 : decode cX0_savedBy 63 = .ok (.aaload, 1) := by decide +kernel
theorem dX0_savedBy_64 : decode cX0_savedBy 64 = .ok (.iload_n 2, 1) := by decide +kernel
theorem dX0_savedBy_65 : decode cX0_savedBy 65 = .ok (.iaload, 1) := by decide +kernel
theorem dX0_savedBy_66 : decode cX0_savedBy 66 = .ok (.aload_n 0, 1) := by decide +kernel
theorem dX0_savedBy_67 : decode cX0_savedBy 67 = .ok (.getfield 13, 3) := by decide +kernel
theorem dX0_savedBy_70 : decode cX0_savedBy 70 = .ok (.iconst 3, 1) := by decide +kernel
theorem dX0_savedBy_71 : decode cX0_savedBy 71 = .ok (.aaload, 1) := by decide +kernel
theorem dX0_savedBy_72 : decode cX0_savedBy 72 = .ok (.iload_n 2, 1) := by decide +kernel
theorem dX0_savedBy_73 : decode cX0_savedBy 73 = .ok (.iaload, 1) := by decide +kernel
theorem dX0_savedBy_74 : decode cX0_savedBy 74 = .ok (.iload 6, 2) := by decide +kernel
theorem dX0_savedBy_76 : decode cX0_savedBy 76 = .ok (.aload_n 0, 1) := by decide +kernel
theorem dX0_savedBy_77 : decode cX0_savedBy 77 = .ok (.getfield 13, 3) := by decide +kernel
theorem dX0_savedBy_80 : decode cX0_savedBy 80 = .ok (.iconst 5, 1) := by decide +kernel
theorem dX0_savedBy_81 : decode cX0_savedBy 81 = .ok (.aaload, 1) := by decide +kernel
theorem dX0_savedBy_82 : decode cX0_savedBy 82 = .ok (.iload_n 2, 1) := by decide +kernel
theorem dX0_savedBy_83 : decode cX0_savedBy 83 = .ok (.iaload, 1) := by decide +kernel
theorem dX0_savedBy_84 : decode cX0_savedBy 84 = .ok (.isub, 1) := by decide +kernel
theorem dX0_savedBy_85 : decode cX0_savedBy 85 = .ok (.imul, 1) := by decide +kernel
theorem dX0_savedBy_86 : decode cX0_savedBy 86 = .ok (.isub, 1) := by decide +kernel
theorem dX0_savedBy_87 : decode cX0_savedBy 87 = .ok (.istore 7, 2) := by decide +kernel
theorem dX0_savedBy_89 : decode cX0_savedBy 89 = .ok (.aload_n 0, 1) := by decide +kernel
theorem dX0_savedBy_90 : decode cX0_savedBy 90 = .ok (.getfield 13, 3) := by decide +kernel
theorem dX0_savedBy_93 : decode cX0_savedBy 93 = .ok (.iconst 1, 1) := by decide +kernel
theorem dX0_savedBy_94 : decode cX0_savedBy 94 = .ok (.aaload, 1) := by decide +kernel
theorem dX0_savedBy_95 : decode cX0_savedBy 95 = .ok (.iload_n 2, 1) := by decide +kernel
theorem dX0_savedBy_96 : decode cX0_savedBy 96 = .ok (.iaload, 1) := by decide +kernel
theorem dX0_savedBy_97 : decode cX0_savedBy 97 = .ok (.iload 7, 2) := by decide +kernel
theorem dX0_savedBy_99 : decode cX0_savedBy 99 = .ok (.iconst 0, 1) := by decide +kernel
theorem dX0_savedBy_100 : decode cX0_savedBy 100 = .ok (.invokestatic 48, 3) := by decide +kernel
theorem dX0_savedBy_103 : decode cX0_savedBy 103 = .ok (.imul, 1) := by decide +kernel
theorem dX0_savedBy_104 : decode cX0_savedBy 104 = .ok (.ireturn, 1) := by decide +kernel
theorem dX0_findBest_0 : decode cX0_findBest 0 = .ok (.aload_n 0, 1) := by decide +kernel
theorem dX0_findBest_1 : decode cX0_findBest 1 = .ok (.iconst (-1), 1) := by decide +kernel
theorem dX0_findBest_2 : decode cX0_findBest 2 = .ok (.putfield 53, 3) := by decide +kernel
theorem dX0_findBest_5 : decode cX0_findBest 5 = .ok (.aload_n 0, 1) := by decide +kernel
theorem dX0_findBest_6 : decode cX0_findBest 6 = .ok (.iconst 0, 1) := by decide +kernel
theorem dX0_findBest_7 : decode cX0_findBest 7 = .ok (.iconst 0, 1) := by decide +kernel
theorem dX0_findBest_8 : decode cX0_findBest 8 = .ok (.iconst 0, 1) := by decide +kernel
theorem dX0_findBest_9 : decode cX0_findBest 9 = .ok (.iload_n 1, 1) := by decide +kernel
theorem dX0_findBest_10 : decode cX0_findBest 10 = .ok (.invokevirtual 56, 3) := by decide +kernel
theorem dX0_findBest_13 : decode cX0_findBest 13 = .ok (.return_, 1) := by decide +kernel
theorem dX0_choose_0 : decode cX0_choose 0 = .ok (.iload_n 1, 1) := by decide +kernel
theorem dX0_choose_1 : decode cX0_choose 1 = .ok (.aload_n 0, 1) := by decide +kernel
theorem dX0_choose_2 : decode cX0_choose 2 = .ok (.getfield 41, 3) := by decide +kernel
theorem dX0_choose_5 : decode cX0_choose 5 = .ok (.if_icmp .ge 8, 3) := by decide +kernel
theorem dX0_choose_8 : decode cX0_choose 8 = .ok (.iload_n 1, 1) := by decide +kernel
theorem dX0_choose_9 : decode cX0_choose 9 = .ok (.iconst 4, 1) := by decide +kernel
theorem dX0_choose_10 : decode cX0_choose 10 = .ok (.if_icmp .lt 28, 3) := by decide +kernel
theorem dX0_choose_13 : decode cX0_choose 13 = .ok (.iload_n 3, 1) := by decide +kernel
theorem dX0_choose_14 : decode cX0_choose 14 = .ok (.aload_n 0, 1) := by decide +kernel
theorem dX0_choose_15 : decode cX0_choose 15 = .ok (.getfield 53, 3) := by decide +kernel
theorem dX0_choose_18 : decode cX0_choose 18 = .ok (.if_icmp .le 19, 3) := by decide +kernel
theorem dX0_choose_21 : decode cX0_choose 21 = .ok (.aload_n 0, 1) := by decide +kernel
theorem dX0_choose_22 : decode cX0_choose 22 = .ok (.iload_n 3, 1) := by decide +kernel
theorem dX0_choose_23 : decode cX0_choose 23 = .ok (.putfield 53, 3) := by decide +kernel
theorem dX0_choose_26 : decode cX0_choose 26 = .ok (.aload_n 0, 1) := by decide +kernel
theorem dX0_choose_27 : decode cX0_choose 27 = .ok (.getfield 23, 3) := by decide +kernel
theorem dX0_choose_30 : decode cX0_choose 30 = .ok (.aload_n 0, 1) := by decide +kernel
theorem dX0_choose_31 : decode cX0_choose 31 = .ok (.getfield 26, 3) := by decide +kernel
theorem dX0_choose_34 : decode cX0_choose 34 = .ok (.invokestatic 33, 3) := by decide +kernel
theorem dX0_choose_37 : decode cX0_choose 37 = .ok (.return_, 1) := by decide +kernel
theorem dX0_choose_38 : decode cX0_choose 38 = .ok (.iconst 0, 1) := by decide +kernel
theorem dX0_choose_39 : decode cX0_choose 39 = .ok (.istore 5, 2) := by decide +kernel
theorem dX0_choose_41 : decode cX0_choose 41 = .ok (.iload 5, 2) := by decide +kernel
theorem dX0_choose_43 : decode cX0_choose 43 = .ok (.aload_n 0, 1) := by decide +kernel
theorem dX0_choose_44 : decode cX0_choose 44 = .ok (.getfield 37, 3) := by decide +kernel
theorem dX0_choose_47 : decode cX0_choose 47 = .ok (.if_icmp .ge 52, 3) := by decide +kernel
theorem dX0_choose_50 : decode cX0_choose 50 = .ok (.iload_n 2, 1) := by decide +kernel
theorem dX0_choose_51 : decode cX0_choose 51 = .ok (.iload 5, 2) := by decide +kernel
theorem dX0_choose_53 : decode cX0_choose 53 = .ok (.ishr, 1) := by decide +kernel
theorem dX0_choose_54 : decode cX0_choose 54 = .ok (.iconst 1, 1) := by decide +kernel
theorem dX0_choose_55 : decode cX0_choose 55 = .ok (.iand, 1) := by decide +kernel
theorem dX0_choose_56 : decode cX0_choose 56 = .ok (.ifCond .ne 37, 3) := by decide +kernel
theorem dX0_choose_59 : decode cX0_choose 59 = .ok (.aload_n 0, 1) := by decide +kernel
theorem dX0_choose_60 : decode cX0_choose 60 = .ok (.getfield 23, 3) := by decide +kernel
theorem dX0_choose_63 : decode cX0_choose 63 = .ok (.iload_n 1, 1) := by decide +kernel
theorem dX0_choose_64 : decode cX0_choose 64 = .ok (.iload 5, 2) := by decide +kernel
theorem dX0_choose_66 : decode cX0_choose 66 = .ok (.iastore, 1) := by decide +kernel
theorem dX0_choose_67 : decode cX0_choose 67 = .ok (.aload_n 0, 1) := by decide +kernel
theorem dX0_choose_68 : decode cX0_choose 68 = .ok (.iload_n 1, 1) := by decide +kernel
theorem dX0_choose_69 : decode cX0_choose 69 = .ok (.iconst 1, 1) := by decide +kernel
theorem dX0_choose_70 : decode cX0_choose 70 = .ok (.iadd, 1) := by decide +kernel
theorem dX0_choose_71 : decode cX0_choose 71 = .ok (.iload_n 2, 1) := by decide +kernel
theorem dX0_choose_72 : decode cX0_choose 72 = .ok (.iconst 1, 1) := by decide +kernel
theorem dX0_choose_73 : decode cX0_choose 73 = .ok (.iload 5, 2) := by decide +kernel
theorem dX0_choose_75 : decode cX0_choose 75 = .ok (.ishl, 1) := by decide +kernel
theorem dX0_choose_76 : decode cX0_choose 76 = .ok (.ior, 1) := by decide +kernel
theorem dX0_choose_77 : decode cX0_choose 77 = .ok (.iload_n 3, 1) := by decide +kernel
theorem dX0_choose_78 : decode cX0_choose 78 = .ok (.aload_n 0, 1) := by decide +kernel
theorem dX0_choose_79 : decode cX0_choose 79 = .ok (.iload_n 1, 1) := by decide +kernel
theorem dX0_choose_80 : decode cX0_choose 80 = .ok (.iload 5, 2) := by decide +kernel
theorem dX0_choose_82 : decode cX0_choose 82 = .ok (.iload 4, 2) := by decide +kernel
theorem dX0_choose_84 : decode cX0_choose 84 = .ok (.invokevirtual 60, 3) := by decide +kernel
theorem dX0_choose_87 : decode cX0_choose 87 = .ok (.iadd, 1) := by decide +kernel
theorem dX0_choose_88 : decode cX0_choose 88 = .ok (.iload 4, 2) := by decide +kernel
theorem dX0_choose_90 : decode cX0_choose 90 = .ok (.invokevirtual 56, 3) := by decide +kernel
theorem dX0_choose_93 : decode cX0_choose 93 = .ok (.iinc 5 1, 3) := by decide +kernel
theorem dX0_choose_96 : decode cX0_choose 96 = .ok (.goto (-55), 3) := by decide +kernel
theorem dX0_choose_99 : decode cX0_choose 99 = .ok (.aload_n 0, 1) := by decide +kernel
theorem dX0_choose_100 : decode cX0_choose 100 = .ok (.getfield 23, 3) := by decide +kernel
theorem dX0_choose_103 : decode cX0_choose 103 = .ok (.iload_n 1, 1) := by decide +kernel
theorem dX0_choose_104 : decode cX0_choose 104 = .ok (.iconst (-1), 1) := by decide +kernel
theorem dX0_choose_105 : decode cX0_choose 105 = .ok (.iastore, 1) := by decide +kernel
theorem dX0_choose_106 : decode cX0_choose 106 = .ok (.aload_n 0, 1) := by decide +kernel
theorem dX0_choose_107 : decode cX0_choose 107 = .ok (.iload_n 1, 1) := by decide +kernel
theorem dX0_choose_108 : decode cX0_choose 108 = .ok (.iconst 1, 1) := by decide +kernel
theorem dX0_choose_109 : decode cX0_choose 109 = .ok (.iadd, 1) := by decide +kernel
theorem dX0_choose_110 : decode cX0_choose 110 = .ok (.iload_n 2, 1) := by decide +kernel
theorem dX0_choose_111 : decode cX0_choose 111 = .ok (.iload_n 3, 1) := by decide +kernel
theorem dX0_choose_112 : decode cX0_choose 112 = .ok (.iload 4, 2) := by decide +kernel
theorem dX0_choose_114 : decode cX0_choose 114 = .ok (.invokevirtual 56, 3) := by decide +kernel
theorem dX0_choose_117 : decode cX0_choose 117 = .ok (.return_, 1) := by decide +kernel
theorem dX1_init_0 : decode cX1_init 0 = .ok (.aload_n 0, 1) := by decide +kernel
theorem dX1_init_1 : decode cX1_init 1 = .ok (.invokespecial 3, 3) := by decide +kernel
theorem dX1_init_4 : decode cX1_init 4 = .ok (.aload_n 0, 1) := by decide +kernel
theorem dX1_init_5 : decode cX1_init 5 = .ok (.bipush 8, 2) := by decide +kernel
theorem dX1_init_7 : decode cX1_init 7 = .ok (.bipush 10, 2) := by decide +kernel
theorem dX1_init_9 : decode cX1_init 9 = .ok (.multianewarray 11 2, 4) := by decide +kernel
theorem dX1_init_13 : decode cX1_init 13 = .ok (.putfield 13, 3) := by decide +kernel
theorem dX1_init_16 : decode cX1_init 16 = .ok (.aload_n 0, 1) := by decide +kernel
theorem dX1_init_17 : decode cX1_init 17 = .ok (.iconst 4, 1) := by decide +kernel
theorem dX1_init_18 : decode cX1_init 18 = .ok (.sipush 300, 3) := by decide +kernel
theorem dX1_init_21 : decode cX1_init 21 = .ok (.multianewarray 11 2, 4) := by decide +kernel
theorem dX1_init_25 : decode cX1_init 25 = .ok (.putfield 16, 3) := by decide +kernel
theorem dX1_init_28 : decode cX1_init 28 = .ok (.aload_n 0, 1) := by decide +kernel
theorem dX1_init_29 : decode cX1_init 29 = .ok (.sipush 300, 3) := by decide +kernel
theorem dX1_init_32 : decode cX1_init 32 = .ok (.newarray .long, 2) := by decide +kernel
theorem dX1_init_34 : decode cX1_init 34 = .ok (.putfield 19, 3) := by decide +kernel
theorem dX1_init_37 : decode cX1_init 37 = .ok (.aload_n 0, 1) := by decide +kernel
theorem dX1_init_38 : decode cX1_init 38 = .ok (.bipush 10, 2) := by decide +kernel
theorem dX1_init_40 : decode cX1_init 40 = .ok (.newarray .int, 2) := by decide +kernel
theorem dX1_init_42 : decode cX1_init 42 = .ok (.putfield 23, 3) := by decide +kernel
theorem dX1_init_45 : decode cX1_init 45 = .ok (.aload_n 0, 1) := by decide +kernel
theorem dX1_init_46 : decode cX1_init 46 = .ok (.bipush 30, 2) := by decide +kernel
theorem dX1_init_48 : decode cX1_init 48 = .ok (.newarray .int, 2) := by decide +kernel
theorem dX1_init_50 : decode cX1_init 50 = .ok (.putfield 27, 3) := by decide +kernel
theorem dX1_init_53 : decode cX1_init 53 = .ok (.aload_n 0, 1) := by decide +kernel
theorem dX1_init_54 : decode cX1_init 54 = .ok (.bipush 30, 2) := by decide +kernel
theorem dX1_init_56 : decode cX1_init 56 = .ok (.newarray .int, 2) := by decide +kernel
theorem dX1_init_58 : decode cX1_init 58 = .ok (.putfield 30, 3) := by decide +kernel
theorem dX1_init_61 : decode cX1_init 61 = .ok (.aload_n 0, 1) := by decide +kernel
theorem dX1_init_62 : decode cX1_init 62 = .ok (.bipush 30, 2) := by decide +kernel
theorem dX1_init_64 : decode cX1_init 64 = .ok (.newarray .int, 2) := by decide +kernel
theorem dX1_init_66 : decode cX1_init 66 = .ok (.putfield 33, 3) := by decide +kernel
theorem dX1_init_69 : decode cX1_init 69 = .ok (.aload_n 0, 1) := by decide +kernel
theorem dX1_init_70 : decode cX1_init 70 = .ok (.bipush 30, 2) := by decide +kernel
theorem dX1_init_72 : decode cX1_init 72 = .ok (.newarray .long, 2) := by decide +kernel
theorem dX1_init_74 : decode cX1_init 74 = .ok (.putfield 36, 3) := by decide +kernel
theorem dX1_init_77 : decode cX1_init 77 = .ok (.aload_n 0, 1) := by decide +kernel
theorem dX1_init_78 : decode cX1_init 78 = .ok (.bipush 10, 2) := by decide +kernel
theorem dX1_init_80 : decode cX1_init 80 = .ok (.newarray .int, 2) := by decide +kernel
theorem dX1_init_82 : decode cX1_init 82 = .ok (.putfield 39, 3) := by decide +kernel
theorem dX1_init_85 : decode cX1_init 85 = .ok (.aload_n 0, 1) := by decide +kernel
theorem dX1_init_86 : decode cX1_init 86 = .ok (.aload_n 1, 1) := by decide +kernel
theorem dX1_init_87 : decode cX1_init 87 = .ok (.putfield 42, 3) := by decide +kernel
theorem dX1_init_90 : decode cX1_init 90 = .ok (.aload_n 0, 1) := by decide +kernel
theorem dX1_init_91 : decode cX1_init 91 = .ok (.aload_n 2, 1) := by decide +kernel
theorem dX1_init_92 : decode cX1_init 92 = .ok (.putfield 46, 3) := by decide +kernel
theorem dX1_init_95 : decode cX1_init 95 = .ok (.aload_n 0, 1) := by decide +kernel
theorem dX1_init_96 : decode cX1_init 96 = .ok (.getfield 30, 3) := by decide +kernel
theorem dX1_init_99 : decode cX1_init 99 = .ok (.iconst (-1), 1) := by decide +kernel
theorem dX1_init_100 : decode cX1_init 100 = .ok (.invokestatic 50, 3) := by decide +kernel
theorem dX1_init_103 : decode cX1_init 103 = .ok (.return_, 1) := by decide +kernel
theorem dX1_cell_0 : decode cX1_cell 0 = .ok (.iload_n 0, 1) := by decide +kernel
theorem dX1_cell_1 : decode cX1_cell 1 = .ok (.bipush 30, 2) := by decide +kernel
theorem dX1_cell_3 : decode cX1_cell 3 = .ok (.imul, 1) := by decide +kernel
theorem dX1_cell_4 : decode cX1_cell 4 = .ok (.iload_n 1, 1) := by decide +kernel
theorem dX1_cell_5 : decode cX1_cell 5 = .ok (.iadd, 1) := by decide +kernel
theorem dX1_cell_6 : decode cX1_cell 6 = .ok (.ireturn, 1) := by decide +kernel
theorem dX1_become_0 : decode cX1_become 0 = .ok (.aload_n 0, 1) := by decide +kernel
theorem dX1_become_1 : decode cX1_become 1 = .ok (.aload_n 1, 1) := by decide +kernel
theorem dX1_become_2 : decode cX1_become 2 = .ok (.getfield 56, 3) := by decide +kernel
theorem dX1_become_5 : decode cX1_become 5 = .ok (.putfield 56, 3) := by decide +kernel
theorem dX1_become_8 : decode cX1_become 8 = .ok (.aload_n 0, 1) := by decide +kernel
theorem dX1_become_9 : decode cX1_become 9 = .ok (.aload_n 1, 1) := by decide +kernel
theorem dX1_become_10 : decode cX1_become 10 = .ok (.getfield 60, 3) := by decide +kernel
theorem dX1_become_13 : decode cX1_become 13 = .ok (.putfield 60, 3) := by decide +kernel
theorem dX1_become_16 : decode cX1_become 16 = .ok (.aload_n 0, 1) := by decide +kernel
theorem dX1_become_17 : decode cX1_become 17 = .ok (.aload_n 1, 1) := by decide +kernel
theorem dX1_become_18 : decode cX1_become 18 = .ok (.getfield 63, 3) := by decide +kernel
theorem dX1_become_21 : decode cX1_become 21 = .ok (.putfield 63, 3) := by decide +kernel
theorem dX1_become_24 : decode cX1_become 24 = .ok (.aload_n 1, 1) := by decide +kernel
theorem dX1_become_25 : decode cX1_become 25 = .ok (.getfield 13, 3) := by decide +kernel
theorem dX1_become_28 : decode cX1_become 28 = .ok (.aload_n 0, 1) := by decide +kernel
theorem dX1_become_29 : decode cX1_become 29 = .ok (.getfield 13, 3) := by decide +kernel
theorem dX1_become_32 : decode cX1_become 32 = .ok (.invokestatic 66, 3) := by decide +kernel
theorem dX1_become_35 : decode cX1_become 35 = .ok (.aload_n 1, 1) := by decide +kernel
theorem dX1_become_36 : decode cX1_become 36 = .ok (.getfield 16, 3) := by decide +kernel
theorem dX1_become_39 : decode cX1_become 39 = .ok (.aload_n 0, 1) := by decide +kernel
theorem dX1_become_40 : decode cX1_become 40 = .ok (.getfield 16, 3) := by decide +kernel
theorem dX1_become_43 : decode cX1_become 43 = .ok (.invokestatic 66, 3) := by decide +kernel
theorem dX1_become_46 : decode cX1_become 46 = .ok (.aload_n 1, 1) := by decide +kernel
theorem dX1_become_47 : decode cX1_become 47 = .ok (.getfield 19, 3) := by decide +kernel
theorem dX1_become_50 : decode cX1_become 50 = .ok (.iconst 0, 1) := by decide +kernel
theorem dX1_become_51 : decode cX1_become 51 = .ok (.aload_n 0, 1) := by decide +kernel
theorem dX1_become_52 : decode cX1_become 52 = .ok (.getfield 19, 3) := by decide +kernel
theorem dX1_become_55 : decode cX1_become 55 = .ok (.iconst 0, 1) := by decide +kernel
theorem dX1_become_56 : decode cX1_become 56 = .ok (.aload_n 0, 1) := by decide +kernel
theorem dX1_become_57 : decode cX1_become 57 = .ok (.getfield 19, 3) := by decide +kernel
theorem dX1_become_60 : decode cX1_become 60 = .ok (.arraylength, 1) := by decide +kernel
theorem dX1_become_61 : decode cX1_become 61 = .ok (.invokestatic 70, 3) := by decide +kernel
theorem dX1_become_64 : decode cX1_become 64 = .ok (.aload_n 1, 1) := by decide +kernel
theorem dX1_become_65 : decode cX1_become 65 = .ok (.getfield 23, 3) := by decide +kernel
theorem dX1_become_68 : decode cX1_become 68 = .ok (.aload_n 0, 1) := by decide +kernel
theorem dX1_become_69 : decode cX1_become 69 = .ok (.getfield 23, 3) := by decide +kernel
theorem dX1_become_72 : decode cX1_become 72 = .ok (.invokestatic 76, 3) := by decide +kernel
theorem dX1_become_75 : decode cX1_become 75 = .ok (.aload_n 1, 1) := by decide +kernel
theorem dX1_become_76 : decode cX1_become 76 = .ok (.getfield 27, 3) := by decide +kernel
theorem dX1_become_79 : decode cX1_become 79 = .ok (.aload_n 0, 1) := by decide +kernel
theorem dX1_become_80 : decode cX1_become 80 = .ok (.getfield 27, 3) := by decide +kernel
theorem dX1_become_83 : decode cX1_become 83 = .ok (.invokestatic 76, 3) := by decide +kernel
theorem dX1_become_86 : decode cX1_become 86 = .ok (.aload_n 1, 1) := by decide +kernel
theorem dX1_become_87 : decode cX1_become 87 = .ok (.getfield 30, 3) := by decide +kernel
theorem dX1_become_90 : decode cX1_become 90 = .ok (.aload_n 0, 1) := by decide +kernel
theorem dX1_become_91 : decode cX1_become 91 = .ok (.getfield 30, 3) := by decide +kernel
theorem dX1_become_94 : decode cX1_become 94 = .ok (.invokestatic 76, 3) := by decide +kernel
theorem dX1_become_97 : decode cX1_become 97 = .ok (.aload_n 1, 1) := by decide +kernel
theorem dX1_become_98 : decode cX1_become 98 = .ok (.getfield 33, 3) := by decide +kernel
theorem dX1_become_101 : decode cX1_become 101 = .ok (.aload_n 0, 1) := by decide +kernel
theorem dX1_become_102 : decode cX1_become 102 = .ok (.getfield 33, 3) := by decide +kernel
theorem dX1_become_105 : decode cX1_become 105 = .ok (.invokestatic 76, 3) := by decide +kernel
theorem dX1_become_108 : decode cX1_become 108 = .ok (.aload_n 1, 1) := by decide +kernel
theorem dX1_become_109 : decode cX1_become 109 = .ok (.getfield 36, 3) := by decide +kernel
theorem dX1_become_112 : decode cX1_become 112 = .ok (.iconst 0, 1) := by decide +kernel
theorem dX1_become_113 : decode cX1_become 113 = .ok (.aload_n 0, 1) := by decide +kernel
theorem dX1_become_114 : decode cX1_become 114 = .ok (.getfield 36, 3) := by decide +kernel
theorem dX1_become_117 : decode cX1_become 117 = .ok (.iconst 0, 1) := by decide +kernel
theorem dX1_become_118 : decode cX1_become 118 = .ok (.aload_n 0, 1) := by decide +kernel
theorem dX1_become_119 : decode cX1_become 119 = .ok (.getfield 36, 3) := by decide +kernel
theorem dX1_become_122 : decode cX1_become 122 = .ok (.arraylength, 1) := by decide +kernel
theorem dX1_become_123 : decode cX1_become 123 = .ok (.invokestatic 70, 3) := by decide +kernel
theorem dX1_become_126 : decode cX1_become 126 = .ok (.return_, 1) := by decide +kernel
theorem dX1_addPhone_0 : decode cX1_addPhone 0 = .ok (.aload_n 0, 1) := by decide +kernel
theorem dX1_addPhone_1 : decode cX1_addPhone 1 = .ok (.getfield 60, 3) := by decide +kernel
theorem dX1_addPhone_4 : decode cX1_addPhone 4 = .ok (.istore 5, 2) := by decide +kernel
theorem dX1_addPhone_6 : decode cX1_addPhone 6 = .ok (.iload 5, 2) := by decide +kernel
theorem dX1_addPhone_8 : decode cX1_addPhone 8 = .ok (.bipush 10, 2) := by decide +kernel
theorem dX1_addPhone_10 : decode cX1_addPhone 10 = .ok (.if_icmp .lt 5, 3) := by decide +kernel
theorem dX1_addPhone_13 : decode cX1_addPhone 13 = .ok (.iconst (-1), 1) := by decide +kernel
theorem dX1_addPhone_14 : decode cX1_addPhone 14 = .ok (.ireturn, 1) := by decide +kernel
theorem dX1_addPhone_15 : decode cX1_addPhone 15 = .ok (.aload_n 0, 1) := by decide +kernel
theorem dX1_addPhone_16 : decode cX1_addPhone 16 = .ok (.getfield 13, 3) := by decide +kernel
theorem dX1_addPhone_19 : decode cX1_addPhone 19 = .ok (.iconst 0, 1) := by decide +kernel
theorem dX1_addPhone_20 : decode cX1_addPhone 20 = .ok (.aaload, 1) := by decide +kernel
theorem dX1_addPhone_21 : decode cX1_addPhone 21 = .ok (.iload 5, 2) := by decide +kernel
theorem dX1_addPhone_23 : decode cX1_addPhone 23 = .ok (.iload_n 1, 1) := by decide +kernel
theorem dX1_addPhone_24 : decode cX1_addPhone 24 = .ok (.iastore, 1) := by decide +kernel
theorem dX1_addPhone_25 : decode cX1_addPhone 25 = .ok (.aload_n 0, 1) := by decide +kernel
theorem dX1_addPhone_26 : decode cX1_addPhone 26 = .ok (.getfield 13, 3) := by decide +kernel
theorem dX1_addPhone_29 : decode cX1_addPhone 29 = .ok (.iconst 1, 1) := by decide +kernel
theorem dX1_addPhone_30 : decode cX1_addPhone 30 = .ok (.aaload, 1) := by decide +kernel
theorem dX1_addPhone_31 : decode cX1_addPhone 31 = .ok (.iload 5, 2) := by decide +kernel
theorem dX1_addPhone_33 : decode cX1_addPhone 33 = .ok (.iload_n 2, 1) := by decide +kernel
theorem dX1_addPhone_34 : decode cX1_addPhone 34 = .ok (.iastore, 1) := by decide +kernel
theorem dX1_addPhone_35 : decode cX1_addPhone 35 = .ok (.aload_n 0, 1) := by decide +kernel
theorem dX1_addPhone_36 : decode cX1_addPhone 36 = .ok (.getfield 13, 3) := by decide +kernel
theorem dX1_addPhone_39 : decode cX1_addPhone 39 = .ok (.iconst 3, 1) := by decide +kernel
theorem dX1_addPhone_40 : decode cX1_addPhone 40 = .ok (.aaload, 1) := by decide +kernel
theorem dX1_addPhone_41 : decode cX1_addPhone 41 = .ok (.iload 5, 2) := by decide +kernel
theorem dX1_addPhone_43 : decode cX1_addPhone 43 = .ok (.iload_n 3, 1) := by decide +kernel
theorem dX1_addPhone_44 : decode cX1_addPhone 44 = .ok (.iastore, 1) := by decide +kernel
theorem dX1_addPhone_45 : decode cX1_addPhone 45 = .ok (.aload_n 0, 1) := by decide +kernel
theorem dX1_addPhone_46 : decode cX1_addPhone 46 = .ok (.getfield 13, 3) := by decide +kernel
theorem dX1_addPhone_49 : decode cX1_addPhone 49 = .ok (.iconst 4, 1) := by decide +kernel
theorem dX1_addPhone_50 : decode cX1_addPhone 50 = .ok (.aaload, 1) := by decide +kernel
theorem dX1_addPhone_51 : decode cX1_addPhone 51 = .ok (.iload 5, 2) := by decide +kernel
theorem dX1_addPhone_53 : decode cX1_addPhone 53 = .ok (.iload 4, 2) := by decide +kernel
theorem dX1_addPhone_55 : decode cX1_addPhone 55 = .ok (.iastore, 1) := by decide +kernel
theorem dX1_addPhone_56 : decode cX1_addPhone 56 = .ok (.aload_n 0, 1) := by decide +kernel
theorem dX1_addPhone_57 : decode cX1_addPhone 57 = .ok (.dup, 1) := by decide +kernel
theorem dX1_addPhone_58 : decode cX1_addPhone 58 = .ok (.getfield 60, 3) := by decide +kernel
theorem dX1_addPhone_61 : decode cX1_addPhone 61 = .ok (.iconst 1, 1) := by decide +kernel
theorem dX1_addPhone_62 : decode cX1_addPhone 62 = .ok (.iadd, 1) := by decide +kernel
theorem dX1_addPhone_63 : decode cX1_addPhone 63 = .ok (.putfield 60, 3) := by decide +kernel
theorem dX1_addPhone_66 : decode cX1_addPhone 66 = .ok (.iload 5, 2) := by decide +kernel
theorem dX1_addPhone_68 : decode cX1_addPhone 68 = .ok (.ireturn, 1) := by decide +kernel
theorem dX1_carries_0 : decode cX1_carries 0 = .ok (.aload_n 0, 1) := by decide +kernel
theorem dX1_carries_1 : decode cX1_carries 1 = .ok (.getfield 23, 3) := by decide +kernel
theorem dX1_carries_4 : decode cX1_carries 4 = .ok (.iload_n 1, 1) := by decide +kernel
theorem dX1_carries_5 : decode cX1_carries 5 = .ok (.iaload, 1) := by decide +kernel
theorem dX1_carries_6 : decode cX1_carries 6 = .ok (.iload_n 2, 1) := by decide +kernel
theorem dX1_carries_7 : decode cX1_carries 7 = .ok (.ishr, 1) := by decide +kernel
theorem dX1_carries_8 : decode cX1_carries 8 = .ok (.iconst 1, 1) := by decide +kernel
theorem dX1_carries_9 : decode cX1_carries 9 = .ok (.iand, 1) := by decide +kernel
theorem dX1_carries_10 : decode cX1_carries 10 = .ok (.ifCond .eq 7, 3) := by decide +kernel
theorem dX1_carries_13 : decode cX1_carries 13 = .ok (.iconst 1, 1) := by decide +kernel
theorem dX1_carries_14 : decode cX1_carries 14 = .ok (.goto 4, 3) := by decide +kernel
theorem dX1_carries_17 : decode cX1_carries 17 = .ok (.iconst 0, 1) := by decide +kernel
theorem dX1_carries_18 : decode cX1_carries 18 = .ok (.ireturn, 1) := by decide +kernel
theorem dX1_total_0 : decode cX1_total 0 = .ok (.iconst 0, 1) := by decide +kernel
theorem dX1_total_1 : decode cX1_total 1 = .ok (.istore_n 2, 1) := by decide +kernel
theorem dX1_total_2 : decode cX1_total 2 = .ok (.iconst 0, 1) := by decide +kernel
theorem dX1_total_3 : decode cX1_total 3 = .ok (.istore_n 3, 1) := by decide +kernel
theorem dX1_total_4 : decode cX1_total 4 = .ok (.iload_n 3, 1) := by decide +kernel
theorem dX1_total_5 : decode cX1_total 5 = .ok (.aload_n 0, 1) := by decide +kernel
theorem dX1_total_6 : decode cX1_total 6 = .ok (.getfield 60, 3) := by decide +kernel
theorem dX1_total_9 : decode cX1_total 9 = .ok (.if_icmp .ge 20, 3) := by decide +kernel
theorem dX1_total_12 : decode cX1_total 12 = .ok (.iload_n 2, 1) := by decide +kernel
theorem dX1_total_13 : decode cX1_total 13 = .ok (.aload_n 0, 1) := by decide +kernel
theorem dX1_total_14 : decode cX1_total 14 = .ok (.getfield 13, 3) := by decide +kernel
theorem dX1_total_17 : decode cX1_total 17 = .ok (.iload_n 1, 1) := by decide +kernel
theorem dX1_total_18 : decode cX1_total 18 = .ok (.aaload, 1) := by decide +kernel
theorem dX1_total_19 : decode cX1_total 19 = .ok (.iload_n 3, 1) := by decide +kernel
theorem dX1_total_20 : decode cX1_total 20 = .ok (.iaload, 1) := by decide +kernel
theorem dX1_total_21 : decode cX1_total 21 = .ok (.iadd, 1) := by decide +kernel
theorem dX1_total_22 : decode cX1_total 22 = .ok (.istore_n 2, 1) := by decide +kernel
theorem dX1_total_23 : decode cX1_total 23 = .ok (.iinc 3 1, 3) := by decide +kernel
theorem dX1_total_26 : decode cX1_total 26 = .ok (.goto (-22), 3) := by decide +kernel
theorem dX1_total_29 : decode cX1_total 29 = .ok (.iload_n 2, 1) := by decide +kernel
theorem dX1_total_30 : decode cX1_total 30 = .ok (.ireturn, 1) := by decide +kernel
theorem dX1_wordsHad_0 : decode cX1_wordsHad 0 = .ok (.iconst 0, 1) := by decide +kernel
theorem dX1_wordsHad_1 : decode cX1_wordsHad 1 = .ok (.istore_n 1, 1) := by decide +kernel
theorem dX1_wordsHad_2 : decode cX1_wordsHad 2 = .ok (.iconst 0, 1) := by decide +kernel
theorem dX1_wordsHad_3 : decode cX1_wordsHad 3 = .ok (.istore_n 2, 1) := by decide +kernel
theorem dX1_wordsHad_4 : decode cX1_wordsHad 4 = .ok (.iload_n 2, 1) := by decide +kernel
theorem dX1_wordsHad_5 : decode cX1_wordsHad 5 = .ok (.aload_n 0, 1) := by decide +kernel
theorem dX1_wordsHad_6 : decode cX1_wordsHad 6 = .ok (.getfield 63, 3) := by decide +kernel
theorem dX1_wordsHad_9 : decode cX1_wordsHad 9 = .ok (.if_icmp .ge 27, 3) := by decide +kernel
theorem dX1_wordsHad_12 : decode cX1_wordsHad 12 = .ok (.iload_n 1, 1) := by decide +kernel
theorem dX1_wordsHad_13 : decode cX1_wordsHad 13 = .ok (.aload_n 0, 1) := by decide +kernel
theorem dX1_wordsHad_14 : decode cX1_wordsHad 14 = .ok (.getfield 30, 3) := by decide +kernel
theorem dX1_wordsHad_17 : decode cX1_wordsHad 17 = .ok (.iload_n 2, 1) := by decide +kernel
theorem dX1_wordsHad_18 : decode cX1_wordsHad 18 = .ok (.iaload, 1) := by decide +kernel
theorem dX1_wordsHad_19 : decode cX1_wordsHad 19 = .ok (.iconst (-1), 1) := by decide +kernel
theorem dX1_wordsHad_20 : decode cX1_wordsHad 20 = .ok (.if_icmp .eq 7, 3) := by decide +kernel
theorem dX1_wordsHad_23 : decode cX1_wordsHad 23 = .ok (.iconst 1, 1) := by decide +kernel
theorem dX1_wordsHad_24 : decode cX1_wordsHad 24 = .ok (.goto 4, 3) := by decide +kernel
theorem dX1_wordsHad_27 : decode cX1_wordsHad 27 = .ok (.iconst 0, 1) := by decide +kernel
theorem dX1_wordsHad_28 : decode cX1_wordsHad 28 = .ok (.iadd, 1) := by decide +kernel
theorem dX1_wordsHad_29 : decode cX1_wordsHad 29 = .ok (.istore_n 1, 1) := by decide +kernel
theorem dX1_wordsHad_30 : decode cX1_wordsHad 30 = .ok (.iinc 2 1, 3) := by decide +kernel
theorem dX1_wordsHad_33 : decode cX1_wordsHad 33 = .ok (.goto (-29), 3) := by decide +kernel
theorem dX1_wordsHad_36 : decode cX1_wordsHad 36 = .ok (.iload_n 1, 1) := by decide +kernel
theorem dX1_wordsHad_37 : decode cX1_wordsHad 37 = .ok (.ireturn, 1) := by decide +kernel
theorem dX1_handOf_0 : decode cX1_handOf 0 = .ok (.aload_n 0, 1) := by decide +kernel
theorem dX1_handOf_1 : decode cX1_handOf 1 = .ok (.getfield 36, 3) := by decide +kernel
theorem dX1_handOf_4 : decode cX1_handOf 4 = .ok (.iload_n 1, 1) := by decide +kernel
theorem dX1_handOf_5 : decode cX1_handOf 5 = .ok (.laload, 1) := by decide +kernel
theorem dX1_handOf_6 : decode cX1_handOf 6 = .ok (.iconst 4, 1) := by decide +kernel
theorem dX1_handOf_7 : decode cX1_handOf 7 = .ok (.iload_n 2, 1) := by decide +kernel
theorem dX1_handOf_8 : decode cX1_handOf 8 = .ok (.imul, 1) := by decide +kernel
theorem dX1_handOf_9 : decode cX1_handOf 9 = .ok (.lshr, 1) := by decide +kernel
theorem dX1_handOf_10 : decode cX1_handOf 10 = .ok (.ldc2_w 80, 3) := by decide +kernel
theorem dX1_handOf_13 : decode cX1_handOf 13 = .ok (.land, 1) := by decide +kernel
theorem dX1_handOf_14 : decode cX1_handOf 14 = .ok (.l2i, 1) := by decide +kernel
theorem dX1_handOf_15 : decode cX1_handOf 15 = .ok (.ireturn, 1) := by decide +kernel
theorem dX1_firstToSwell_0 : decode cX1_firstToSwell 0 = .ok (.aload_n 0, 1) := by decide +kernel
theorem dX1_firstToSwell_1 : decode cX1_firstToSwell 1 = .ok (.getfield 42, 3) := by decide +kernel
theorem dX1_firstToSwell_4 : decode cX1_firstToSwell 4 = .ok (.getfield 82, 3) := by decide +kernel
theorem dX1_firstToSwell_7 : decode cX1_firstToSwell 7 = .ok (.iconst 0, 1) := by decide +kernel
theorem dX1_firstToSwell_8 : decode cX1_firstToSwell 8 = .ok (.aaload, 1) := by decide +kernel
theorem dX1_firstToSwell_9 : decode cX1_firstToSwell 9 = .ok (.iload_n 1, 1) := by decide +kernel
theorem dX1_firstToSwell_10 : decode cX1_firstToSwell 10 = .ok (.iaload, 1) := by decide +kernel
theorem dX1_firstToSwell_11 : decode cX1_firstToSwell 11 = .ok (.istore_n 2, 1) := by decide +kernel
theorem dX1_firstToSwell_12 : decode cX1_firstToSwell 12 = .ok (.iload_n 2, 1) := by decide +kernel
theorem dX1_firstToSwell_13 : decode cX1_firstToSwell 13 = .ok (.iconst 1, 1) := by decide +kernel
theorem dX1_firstToSwell_14 : decode cX1_firstToSwell 14 = .ok (.if_icmp .eq 8, 3) := by decide +kernel
theorem dX1_firstToSwell_17 : decode cX1_firstToSwell 17 = .ok (.iload_n 2, 1) := by decide +kernel
theorem dX1_firstToSwell_18 : decode cX1_firstToSwell 18 = .ok (.iconst 2, 1) := by decide +kernel
theorem dX1_firstToSwell_19 : decode cX1_firstToSwell 19 = .ok (.if_icmp .ne 25, 3) := by decide +kernel
theorem dX1_firstToSwell_22 : decode cX1_firstToSwell 22 = .ok (.aload_n 0, 1) := by decide +kernel
theorem dX1_firstToSwell_23 : decode cX1_firstToSwell 23 = .ok (.getfield 42, 3) := by decide +kernel
theorem dX1_firstToSwell_26 : decode cX1_firstToSwell 26 = .ok (.getfield 82, 3) := by decide +kernel
theorem dX1_firstToSwell_29 : decode cX1_firstToSwell 29 = .ok (.bipush 7, 2) := by decide +kernel
theorem dX1_firstToSwell_31 : decode cX1_firstToSwell 31 = .ok (.aaload, 1) := by decide +kernel
theorem dX1_firstToSwell_32 : decode cX1_firstToSwell 32 = .ok (.iload_n 1, 1) := by decide +kernel
theorem dX1_firstToSwell_33 : decode cX1_firstToSwell 33 = .ok (.iaload, 1) := by decide +kernel
theorem dX1_firstToSwell_34 : decode cX1_firstToSwell 34 = .ok (.sipush 9999, 3) := by decide +kernel
theorem dX1_firstToSwell_37 : decode cX1_firstToSwell 37 = .ok (.if_icmp .ge 7, 3) := by decide +kernel
theorem dX1_firstToSwell_40 : decode cX1_firstToSwell 40 = .ok (.iconst 1, 1) := by decide +kernel
theorem dX1_firstToSwell_41 : decode cX1_firstToSwell 41 = .ok (.goto 4, 3) := by decide +kernel
theorem dX1_firstToSwell_44 : decode cX1_firstToSwell 44 = .ok (.iconst 0, 1) := by decide +kernel
theorem dX1_firstToSwell_45 : decode cX1_firstToSwell 45 = .ok (.istore_n 3, 1) := by decide +kernel
theorem dX1_firstToSwell_46 : decode cX1_firstToSwell 46 = .ok (.iconst 0, 1) := by decide +kernel
theorem dX1_firstToSwell_47 : decode cX1_firstToSwell 47 = .ok (.istore 4, 2) := by decide +kernel
theorem dX1_firstToSwell_49 : decode cX1_firstToSwell 49 = .ok (.iload_n 3, 1) := by decide +kernel
theorem dX1_firstToSwell_50 : decode cX1_firstToSwell 50 = .ok (.ifCond .eq 53, 3) := by decide +kernel
theorem dX1_firstToSwell_53 : decode cX1_firstToSwell 53 = .ok (.iload 4, 2) := by decide +kernel
theorem dX1_firstToSwell_55 : decode cX1_firstToSwell 55 = .ok (.aload_n 0, 1) := by decide +kernel
theorem dX1_firstToSwell_56 : decode cX1_firstToSwell 56 = .ok (.getfield 33, 3) := by decide +kernel
theorem dX1_firstToSwell_59 : decode cX1_firstToSwell 59 = .ok (.iload_n 1, 1) := by decide +kernel
theorem dX1_firstToSwell_60 : decode cX1_firstToSwell 60 = .ok (.iaload, 1) := by decide +kernel
theorem dX1_firstToSwell_61 : decode cX1_firstToSwell 61 = .ok (.if_icmp .ge 42, 3) := by decide +kernel
theorem dX1_firstToSwell_64 : decode cX1_firstToSwell 64 = .ok (.aload_n 0, 1) := by decide +kernel
theorem dX1_firstToSwell_65 : decode cX1_firstToSwell 65 = .ok (.iload_n 1, 1) := by decide +kernel
theorem dX1_firstToSwell_66 : decode cX1_firstToSwell 66 = .ok (.iload 4, 2) := by decide +kernel
theorem dX1_firstToSwell_68 : decode cX1_firstToSwell 68 = .ok (.invokevirtual 87, 3) := by decide +kernel
theorem dX1_firstToSwell_71 : decode cX1_firstToSwell 71 = .ok (.istore 5, 2) := by decide +kernel
theorem dX1_firstToSwell_73 : decode cX1_firstToSwell 73 = .ok (.iload 5, 2) := by decide +kernel
theorem dX1_firstToSwell_75 : decode cX1_firstToSwell 75 = .ok (.aload_n 0, 1) := by decide +kernel
theorem dX1_firstToSwell_76 : decode cX1_firstToSwell 76 = .ok (.getfield 60, 3) := by decide +kernel
theorem dX1_firstToSwell_79 : decode cX1_firstToSwell 79 = .ok (.if_icmp .ge 18, 3) := by decide +kernel
theorem dX1_firstToSwell_82 : decode cX1_firstToSwell 82 = .ok (.aload_n 0, 1) := by decide +kernel
theorem dX1_firstToSwell_83 : decode cX1_firstToSwell 83 = .ok (.getfield 13, 3) := by decide +kernel
theorem dX1_firstToSwell_86 : decode cX1_firstToSwell 86 = .ok (.iconst 4, 1) := by decide +kernel
theorem dX1_firstToSwell_87 : decode cX1_firstToSwell 87 = .ok (.aaload, 1) := by decide +kernel
theorem dX1_firstToSwell_88 : decode cX1_firstToSwell 88 = .ok (.iload 5, 2) := by decide +kernel
theorem dX1_firstToSwell_90 : decode cX1_firstToSwell 90 = .ok (.iaload, 1) := by decide +kernel
theorem dX1_firstToSwell_91 : decode cX1_firstToSwell 91 = .ok (.ifCond .le 6, 3) := by decide +kernel
theorem dX1_firstToSwell_94 : decode cX1_firstToSwell 94 = .ok (.iload 5, 2) := by decide +kernel
theorem dX1_firstToSwell_96 : decode cX1_firstToSwell 96 = .ok (.ireturn, 1) := by decide +kernel
theorem dX1_firstToSwell_97 : decode cX1_firstToSwell 97 = .ok (.iinc 4 1, 3) := by decide +kernel
theorem dX1_firstToSwell_100 : decode cX1_firstToSwell 100 = .ok (.goto (-51), 3) := by decide +kernel
theorem dX1_firstToSwell_103 : decode cX1_firstToSwell 103 = .ok (.iconst (-1), 1) := by decide +kernel
theorem dX1_firstToSwell_104 : decode cX1_firstToSwell 104 = .ok (.ireturn, 1) := by decide +kernel
theorem dX1_tellDue_0 : decode cX1_tellDue 0 = .ok (.aload_n 0, 1) := by decide +kernel
theorem dX1_tellDue_1 : decode cX1_tellDue 1 = .ok (.getfield 63, 3) := by decide +kernel
theorem dX1_tellDue_4 : decode cX1_tellDue 4 = .ok (.istore_n 1, 1) := by decide +kernel
theorem dX1_tellDue_5 : decode cX1_tellDue 5 = .ok (.iload_n 1, 1) := by decide +kernel
theorem dX1_tellDue_6 : decode cX1_tellDue 6 = .ok (.aload_n 0, 1) := by decide +kernel
theorem dX1_tellDue_7 : decode cX1_tellDue 7 = .ok (.getfield 42, 3) := by decide +kernel
theorem dX1_tellDue_10 : decode cX1_tellDue 10 = .ok (.getfield 91, 3) := by decide +kernel
theorem dX1_tellDue_13 : decode cX1_tellDue 13 = .ok (.if_icmp .ge 31, 3) := by decide +kernel
theorem dX1_tellDue_16 : decode cX1_tellDue 16 = .ok (.aload_n 0, 1) := by decide +kernel
theorem dX1_tellDue_17 : decode cX1_tellDue 17 = .ok (.getfield 42, 3) := by decide +kernel
theorem dX1_tellDue_20 : decode cX1_tellDue 20 = .ok (.getfield 82, 3) := by decide +kernel
theorem dX1_tellDue_23 : decode cX1_tellDue 23 = .ok (.iconst 2, 1) := by decide +kernel
theorem dX1_tellDue_24 : decode cX1_tellDue 24 = .ok (.aaload, 1) := by decide +kernel
theorem dX1_tellDue_25 : decode cX1_tellDue 25 = .ok (.iload_n 1, 1) := by decide +kernel
theorem dX1_tellDue_26 : decode cX1_tellDue 26 = .ok (.iaload, 1) := by decide +kernel
theorem dX1_tellDue_27 : decode cX1_tellDue 27 = .ok (.aload_n 0, 1) := by decide +kernel
theorem dX1_tellDue_28 : decode cX1_tellDue 28 = .ok (.getfield 56, 3) := by decide +kernel
theorem dX1_tellDue_31 : decode cX1_tellDue 31 = .ok (.if_icmp .gt 13, 3) := by decide +kernel
theorem dX1_tellDue_34 : decode cX1_tellDue 34 = .ok (.aload_n 0, 1) := by decide +kernel
theorem dX1_tellDue_35 : decode cX1_tellDue 35 = .ok (.invokevirtual 94, 3) := by decide +kernel
theorem dX1_tellDue_38 : decode cX1_tellDue 38 = .ok (.iinc 1 1, 3) := by decide +kernel
theorem dX1_tellDue_41 : decode cX1_tellDue 41 = .ok (.goto (-36), 3) := by decide +kernel
theorem dX1_tellDue_44 : decode cX1_tellDue 44 = .ok (.return_, 1) := by decide +kernel
theorem dX1_tellNext_0 : decode cX1_tellNext 0 = .ok (.aload_n 0, 1) := by decide +kernel
theorem dX1_tellNext_1 : decode cX1_tellNext 1 = .ok (.getfield 63, 3) := by decide +kernel
theorem dX1_tellNext_4 : decode cX1_tellNext 4 = .ok (.istore_n 1, 1) := by decide +kernel
theorem dX1_tellNext_5 : decode cX1_tellNext 5 = .ok (.iload_n 1, 1) := by decide +kernel
theorem dX1_tellNext_6 : decode cX1_tellNext 6 = .ok (.aload_n 0, 1) := by decide +kernel
theorem dX1_tellNext_7 : decode cX1_tellNext 7 = .ok (.getfield 42, 3) := by decide +kernel
theorem dX1_tellNext_10 : decode cX1_tellNext 10 = .ok (.getfield 91, 3) := by decide +kernel
theorem dX1_tellNext_13 : decode cX1_tellNext 13 = .ok (.if_icmp .lt 4, 3) := by decide +kernel
theorem dX1_tellNext_16 : decode cX1_tellNext 16 = .ok (.return_, 1) := by decide +kernel
theorem dX1_tellNext_17 : decode cX1_tellNext 17 = .ok (.aload_n 0, 1) := by decide +kernel
theorem dX1_tellNext_18 : decode cX1_tellNext 18 = .ok (.dup, 1) := by decide +kernel
theorem dX1_tellNext_19 : decode cX1_tellNext 19 = .ok (.getfield 63, 3) := by decide +kernel
theorem dX1_tellNext_22 : decode cX1_tellNext 22 = .ok (.iconst 1, 1) := by decide +kernel
theorem dX1_tellNext_23 : decode cX1_tellNext 23 = .ok (.iadd, 1) := by decide +kernel
theorem dX1_tellNext_24 : decode cX1_tellNext 24 = .ok (.putfield 63, 3) := by decide +kernel
theorem dX1_tellNext_27 : decode cX1_tellNext 27 = .ok (.aload_n 0, 1) := by decide +kernel
theorem dX1_tellNext_28 : decode cX1_tellNext 28 = .ok (.getfield 42, 3) := by decide +kernel
theorem dX1_tellNext_31 : decode cX1_tellNext 31 = .ok (.getfield 82, 3) := by decide +kernel
theorem dX1_tellNext_34 : decode cX1_tellNext 34 = .ok (.iconst 1, 1) := by decide +kernel
theorem dX1_tellNext_35 : decode cX1_tellNext 35 = .ok (.aaload, 1) := by decide +kernel
theorem dX1_tellNext_36 : decode cX1_tellNext 36 = .ok (.iload_n 1, 1) := by decide +kernel
theorem dX1_tellNext_37 : decode cX1_tellNext 37 = .ok (.iaload, 1) := by decide +kernel
theorem dX1_tellNext_38 : decode cX1_tellNext 38 = .ok (.istore_n 2, 1) := by decide +kernel
theorem dX1_tellNext_39 : decode cX1_tellNext 39 = .ok (.aload_n 0, 1) := by decide +kernel
theorem dX1_tellNext_40 : decode cX1_tellNext 40 = .ok (.iload_n 2, 1) := by decide +kernel
theorem dX1_tellNext_41 : decode cX1_tellNext 41 = .ok (.aload_n 0, 1) := by decide +kernel
theorem dX1_tellNext_42 : decode cX1_tellNext 42 = .ok (.getfield 42, 3) := by decide +kernel
theorem dX1_tellNext_45 : decode cX1_tellNext 45 = .ok (.getfield 82, 3) := by decide +kernel
theorem dX1_tellNext_48 : decode cX1_tellNext 48 = .ok (.bipush 8, 2) := by decide +kernel
theorem dX1_tellNext_50 : decode cX1_tellNext 50 = .ok (.aaload, 1) := by decide +kernel
theorem dX1_tellNext_51 : decode cX1_tellNext 51 = .ok (.iload_n 1, 1) := by decide +kernel
theorem dX1_tellNext_52 : decode cX1_tellNext 52 = .ok (.iaload, 1) := by decide +kernel
theorem dX1_tellNext_53 : decode cX1_tellNext 53 = .ok (.invokevirtual 97, 3) := by decide +kernel
theorem dX1_tellNext_56 : decode cX1_tellNext 56 = .ok (.aload_n 0, 1) := by decide +kernel
theorem dX1_tellNext_57 : decode cX1_tellNext 57 = .ok (.iload_n 2, 1) := by decide +kernel
theorem dX1_tellNext_58 : decode cX1_tellNext 58 = .ok (.invokevirtual 101, 3) := by decide +kernel
theorem dX1_tellNext_61 : decode cX1_tellNext 61 = .ok (.ifCond .eq 13, 3) := by decide +kernel
theorem dX1_tellNext_64 : decode cX1_tellNext 64 = .ok (.aload_n 0, 1) := by decide +kernel
theorem dX1_tellNext_65 : decode cX1_tellNext 65 = .ok (.iload_n 2, 1) := by decide +kernel
theorem dX1_tellNext_66 : decode cX1_tellNext 66 = .ok (.aload_n 0, 1) := by decide +kernel
theorem dX1_tellNext_67 : decode cX1_tellNext 67 = .ok (.iload_n 2, 1) := by decide +kernel
theorem dX1_tellNext_68 : decode cX1_tellNext 68 = .ok (.invokevirtual 105, 3) := by decide +kernel
theorem dX1_tellNext_71 : decode cX1_tellNext 71 = .ok (.invokevirtual 109, 3) := by decide +kernel
theorem dX1_tellNext_74 : decode cX1_tellNext 74 = .ok (.aload_n 0, 1) := by decide +kernel
theorem dX1_tellNext_75 : decode cX1_tellNext 75 = .ok (.iload_n 2, 1) := by decide +kernel
theorem dX1_tellNext_76 : decode cX1_tellNext 76 = .ok (.iload_n 1, 1) := by decide +kernel
theorem dX1_tellNext_77 : decode cX1_tellNext 77 = .ok (.aload_n 0, 1) := by decide +kernel
theorem dX1_tellNext_78 : decode cX1_tellNext 78 = .ok (.getfield 42, 3) := by decide +kernel
theorem dX1_tellNext_81 : decode cX1_tellNext 81 = .ok (.getfield 82, 3) := by decide +kernel
theorem dX1_tellNext_84 : decode cX1_tellNext 84 = .ok (.bipush 7, 2) := by decide +kernel
theorem dX1_tellNext_86 : decode cX1_tellNext 86 = .ok (.aaload, 1) := by decide +kernel
theorem dX1_tellNext_87 : decode cX1_tellNext 87 = .ok (.iload_n 1, 1) := by decide +kernel
theorem dX1_tellNext_88 : decode cX1_tellNext 88 = .ok (.iaload, 1) := by decide +kernel
theorem dX1_tellNext_89 : decode cX1_tellNext 89 = .ok (.iconst (-1), 1) := by decide +kernel
theorem dX1_tellNext_90 : decode cX1_tellNext 90 = .ok (.invokevirtual 112, 3) := by decide +kernel
theorem dX1_tellNext_93 : decode cX1_tellNext 93 = .ok (.return_, 1) := by decide +kernel
theorem dX1_step_0 : decode cX1_step 0 = .ok (.aload_n 0, 1) := by decide +kernel
theorem dX1_step_1 : decode cX1_step 1 = .ok (.dup, 1) := by decide +kernel
theorem dX1_step_2 : decode cX1_step 2 = .ok (.getfield 56, 3) := by decide +kernel
theorem dX1_step_5 : decode cX1_step 5 = .ok (.iconst 1, 1) := by decide +kernel
theorem dX1_step_6 : decode cX1_step 6 = .ok (.iadd, 1) := by decide +kernel
theorem dX1_step_7 : decode cX1_step 7 = .ok (.putfield 56, 3) := by decide +kernel
theorem dX1_step_10 : decode cX1_step 10 = .ok (.aload_n 1, 1) := by decide +kernel
theorem dX1_step_11 : decode cX1_step 11 = .ok (.iload_n 2, 1) := by decide +kernel
theorem dX1_step_12 : decode cX1_step 12 = .ok (.aload_n 0, 1) := by decide +kernel
theorem dX1_step_13 : decode cX1_step 13 = .ok (.getfield 56, 3) := by decide +kernel
theorem dX1_step_16 : decode cX1_step 16 = .ok (.aload_n 0, 1) := by decide +kernel
theorem dX1_step_17 : decode cX1_step 17 = .ok (.getfield 13, 3) := by decide +kernel
theorem dX1_step_20 : decode cX1_step 20 = .ok (.iconst 0, 1) := by decide +kernel
theorem dX1_step_21 : decode cX1_step 21 = .ok (.aaload, 1) := by decide +kernel
theorem dX1_step_22 : decode cX1_step 22 = .ok (.invokevirtual 116, 3) := by decide +kernel
theorem dX1_step_25 : decode cX1_step 25 = .ok (.aload_n 0, 1) := by decide +kernel
theorem dX1_step_26 : decode cX1_step 26 = .ok (.invokevirtual 122, 3) := by decide +kernel
theorem dX1_step_29 : decode cX1_step 29 = .ok (.iconst 0, 1) := by decide +kernel
theorem dX1_step_30 : decode cX1_step 30 = .ok (.istore_n 3, 1) := by decide +kernel
theorem dX1_step_31 : decode cX1_step 31 = .ok (.iload_n 3, 1) := by decide +kernel
theorem dX1_step_32 : decode cX1_step 32 = .ok (.aload_n 0, 1) := by decide +kernel
theorem dX1_step_33 : decode cX1_step 33 = .ok (.getfield 60, 3) := by decide +kernel
theorem dX1_step_36 : decode cX1_step 36 = .ok (.if_icmp .ge 56, 3) := by decide +kernel
theorem dX1_step_39 : decode cX1_step 39 = .ok (.iload_n 3, 1) := by decide +kernel
theorem dX1_step_40 : decode cX1_step 40 = .ok (.iconst 1, 1) := by decide +kernel
theorem dX1_step_41 : decode cX1_step 41 = .ok (.iadd, 1) := by decide +kernel
theorem dX1_step_42 : decode cX1_step 42 = .ok (.istore 4, 2) := by decide +kernel
theorem dX1_step_44 : decode cX1_step 44 = .ok (.iload 4, 2) := by decide +kernel
theorem dX1_step_46 : decode cX1_step 46 = .ok (.aload_n 0, 1) := by decide +kernel
theorem dX1_step_47 : decode cX1_step 47 = .ok (.getfield 60, 3) := by decide +kernel
theorem dX1_step_50 : decode cX1_step 50 = .ok (.if_icmp .ge 36, 3) := by decide +kernel
theorem dX1_step_53 : decode cX1_step 53 = .ok (.aload_n 0, 1) := by decide +kernel
theorem dX1_step_54 : decode cX1_step 54 = .ok (.getfield 13, 3) := by decide +kernel
theorem dX1_step_57 : decode cX1_step 57 = .ok (.iconst 0, 1) := by decide +kernel
theorem dX1_step_58 : decode cX1_step 58 = .ok (.aaload, 1) := by decide +kernel
theorem dX1_step_59 : decode cX1_step 59 = .ok (.iload_n 3, 1) := by decide +kernel
theorem dX1_step_60 : decode cX1_step 60 = .ok (.iaload, 1) := by decide +kernel
theorem dX1_step_61 : decode cX1_step 61 = .ok (.aload_n 0, 1) := by decide +kernel
theorem dX1_step_62 : decode cX1_step 62 = .ok (.getfield 13, 3) := by decide +kernel
theorem dX1_step_65 : decode cX1_step 65 = .ok (.iconst 0, 1) := by decide +kernel
theorem dX1_step_66 : decode cX1_step 66 = .ok (.aaload, 1) := by decide +kernel
theorem dX1_step_67 : decode cX1_step 67 = .ok (.iload 4, 2) := by decide +kernel
theorem dX1_step_69 : decode cX1_step 69 = .ok (.iaload, 1) := by decide +kernel
theorem dX1_step_70 : decode cX1_step 70 = .ok (.if_icmp .ne 10, 3) := by decide +kernel
theorem dX1_step_73 : decode cX1_step 73 = .ok (.aload_n 0, 1) := by decide +kernel
theorem dX1_step_74 : decode cX1_step 74 = .ok (.iload_n 3, 1) := by decide +kernel
theorem dX1_step_75 : decode cX1_step 75 = .ok (.iload 4, 2) := by decide +kernel
theorem dX1_step_77 : decode cX1_step 77 = .ok (.invokevirtual 125, 3) := by decide +kernel
theorem dX1_step_80 : decode cX1_step 80 = .ok (.iinc 4 1, 3) := by decide +kernel
theorem dX1_step_83 : decode cX1_step 83 = .ok (.goto (-39), 3) := by decide +kernel
theorem dX1_step_86 : decode cX1_step 86 = .ok (.iinc 3 1, 3) := by decide +kernel
theorem dX1_step_89 : decode cX1_step 89 = .ok (.goto (-58), 3) := by decide +kernel
theorem dX1_step_92 : decode cX1_step 92 = .ok (.return_, 1) := by decide +kernel
theorem dX1_forgetDead_0 : decode cX1_forgetDead 0 = .ok (.iconst 0, 1) := by decide +kernel
theorem dX1_forgetDead_1 : decode cX1_forgetDead 1 = .ok (.istore_n 1, 1) := by decide +kernel
theorem dX1_forgetDead_2 : decode cX1_forgetDead 2 = .ok (.iload_n 1, 1) := by decide +kernel
theorem dX1_forgetDead_3 : decode cX1_forgetDead 3 = .ok (.aload_n 0, 1) := by decide +kernel
theorem dX1_forgetDead_4 : decode cX1_forgetDead 4 = .ok (.getfield 63, 3) := by decide +kernel
theorem dX1_forgetDead_7 : decode cX1_forgetDead 7 = .ok (.if_icmp .ge 55, 3) := by decide +kernel
theorem dX1_forgetDead_10 : decode cX1_forgetDead 10 = .ok (.aload_n 0, 1) := by decide +kernel
theorem dX1_forgetDead_11 : decode cX1_forgetDead 11 = .ok (.getfield 27, 3) := by decide +kernel
theorem dX1_forgetDead_14 : decode cX1_forgetDead 14 = .ok (.iload_n 1, 1) := by decide +kernel
theorem dX1_forgetDead_15 : decode cX1_forgetDead 15 = .ok (.iaload, 1) := by decide +kernel
theorem dX1_forgetDead_16 : decode cX1_forgetDead 16 = .ok (.ifCond .le 40, 3) := by decide +kernel
theorem dX1_forgetDead_19 : decode cX1_forgetDead 19 = .ok (.aload_n 0, 1) := by decide +kernel
theorem dX1_forgetDead_20 : decode cX1_forgetDead 20 = .ok (.getfield 42, 3) := by decide +kernel
theorem dX1_forgetDead_23 : decode cX1_forgetDead 23 = .ok (.iload_n 1, 1) := by decide +kernel
theorem dX1_forgetDead_24 : decode cX1_forgetDead 24 = .ok (.aload_n 0, 1) := by decide +kernel
theorem dX1_forgetDead_25 : decode cX1_forgetDead 25 = .ok (.getfield 56, 3) := by decide +kernel
theorem dX1_forgetDead_28 : decode cX1_forgetDead 28 = .ok (.invokevirtual 128, 3) := by decide +kernel
theorem dX1_forgetDead_31 : decode cX1_forgetDead 31 = .ok (.ifCond .eq 25, 3) := by decide +kernel
theorem dX1_forgetDead_34 : decode cX1_forgetDead 34 = .ok (.iconst 0, 1) := by decide +kernel
theorem dX1_forgetDead_35 : decode cX1_forgetDead 35 = .ok (.istore_n 2, 1) := by decide +kernel
theorem dX1_forgetDead_36 : decode cX1_forgetDead 36 = .ok (.iload_n 2, 1) := by decide +kernel
theorem dX1_forgetDead_37 : decode cX1_forgetDead 37 = .ok (.aload_n 0, 1) := by decide +kernel
theorem dX1_forgetDead_38 : decode cX1_forgetDead 38 = .ok (.getfield 60, 3) := by decide +kernel
theorem dX1_forgetDead_41 : decode cX1_forgetDead 41 = .ok (.if_icmp .ge 15, 3) := by decide +kernel
theorem dX1_forgetDead_44 : decode cX1_forgetDead 44 = .ok (.aload_n 0, 1) := by decide +kernel
theorem dX1_forgetDead_45 : decode cX1_forgetDead 45 = .ok (.iload_n 2, 1) := by decide +kernel
theorem dX1_forgetDead_46 : decode cX1_forgetDead 46 = .ok (.iload_n 1, 1) := by decide +kernel
theorem dX1_forgetDead_47 : decode cX1_forgetDead 47 = .ok (.invokevirtual 97, 3) := by decide +kernel
theorem dX1_forgetDead_50 : decode cX1_forgetDead 50 = .ok (.iinc 2 1, 3) := by decide +kernel
theorem dX1_forgetDead_53 : decode cX1_forgetDead 53 = .ok (.goto (-17), 3) := by decide +kernel
theorem dX1_forgetDead_56 : decode cX1_forgetDead 56 = .ok (.iinc 1 1, 3) := by decide +kernel
theorem dX1_forgetDead_59 : decode cX1_forgetDead 59 = .ok (.goto (-57), 3) := by decide +kernel
theorem dX1_forgetDead_62 : decode cX1_forgetDead 62 = .ok (.return_, 1) := by decide +kernel
theorem dX1_meet_0 : decode cX1_meet 0 = .ok (.aload_n 0, 1) := by decide +kernel
theorem dX1_meet_1 : decode cX1_meet 1 = .ok (.getfield 39, 3) := by decide +kernel
theorem dX1_meet_4 : decode cX1_meet 4 = .ok (.iload_n 1, 1) := by decide +kernel
theorem dX1_meet_5 : decode cX1_meet 5 = .ok (.iconst 0, 1) := by decide +kernel
theorem dX1_meet_6 : decode cX1_meet 6 = .ok (.iastore, 1) := by decide +kernel
theorem dX1_meet_7 : decode cX1_meet 7 = .ok (.aload_n 0, 1) := by decide +kernel
theorem dX1_meet_8 : decode cX1_meet 8 = .ok (.getfield 39, 3) := by decide +kernel
theorem dX1_meet_11 : decode cX1_meet 11 = .ok (.iload_n 2, 1) := by decide +kernel
theorem dX1_meet_12 : decode cX1_meet 12 = .ok (.iconst 0, 1) := by decide +kernel
theorem dX1_meet_13 : decode cX1_meet 13 = .ok (.iastore, 1) := by decide +kernel
theorem dX1_meet_14 : decode cX1_meet 14 = .ok (.iconst 0, 1) := by decide +kernel
theorem dX1_meet_15 : decode cX1_meet 15 = .ok (.istore_n 3, 1) := by decide +kernel
theorem dX1_meet_16 : decode cX1_meet 16 = .ok (.iload_n 3, 1) := by decide +kernel
theorem dX1_meet_17 : decode cX1_meet 17 = .ok (.sipush 2000, 3) := by decide +kernel
theorem dX1_meet_20 : decode cX1_meet 20 = .ok (.if_icmp .ge 82, 3) := by decide +kernel
theorem dX1_meet_23 : decode cX1_meet 23 = .ok (.aload_n 0, 1) := by decide +kernel
theorem dX1_meet_24 : decode cX1_meet 24 = .ok (.getfield 13, 3) := by decide +kernel
theorem dX1_meet_27 : decode cX1_meet 27 = .ok (.iconst 1, 1) := by decide +kernel
theorem dX1_meet_28 : decode cX1_meet 28 = .ok (.aaload, 1) := by decide +kernel
theorem dX1_meet_29 : decode cX1_meet 29 = .ok (.iload_n 1, 1) := by decide +kernel
theorem dX1_meet_30 : decode cX1_meet 30 = .ok (.iaload, 1) := by decide +kernel
theorem dX1_meet_31 : decode cX1_meet 31 = .ok (.ifCond .le 71, 3) := by decide +kernel
theorem dX1_meet_34 : decode cX1_meet 34 = .ok (.aload_n 0, 1) := by decide +kernel
theorem dX1_meet_35 : decode cX1_meet 35 = .ok (.getfield 13, 3) := by decide +kernel
theorem dX1_meet_38 : decode cX1_meet 38 = .ok (.iconst 1, 1) := by decide +kernel
theorem dX1_meet_39 : decode cX1_meet 39 = .ok (.aaload, 1) := by decide +kernel
theorem dX1_meet_40 : decode cX1_meet 40 = .ok (.iload_n 2, 1) := by decide +kernel
theorem dX1_meet_41 : decode cX1_meet 41 = .ok (.iaload, 1) := by decide +kernel
theorem dX1_meet_42 : decode cX1_meet 42 = .ok (.ifCond .le 60, 3) := by decide +kernel
theorem dX1_meet_45 : decode cX1_meet 45 = .ok (.aload_n 0, 1) := by decide +kernel
theorem dX1_meet_46 : decode cX1_meet 46 = .ok (.iconst (-1), 1) := by decide +kernel
theorem dX1_meet_47 : decode cX1_meet 47 = .ok (.putfield 132, 3) := by decide +kernel
theorem dX1_meet_50 : decode cX1_meet 50 = .ok (.aload_n 0, 1) := by decide +kernel
theorem dX1_meet_51 : decode cX1_meet 51 = .ok (.iload_n 1, 1) := by decide +kernel
theorem dX1_meet_52 : decode cX1_meet 52 = .ok (.iload_n 2, 1) := by decide +kernel
theorem dX1_meet_53 : decode cX1_meet 53 = .ok (.invokevirtual 135, 3) := by decide +kernel
theorem dX1_meet_56 : decode cX1_meet 56 = .ok (.aload_n 0, 1) := by decide +kernel
theorem dX1_meet_57 : decode cX1_meet 57 = .ok (.iload_n 2, 1) := by decide +kernel
theorem dX1_meet_58 : decode cX1_meet 58 = .ok (.iload_n 1, 1) := by decide +kernel
theorem dX1_meet_59 : decode cX1_meet 59 = .ok (.invokevirtual 135, 3) := by decide +kernel
theorem dX1_meet_62 : decode cX1_meet 62 = .ok (.aload_n 0, 1) := by decide +kernel
theorem dX1_meet_63 : decode cX1_meet 63 = .ok (.getfield 132, 3) := by decide +kernel
theorem dX1_meet_66 : decode cX1_meet 66 = .ok (.iconst (-1), 1) := by decide +kernel
theorem dX1_meet_67 : decode cX1_meet 67 = .ok (.if_icmp .ne 4, 3) := by decide +kernel
theorem dX1_meet_70 : decode cX1_meet 70 = .ok (.return_, 1) := by decide +kernel
theorem dX1_meet_71 : decode cX1_meet 71 = .ok (.aload_n 0, 1) := by decide +kernel
theorem dX1_meet_72 : decode cX1_meet 72 = .ok (.aload_n 0, 1) := by decide +kernel
theorem dX1_meet_73 : decode cX1_meet 73 = .ok (.getfield 138, 3) := by decide +kernel
theorem dX1_meet_76 : decode cX1_meet 76 = .ok (.aload_n 0, 1) := by decide +kernel
theorem dX1_meet_77 : decode cX1_meet 77 = .ok (.getfield 138, 3) := by decide +kernel
theorem dX1_meet_80 : decode cX1_meet 80 = .ok (.iload_n 1, 1) := by decide +kernel
theorem dX1_meet_81 : decode cX1_meet 81 = .ok (.if_icmp .ne 7, 3) := by decide +kernel
theorem dX1_meet_84 : decode cX1_meet 84 = .ok (.iload_n 2, 1) := by decide +kernel
theorem dX1_meet_85 : decode cX1_meet 85 = .ok (.goto 4, 3) := by decide +kernel
theorem dX1_meet_88 : decode cX1_meet 88 = .ok (.iload_n 1, 1) := by decide +kernel
theorem dX1_meet_89 : decode cX1_meet 89 = .ok (.aload_n 0, 1) := by decide +kernel
theorem dX1_meet_90 : decode cX1_meet 90 = .ok (.getfield 132, 3) := by decide +kernel
theorem dX1_meet_93 : decode cX1_meet 93 = .ok (.invokevirtual 141, 3) := by decide +kernel
theorem dX1_meet_96 : decode cX1_meet 96 = .ok (.iinc 3 1, 3) := by decide +kernel
theorem dX1_meet_99 : decode cX1_meet 99 = .ok (.goto (-83), 3) := by decide +kernel
theorem dX1_meet_102 : decode cX1_meet 102 = .ok (.return_, 1) := by decide +kernel
theorem dX1_offerBest_0 : decode cX1_offerBest 0 = .ok (.aload_n 0, 1) := by decide +kernel
theorem dX1_offerBest_1 : decode cX1_offerBest 1 = .ok (.getfield 23, 3) := by decide +kernel
theorem dX1_offerBest_4 : decode cX1_offerBest 4 = .ok (.iload_n 1, 1) := by decide +kernel
theorem dX1_offerBest_5 : decode cX1_offerBest 5 = .ok (.iaload, 1) := by decide +kernel
theorem dX1_offerBest_6 : decode cX1_offerBest 6 = .ok (.aload_n 0, 1) := by decide +kernel
theorem dX1_offerBest_7 : decode cX1_offerBest 7 = .ok (.getfield 23, 3) := by decide +kernel
theorem dX1_offerBest_10 : decode cX1_offerBest 10 = .ok (.iload_n 2, 1) := by decide +kernel
theorem dX1_offerBest_11 : decode cX1_offerBest 11 = .ok (.iaload, 1) := by decide +kernel
theorem dX1_offerBest_12 : decode cX1_offerBest 12 = .ok (.iconst (-1), 1) := by decide +kernel
theorem dX1_offerBest_13 : decode cX1_offerBest 13 = .ok (.ixor, 1) := by decide +kernel
theorem dX1_offerBest_14 : decode cX1_offerBest 14 = .ok (.iand, 1) := by decide +kernel
theorem dX1_offerBest_15 : decode cX1_offerBest 15 = .ok (.aload_n 0, 1) := by decide +kernel
theorem dX1_offerBest_16 : decode cX1_offerBest 16 = .ok (.getfield 39, 3) := by decide +kernel
theorem dX1_offerBest_19 : decode cX1_offerBest 19 = .ok (.iload_n 2, 1) := by decide +kernel
theorem dX1_offerBest_20 : decode cX1_offerBest 20 = .ok (.iaload, 1) := by decide +kernel
theorem dX1_offerBest_21 : decode cX1_offerBest 21 = .ok (.iconst (-1), 1) := by decide +kernel
theorem dX1_offerBest_22 : decode cX1_offerBest 22 = .ok (.ixor, 1) := by decide +kernel
theorem dX1_offerBest_23 : decode cX1_offerBest 23 = .ok (.iand, 1) := by decide +kernel
theorem dX1_offerBest_24 : decode cX1_offerBest 24 = .ok (.istore_n 3, 1) := by decide +kernel
theorem dX1_offerBest_25 : decode cX1_offerBest 25 = .ok (.iload_n 3, 1) := by decide +kernel
theorem dX1_offerBest_26 : decode cX1_offerBest 26 = .ok (.ifCond .ne 4, 3) := by decide +kernel
theorem dX1_offerBest_29 : decode cX1_offerBest 29 = .ok (.return_, 1) := by decide +kernel
theorem dX1_offerBest_30 : decode cX1_offerBest 30 = .ok (.iconst (-1), 1) := by decide +kernel
theorem dX1_offerBest_31 : decode cX1_offerBest 31 = .ok (.istore 4, 2) := by decide +kernel
theorem dX1_offerBest_33 : decode cX1_offerBest 33 = .ok (.aload_n 0, 1) := by decide +kernel
theorem dX1_offerBest_34 : decode cX1_offerBest 34 = .ok (.iload_n 2, 1) := by decide +kernel
theorem dX1_offerBest_35 : decode cX1_offerBest 35 = .ok (.invokevirtual 101, 3) := by decide +kernel
theorem dX1_offerBest_38 : decode cX1_offerBest 38 = .ok (.ifCond .eq 26, 3) := by decide +kernel
theorem dX1_offerBest_41 : decode cX1_offerBest 41 = .ok (.aload_n 0, 1) := by decide +kernel
theorem dX1_offerBest_42 : decode cX1_offerBest 42 = .ok (.iload_n 2, 1) := by decide +kernel
theorem dX1_offerBest_43 : decode cX1_offerBest 43 = .ok (.invokevirtual 105, 3) := by decide +kernel
theorem dX1_offerBest_46 : decode cX1_offerBest 46 = .ok (.istore 5, 2) := by decide +kernel
theorem dX1_offerBest_48 : decode cX1_offerBest 48 = .ok (.aload_n 0, 1) := by decide +kernel
theorem dX1_offerBest_49 : decode cX1_offerBest 49 = .ok (.iload_n 2, 1) := by decide +kernel
theorem dX1_offerBest_50 : decode cX1_offerBest 50 = .ok (.iload 5, 2) := by decide +kernel
theorem dX1_offerBest_52 : decode cX1_offerBest 52 = .ok (.invokevirtual 145, 3) := by decide +kernel
theorem dX1_offerBest_55 : decode cX1_offerBest 55 = .ok (.aload_n 0, 1) := by decide +kernel
theorem dX1_offerBest_56 : decode cX1_offerBest 56 = .ok (.getfield 46, 3) := by decide +kernel
theorem dX1_offerBest_59 : decode cX1_offerBest 59 = .ok (.invokevirtual 148, 3) := by decide +kernel
theorem dX1_offerBest_62 : decode cX1_offerBest 62 = .ok (.istore 4, 2) := by decide +kernel
theorem dX1_offerBest_64 : decode cX1_offerBest 64 = .ok (.iconst 0, 1) := by decide +kernel
theorem dX1_offerBest_65 : decode cX1_offerBest 65 = .ok (.istore 5, 2) := by decide +kernel
theorem dX1_offerBest_67 : decode cX1_offerBest 67 = .ok (.iload 5, 2) := by decide +kernel
theorem dX1_offerBest_69 : decode cX1_offerBest 69 = .ok (.aload_n 0, 1) := by decide +kernel
theorem dX1_offerBest_70 : decode cX1_offerBest 70 = .ok (.getfield 63, 3) := by decide +kernel
theorem dX1_offerBest_73 : decode cX1_offerBest 73 = .ok (.if_icmp .ge 138, 3) := by decide +kernel
theorem dX1_offerBest_76 : decode cX1_offerBest 76 = .ok (.iload_n 3, 1) := by decide +kernel
theorem dX1_offerBest_77 : decode cX1_offerBest 77 = .ok (.iload 5, 2) := by decide +kernel
theorem dX1_offerBest_79 : decode cX1_offerBest 79 = .ok (.ishr, 1) := by decide +kernel
theorem dX1_offerBest_80 : decode cX1_offerBest 80 = .ok (.iconst 1, 1) := by decide +kernel
theorem dX1_offerBest_81 : decode cX1_offerBest 81 = .ok (.iand, 1) := by decide +kernel
theorem dX1_offerBest_82 : decode cX1_offerBest 82 = .ok (.ifCond .eq 123, 3) := by decide +kernel
theorem dX1_offerBest_85 : decode cX1_offerBest 85 = .ok (.aload_n 0, 1) := by decide +kernel
theorem dX1_offerBest_86 : decode cX1_offerBest 86 = .ok (.getfield 42, 3) := by decide +kernel
theorem dX1_offerBest_89 : decode cX1_offerBest 89 = .ok (.getfield 154, 3) := by decide +kernel
theorem dX1_offerBest_92 : decode cX1_offerBest 92 = .ok (.iload 5, 2) := by decide +kernel
theorem dX1_offerBest_94 : decode cX1_offerBest 94 = .ok (.iaload, 1) := by decide +kernel
theorem dX1_offerBest_95 : decode cX1_offerBest 95 = .ok (.aload_n 0, 1) := by decide +kernel
theorem dX1_offerBest_96 : decode cX1_offerBest 96 = .ok (.getfield 23, 3) := by decide +kernel
theorem dX1_offerBest_99 : decode cX1_offerBest 99 = .ok (.iload_n 2, 1) := by decide +kernel
theorem dX1_offerBest_100 : decode cX1_offerBest 100 = .ok (.iaload, 1) := by decide +kernel
theorem dX1_offerBest_101 : decode cX1_offerBest 101 = .ok (.iand, 1) := by decide +kernel
theorem dX1_offerBest_102 : decode cX1_offerBest 102 = .ok (.ifCond .eq 6, 3) := by decide +kernel
theorem dX1_offerBest_105 : decode cX1_offerBest 105 = .ok (.goto 100, 3) := by decide +kernel
theorem dX1_offerBest_108 : decode cX1_offerBest 108 = .ok (.aload_n 0, 1) := by decide +kernel
theorem dX1_offerBest_109 : decode cX1_offerBest 109 = .ok (.iload_n 1, 1) := by decide +kernel
theorem dX1_offerBest_110 : decode cX1_offerBest 110 = .ok (.iload 5, 2) := by decide +kernel
theorem dX1_offerBest_112 : decode cX1_offerBest 112 = .ok (.invokevirtual 145, 3) := by decide +kernel
theorem dX1_offerBest_115 : decode cX1_offerBest 115 = .ok (.aload_n 0, 1) := by decide +kernel
theorem dX1_offerBest_116 : decode cX1_offerBest 116 = .ok (.getfield 46, 3) := by decide +kernel
theorem dX1_offerBest_119 : decode cX1_offerBest 119 = .ok (.invokevirtual 148, 3) := by decide +kernel
theorem dX1_offerBest_122 : decode cX1_offerBest 122 = .ok (.istore 6, 2) := by decide +kernel
theorem dX1_offerBest_124 : decode cX1_offerBest 124 = .ok (.aload_n 0, 1) := by decide +kernel
theorem dX1_offerBest_125 : decode cX1_offerBest 125 = .ok (.getfield 132, 3) := by decide +kernel
theorem dX1_offerBest_128 : decode cX1_offerBest 128 = .ok (.iconst (-1), 1) := by decide +kernel
theorem dX1_offerBest_129 : decode cX1_offerBest 129 = .ok (.if_icmp .eq 30, 3) := by decide +kernel
theorem dX1_offerBest_132 : decode cX1_offerBest 132 = .ok (.iload 6, 2) := by decide +kernel
theorem dX1_offerBest_134 : decode cX1_offerBest 134 = .ok (.aload_n 0, 1) := by decide +kernel
theorem dX1_offerBest_135 : decode cX1_offerBest 135 = .ok (.getfield 157, 3) := by decide +kernel
theorem dX1_offerBest_138 : decode cX1_offerBest 138 = .ok (.if_icmp .gt 21, 3) := by decide +kernel
theorem dX1_offerBest_141 : decode cX1_offerBest 141 = .ok (.iload 6, 2) := by decide +kernel
theorem dX1_offerBest_143 : decode cX1_offerBest 143 = .ok (.aload_n 0, 1) := by decide +kernel
theorem dX1_offerBest_144 : decode cX1_offerBest 144 = .ok (.getfield 157, 3) := by decide +kernel
theorem dX1_offerBest_147 : decode cX1_offerBest 147 = .ok (.if_icmp .ne 16, 3) := by decide +kernel
theorem dX1_offerBest_150 : decode cX1_offerBest 150 = .ok (.iload 5, 2) := by decide +kernel
theorem dX1_offerBest_152 : decode cX1_offerBest 152 = .ok (.aload_n 0, 1) := by decide +kernel
theorem dX1_offerBest_153 : decode cX1_offerBest 153 = .ok (.getfield 132, 3) := by decide +kernel
theorem dX1_offerBest_156 : decode cX1_offerBest 156 = .ok (.if_icmp .ge 7, 3) := by decide +kernel
theorem dX1_offerBest_159 : decode cX1_offerBest 159 = .ok (.iconst 1, 1) := by decide +kernel
theorem dX1_offerBest_160 : decode cX1_offerBest 160 = .ok (.goto 4, 3) := by decide +kernel
theorem dX1_offerBest_163 : decode cX1_offerBest 163 = .ok (.iconst 0, 1) := by decide +kernel
theorem dX1_offerBest_164 : decode cX1_offerBest 164 = .ok (.istore 7, 2) := by decide +kernel
theorem dX1_offerBest_166 : decode cX1_offerBest 166 = .ok (.iload 7, 2) := by decide +kernel
theorem dX1_offerBest_168 : decode cX1_offerBest 168 = .ok (.ifCond .eq 37, 3) := by decide +kernel
theorem dX1_offerBest_171 : decode cX1_offerBest 171 = .ok (.iload 6, 2) := by decide +kernel
theorem dX1_offerBest_173 : decode cX1_offerBest 173 = .ok (.iload 4, 2) := by decide +kernel
theorem dX1_offerBest_175 : decode cX1_offerBest 175 = .ok (.if_icmp .le 30, 3) := by decide +kernel
theorem dX1_offerBest_178 : decode cX1_offerBest 178 = .ok (.aload_n 0, 1) := by decide +kernel
theorem dX1_offerBest_179 : decode cX1_offerBest 179 = .ok (.getfield 46, 3) := by decide +kernel
theorem dX1_offerBest_182 : decode cX1_offerBest 182 = .ok (.invokevirtual 160, 3) := by decide +kernel
theorem dX1_offerBest_185 : decode cX1_offerBest 185 = .ok (.ifCond .eq 20, 3) := by decide +kernel
theorem dX1_offerBest_188 : decode cX1_offerBest 188 = .ok (.aload_n 0, 1) := by decide +kernel
theorem dX1_offerBest_189 : decode cX1_offerBest 189 = .ok (.iload 5, 2) := by decide +kernel
theorem dX1_offerBest_191 : decode cX1_offerBest 191 = .ok (.putfield 132, 3) := by decide +kernel
theorem dX1_offerBest_194 : decode cX1_offerBest 194 = .ok (.aload_n 0, 1) := by decide +kernel
theorem dX1_offerBest_195 : decode cX1_offerBest 195 = .ok (.iload 6, 2) := by decide +kernel
theorem dX1_offerBest_197 : decode cX1_offerBest 197 = .ok (.putfield 157, 3) := by decide +kernel
theorem dX1_offerBest_200 : decode cX1_offerBest 200 = .ok (.aload_n 0, 1) := by decide +kernel
theorem dX1_offerBest_201 : decode cX1_offerBest 201 = .ok (.iload_n 1, 1) := by decide +kernel
theorem dX1_offerBest_202 : decode cX1_offerBest 202 = .ok (.putfield 138, 3) := by decide +kernel
theorem dX1_offerBest_205 : decode cX1_offerBest 205 = .ok (.iinc 5 1, 3) := by decide +kernel
theorem dX1_offerBest_208 : decode cX1_offerBest 208 = .ok (.goto (-141), 3) := by decide +kernel
theorem dX1_offerBest_211 : decode cX1_offerBest 211 = .ok (.return_, 1) := by decide +kernel
theorem dX1_hand_0 : decode cX1_hand 0 = .ok (.aload_n 0, 1) := by decide +kernel
theorem dX1_hand_1 : decode cX1_hand 1 = .ok (.iload_n 2, 1) := by decide +kernel
theorem dX1_hand_2 : decode cX1_hand 2 = .ok (.invokevirtual 101, 3) := by decide +kernel
theorem dX1_hand_5 : decode cX1_hand 5 = .ok (.ifCond .eq 13, 3) := by decide +kernel
theorem dX1_hand_8 : decode cX1_hand 8 = .ok (.aload_n 0, 1) := by decide +kernel
theorem dX1_hand_9 : decode cX1_hand 9 = .ok (.iload_n 2, 1) := by decide +kernel
theorem dX1_hand_10 : decode cX1_hand 10 = .ok (.aload_n 0, 1) := by decide +kernel
theorem dX1_hand_11 : decode cX1_hand 11 = .ok (.iload_n 2, 1) := by decide +kernel
theorem dX1_hand_12 : decode cX1_hand 12 = .ok (.invokevirtual 105, 3) := by decide +kernel
theorem dX1_hand_15 : decode cX1_hand 15 = .ok (.invokevirtual 109, 3) := by decide +kernel
theorem dX1_hand_18 : decode cX1_hand 18 = .ok (.aload_n 0, 1) := by decide +kernel
theorem dX1_hand_19 : decode cX1_hand 19 = .ok (.iload_n 2, 1) := by decide +kernel
theorem dX1_hand_20 : decode cX1_hand 20 = .ok (.aload_n 0, 1) := by decide +kernel
theorem dX1_hand_21 : decode cX1_hand 21 = .ok (.getfield 42, 3) := by decide +kernel
theorem dX1_hand_24 : decode cX1_hand 24 = .ok (.getfield 82, 3) := by decide +kernel
theorem dX1_hand_27 : decode cX1_hand 27 = .ok (.bipush 8, 2) := by decide +kernel
theorem dX1_hand_29 : decode cX1_hand 29 = .ok (.aaload, 1) := by decide +kernel
theorem dX1_hand_30 : decode cX1_hand 30 = .ok (.iload_n 3, 1) := by decide +kernel
theorem dX1_hand_31 : decode cX1_hand 31 = .ok (.iaload, 1) := by decide +kernel
theorem dX1_hand_32 : decode cX1_hand 32 = .ok (.invokevirtual 97, 3) := by decide +kernel
theorem dX1_hand_35 : decode cX1_hand 35 = .ok (.aload_n 0, 1) := by decide +kernel
theorem dX1_hand_36 : decode cX1_hand 36 = .ok (.getfield 42, 3) := by decide +kernel
theorem dX1_hand_39 : decode cX1_hand 39 = .ok (.getfield 82, 3) := by decide +kernel
theorem dX1_hand_42 : decode cX1_hand 42 = .ok (.iconst 0, 1) := by decide +kernel
theorem dX1_hand_43 : decode cX1_hand 43 = .ok (.aaload, 1) := by decide +kernel
theorem dX1_hand_44 : decode cX1_hand 44 = .ok (.iload_n 3, 1) := by decide +kernel
theorem dX1_hand_45 : decode cX1_hand 45 = .ok (.iaload, 1) := by decide +kernel
theorem dX1_hand_46 : decode cX1_hand 46 = .ok (.istore 4, 2) := by decide +kernel
theorem dX1_hand_48 : decode cX1_hand 48 = .ok (.iload 4, 2) := by decide +kernel
theorem dX1_hand_50 : decode cX1_hand 50 = .ok (.iconst 1, 1) := by decide +kernel
theorem dX1_hand_51 : decode cX1_hand 51 = .ok (.if_icmp .eq 9, 3) := by decide +kernel
theorem dX1_hand_54 : decode cX1_hand 54 = .ok (.iload 4, 2) := by decide +kernel
theorem dX1_hand_56 : decode cX1_hand 56 = .ok (.iconst 2, 1) := by decide +kernel
theorem dX1_hand_57 : decode cX1_hand 57 = .ok (.if_icmp .ne 14, 3) := by decide +kernel
theorem dX1_hand_60 : decode cX1_hand 60 = .ok (.aload_n 0, 1) := by decide +kernel
theorem dX1_hand_61 : decode cX1_hand 61 = .ok (.getfield 13, 3) := by decide +kernel
theorem dX1_hand_64 : decode cX1_hand 64 = .ok (.iconst 4, 1) := by decide +kernel
theorem dX1_hand_65 : decode cX1_hand 65 = .ok (.aaload, 1) := by decide +kernel
theorem dX1_hand_66 : decode cX1_hand 66 = .ok (.iload_n 1, 1) := by decide +kernel
theorem dX1_hand_67 : decode cX1_hand 67 = .ok (.iaload, 1) := by decide +kernel
theorem dX1_hand_68 : decode cX1_hand 68 = .ok (.goto 4, 3) := by decide +kernel
theorem dX1_hand_71 : decode cX1_hand 71 = .ok (.iconst 0, 1) := by decide +kernel
theorem dX1_hand_72 : decode cX1_hand 72 = .ok (.istore 5, 2) := by decide +kernel
theorem dX1_hand_74 : decode cX1_hand 74 = .ok (.aload_n 0, 1) := by decide +kernel
theorem dX1_hand_75 : decode cX1_hand 75 = .ok (.getfield 16, 3) := by decide +kernel
theorem dX1_hand_78 : decode cX1_hand 78 = .ok (.iconst 0, 1) := by decide +kernel
theorem dX1_hand_79 : decode cX1_hand 79 = .ok (.aaload, 1) := by decide +kernel
theorem dX1_hand_80 : decode cX1_hand 80 = .ok (.iload_n 1, 1) := by decide +kernel
theorem dX1_hand_81 : decode cX1_hand 81 = .ok (.iload_n 3, 1) := by decide +kernel
theorem dX1_hand_82 : decode cX1_hand 82 = .ok (.invokestatic 164, 3) := by decide +kernel
theorem dX1_hand_85 : decode cX1_hand 85 = .ok (.iaload, 1) := by decide +kernel
theorem dX1_hand_86 : decode cX1_hand 86 = .ok (.iload 5, 2) := by decide +kernel
theorem dX1_hand_88 : decode cX1_hand 88 = .ok (.iadd, 1) := by decide +kernel
theorem dX1_hand_89 : decode cX1_hand 89 = .ok (.istore 6, 2) := by decide +kernel
theorem dX1_hand_91 : decode cX1_hand 91 = .ok (.aload_n 0, 1) := by decide +kernel
theorem dX1_hand_92 : decode cX1_hand 92 = .ok (.iload_n 2, 1) := by decide +kernel
theorem dX1_hand_93 : decode cX1_hand 93 = .ok (.iload_n 3, 1) := by decide +kernel
theorem dX1_hand_94 : decode cX1_hand 94 = .ok (.iload 6, 2) := by decide +kernel
theorem dX1_hand_96 : decode cX1_hand 96 = .ok (.sipush 9999, 3) := by decide +kernel
theorem dX1_hand_99 : decode cX1_hand 99 = .ok (.invokestatic 167, 3) := by decide +kernel
theorem dX1_hand_102 : decode cX1_hand 102 = .ok (.iload_n 1, 1) := by decide +kernel
theorem dX1_hand_103 : decode cX1_hand 103 = .ok (.invokevirtual 112, 3) := by decide +kernel
theorem dX1_hand_106 : decode cX1_hand 106 = .ok (.aload_n 0, 1) := by decide +kernel
theorem dX1_hand_107 : decode cX1_hand 107 = .ok (.getfield 13, 3) := by decide +kernel
theorem dX1_hand_110 : decode cX1_hand 110 = .ok (.iconst 1, 1) := by decide +kernel
theorem dX1_hand_111 : decode cX1_hand 111 = .ok (.aaload, 1) := by decide +kernel
theorem dX1_hand_112 : decode cX1_hand 112 = .ok (.iload_n 1, 1) := by decide +kernel
theorem dX1_hand_113 : decode cX1_hand 113 = .ok (.aload_n 0, 1) := by decide +kernel
theorem dX1_hand_114 : decode cX1_hand 114 = .ok (.getfield 13, 3) := by decide +kernel
theorem dX1_hand_117 : decode cX1_hand 117 = .ok (.iconst 1, 1) := by decide +kernel
theorem dX1_hand_118 : decode cX1_hand 118 = .ok (.aaload, 1) := by decide +kernel
theorem dX1_hand_119 : decode cX1_hand 119 = .ok (.iload_n 1, 1) := by decide +kernel
theorem dX1_hand_120 : decode cX1_hand 120 = .ok (.iaload, 1) := by decide +kernel
theorem dX1_hand_121 : decode cX1_hand 121 = .ok (.aload_n 0, 1) := by decide +kernel
theorem dX1_hand_122 : decode cX1_hand 122 = .ok (.getfield 46, 3) := by decide +kernel
theorem dX1_hand_125 : decode cX1_hand 125 = .ok (.invokevirtual 172, 3) := by decide +kernel
theorem dX1_hand_128 : decode cX1_hand 128 = .ok (.isub, 1) := by decide +kernel
theorem dX1_hand_129 : decode cX1_hand 129 = .ok (.iconst 0, 1) := by decide +kernel
theorem dX1_hand_130 : decode cX1_hand 130 = .ok (.invokestatic 175, 3) := by decide +kernel
theorem dX1_hand_133 : decode cX1_hand 133 = .ok (.iastore, 1) := by decide +kernel
theorem dX1_hand_134 : decode cX1_hand 134 = .ok (.aload_n 0, 1) := by decide +kernel
theorem dX1_hand_135 : decode cX1_hand 135 = .ok (.getfield 13, 3) := by decide +kernel
theorem dX1_hand_138 : decode cX1_hand 138 = .ok (.iconst 1, 1) := by decide +kernel
theorem dX1_hand_139 : decode cX1_hand 139 = .ok (.aaload, 1) := by decide +kernel
theorem dX1_hand_140 : decode cX1_hand 140 = .ok (.iload_n 2, 1) := by decide +kernel
theorem dX1_hand_141 : decode cX1_hand 141 = .ok (.dup2, 1) := by decide +kernel
theorem dX1_hand_142 : decode cX1_hand 142 = .ok (.iaload, 1) := by decide +kernel
theorem dX1_hand_143 : decode cX1_hand 143 = .ok (.iconst 1, 1) := by decide +kernel
theorem dX1_hand_144 : decode cX1_hand 144 = .ok (.isub, 1) := by decide +kernel
theorem dX1_hand_145 : decode cX1_hand 145 = .ok (.iastore, 1) := by decide +kernel
theorem dX1_hand_146 : decode cX1_hand 146 = .ok (.aload_n 0, 1) := by decide +kernel
theorem dX1_hand_147 : decode cX1_hand 147 = .ok (.getfield 13, 3) := by decide +kernel
theorem dX1_hand_150 : decode cX1_hand 150 = .ok (.iconst 5, 1) := by decide +kernel
theorem dX1_hand_151 : decode cX1_hand 151 = .ok (.aaload, 1) := by decide +kernel
theorem dX1_hand_152 : decode cX1_hand 152 = .ok (.iload_n 1, 1) := by decide +kernel
theorem dX1_hand_153 : decode cX1_hand 153 = .ok (.dup2, 1) := by decide +kernel
theorem dX1_hand_154 : decode cX1_hand 154 = .ok (.iaload, 1) := by decide +kernel
theorem dX1_hand_155 : decode cX1_hand 155 = .ok (.iconst 1, 1) := by decide +kernel
theorem dX1_hand_156 : decode cX1_hand 156 = .ok (.iadd, 1) := by decide +kernel
theorem dX1_hand_157 : decode cX1_hand 157 = .ok (.iastore, 1) := by decide +kernel
theorem dX1_hand_158 : decode cX1_hand 158 = .ok (.aload_n 0, 1) := by decide +kernel
theorem dX1_hand_159 : decode cX1_hand 159 = .ok (.getfield 13, 3) := by decide +kernel
theorem dX1_hand_162 : decode cX1_hand 162 = .ok (.bipush 6, 2) := by decide +kernel
theorem dX1_hand_164 : decode cX1_hand 164 = .ok (.aaload, 1) := by decide +kernel
theorem dX1_hand_165 : decode cX1_hand 165 = .ok (.iload_n 2, 1) := by decide +kernel
theorem dX1_hand_166 : decode cX1_hand 166 = .ok (.dup2, 1) := by decide +kernel
theorem dX1_hand_167 : decode cX1_hand 167 = .ok (.iaload, 1) := by decide +kernel
theorem dX1_hand_168 : decode cX1_hand 168 = .ok (.iconst 1, 1) := by decide +kernel
theorem dX1_hand_169 : decode cX1_hand 169 = .ok (.iadd, 1) := by decide +kernel
theorem dX1_hand_170 : decode cX1_hand 170 = .ok (.iastore, 1) := by decide +kernel
theorem dX1_hand_171 : decode cX1_hand 171 = .ok (.return_, 1) := by decide +kernel
theorem dX1_isFull_0 : decode cX1_isFull 0 = .ok (.aload_n 0, 1) := by decide +kernel
theorem dX1_isFull_1 : decode cX1_isFull 1 = .ok (.getfield 13, 3) := by decide +kernel
theorem dX1_isFull_4 : decode cX1_isFull 4 = .ok (.iconst 2, 1) := by decide +kernel
theorem dX1_isFull_5 : decode cX1_isFull 5 = .ok (.aaload, 1) := by decide +kernel
theorem dX1_isFull_6 : decode cX1_isFull 6 = .ok (.iload_n 1, 1) := by decide +kernel
theorem dX1_isFull_7 : decode cX1_isFull 7 = .ok (.iaload, 1) := by decide +kernel
theorem dX1_isFull_8 : decode cX1_isFull 8 = .ok (.aload_n 0, 1) := by decide +kernel
theorem dX1_isFull_9 : decode cX1_isFull 9 = .ok (.getfield 13, 3) := by decide +kernel
theorem dX1_isFull_12 : decode cX1_isFull 12 = .ok (.iconst 3, 1) := by decide +kernel
theorem dX1_isFull_13 : decode cX1_isFull 13 = .ok (.aaload, 1) := by decide +kernel
theorem dX1_isFull_14 : decode cX1_isFull 14 = .ok (.iload_n 1, 1) := by decide +kernel
theorem dX1_isFull_15 : decode cX1_isFull 15 = .ok (.iaload, 1) := by decide +kernel
theorem dX1_isFull_16 : decode cX1_isFull 16 = .ok (.if_icmp .lt 7, 3) := by decide +kernel
theorem dX1_isFull_19 : decode cX1_isFull 19 = .ok (.iconst 1, 1) := by decide +kernel
theorem dX1_isFull_20 : decode cX1_isFull 20 = .ok (.goto 4, 3) := by decide +kernel
theorem dX1_isFull_23 : decode cX1_isFull 23 = .ok (.iconst 0, 1) := by decide +kernel
theorem dX1_isFull_24 : decode cX1_isFull 24 = .ok (.ireturn, 1) := by decide +kernel
theorem dX1_giveAway_0 : decode cX1_giveAway 0 = .ok (.iload_n 2, 1) := by decide +kernel
theorem dX1_giveAway_1 : decode cX1_giveAway 1 = .ok (.iconst (-1), 1) := by decide +kernel
theorem dX1_giveAway_2 : decode cX1_giveAway 2 = .ok (.if_icmp .eq 34, 3) := by decide +kernel
theorem dX1_giveAway_5 : decode cX1_giveAway 5 = .ok (.aload_n 0, 1) := by decide +kernel
theorem dX1_giveAway_6 : decode cX1_giveAway 6 = .ok (.iload_n 1, 1) := by decide +kernel
theorem dX1_giveAway_7 : decode cX1_giveAway 7 = .ok (.iload_n 2, 1) := by decide +kernel
theorem dX1_giveAway_8 : decode cX1_giveAway 8 = .ok (.invokevirtual 97, 3) := by decide +kernel
theorem dX1_giveAway_11 : decode cX1_giveAway 11 = .ok (.aload_n 0, 1) := by decide +kernel
theorem dX1_giveAway_12 : decode cX1_giveAway 12 = .ok (.getfield 39, 3) := by decide +kernel
theorem dX1_giveAway_15 : decode cX1_giveAway 15 = .ok (.iload_n 1, 1) := by decide +kernel
theorem dX1_giveAway_16 : decode cX1_giveAway 16 = .ok (.dup2, 1) := by decide +kernel
theorem dX1_giveAway_17 : decode cX1_giveAway 17 = .ok (.iaload, 1) := by decide +kernel
theorem dX1_giveAway_18 : decode cX1_giveAway 18 = .ok (.iconst 1, 1) := by decide +kernel
theorem dX1_giveAway_19 : decode cX1_giveAway 19 = .ok (.iload_n 2, 1) := by decide +kernel
theorem dX1_giveAway_20 : decode cX1_giveAway 20 = .ok (.ishl, 1) := by decide +kernel
theorem dX1_giveAway_21 : decode cX1_giveAway 21 = .ok (.ior, 1) := by decide +kernel
theorem dX1_giveAway_22 : decode cX1_giveAway 22 = .ok (.iastore, 1) := by decide +kernel
theorem dX1_giveAway_23 : decode cX1_giveAway 23 = .ok (.aload_n 0, 1) := by decide +kernel
theorem dX1_giveAway_24 : decode cX1_giveAway 24 = .ok (.getfield 13, 3) := by decide +kernel
theorem dX1_giveAway_27 : decode cX1_giveAway 27 = .ok (.bipush 7, 2) := by decide +kernel
theorem dX1_giveAway_29 : decode cX1_giveAway 29 = .ok (.aaload, 1) := by decide +kernel
theorem dX1_giveAway_30 : decode cX1_giveAway 30 = .ok (.iload_n 1, 1) := by decide +kernel
theorem dX1_giveAway_31 : decode cX1_giveAway 31 = .ok (.dup2, 1) := by decide +kernel
theorem dX1_giveAway_32 : decode cX1_giveAway 32 = .ok (.iaload, 1) := by decide +kernel
theorem dX1_giveAway_33 : decode cX1_giveAway 33 = .ok (.iconst 1, 1) := by decide +kernel
theorem dX1_giveAway_34 : decode cX1_giveAway 34 = .ok (.iadd, 1) := by decide +kernel
theorem dX1_giveAway_35 : decode cX1_giveAway 35 = .ok (.iastore, 1) := by decide +kernel
theorem dX1_giveAway_36 : decode cX1_giveAway 36 = .ok (.return_, 1) := by decide +kernel
theorem dX1_leastOn_0 : decode cX1_leastOn 0 = .ok (.iconst (-1), 1) := by decide +kernel
theorem dX1_leastOn_1 : decode cX1_leastOn 1 = .ok (.istore_n 2, 1) := by decide +kernel
theorem dX1_leastOn_2 : decode cX1_leastOn 2 = .ok (.iconst 0, 1) := by decide +kernel
theorem dX1_leastOn_3 : decode cX1_leastOn 3 = .ok (.istore_n 3, 1) := by decide +kernel
theorem dX1_leastOn_4 : decode cX1_leastOn 4 = .ok (.iconst 0, 1) := by decide +kernel
theorem dX1_leastOn_5 : decode cX1_leastOn 5 = .ok (.istore 4, 2) := by decide +kernel
theorem dX1_leastOn_7 : decode cX1_leastOn 7 = .ok (.iload 4, 2) := by decide +kernel
theorem dX1_leastOn_9 : decode cX1_leastOn 9 = .ok (.aload_n 0, 1) := by decide +kernel
theorem dX1_leastOn_10 : decode cX1_leastOn 10 = .ok (.getfield 63, 3) := by decide +kernel
theorem dX1_leastOn_13 : decode cX1_leastOn 13 = .ok (.if_icmp .ge 52, 3) := by decide +kernel
theorem dX1_leastOn_16 : decode cX1_leastOn 16 = .ok (.aload_n 0, 1) := by decide +kernel
theorem dX1_leastOn_17 : decode cX1_leastOn 17 = .ok (.iload_n 1, 1) := by decide +kernel
theorem dX1_leastOn_18 : decode cX1_leastOn 18 = .ok (.iload 4, 2) := by decide +kernel
theorem dX1_leastOn_20 : decode cX1_leastOn 20 = .ok (.invokevirtual 178, 3) := by decide +kernel
theorem dX1_leastOn_23 : decode cX1_leastOn 23 = .ok (.ifCond .eq 36, 3) := by decide +kernel
theorem dX1_leastOn_26 : decode cX1_leastOn 26 = .ok (.aload_n 0, 1) := by decide +kernel
theorem dX1_leastOn_27 : decode cX1_leastOn 27 = .ok (.iload_n 1, 1) := by decide +kernel
theorem dX1_leastOn_28 : decode cX1_leastOn 28 = .ok (.iload 4, 2) := by decide +kernel
theorem dX1_leastOn_30 : decode cX1_leastOn 30 = .ok (.invokevirtual 145, 3) := by decide +kernel
theorem dX1_leastOn_33 : decode cX1_leastOn 33 = .ok (.aload_n 0, 1) := by decide +kernel
theorem dX1_leastOn_34 : decode cX1_leastOn 34 = .ok (.getfield 46, 3) := by decide +kernel
theorem dX1_leastOn_37 : decode cX1_leastOn 37 = .ok (.invokevirtual 148, 3) := by decide +kernel
theorem dX1_leastOn_40 : decode cX1_leastOn 40 = .ok (.istore 5, 2) := by decide +kernel
theorem dX1_leastOn_42 : decode cX1_leastOn 42 = .ok (.iload_n 2, 1) := by decide +kernel
theorem dX1_leastOn_43 : decode cX1_leastOn 43 = .ok (.iconst (-1), 1) := by decide +kernel
theorem dX1_leastOn_44 : decode cX1_leastOn 44 = .ok (.if_icmp .eq 9, 3) := by decide +kernel
theorem dX1_leastOn_47 : decode cX1_leastOn 47 = .ok (.iload 5, 2) := by decide +kernel
theorem dX1_leastOn_49 : decode cX1_leastOn 49 = .ok (.iload_n 3, 1) := by decide +kernel
theorem dX1_leastOn_50 : decode cX1_leastOn 50 = .ok (.if_icmp .gt 9, 3) := by decide +kernel
theorem dX1_leastOn_53 : decode cX1_leastOn 53 = .ok (.iload 4, 2) := by decide +kernel
theorem dX1_leastOn_55 : decode cX1_leastOn 55 = .ok (.istore_n 2, 1) := by decide +kernel
theorem dX1_leastOn_56 : decode cX1_leastOn 56 = .ok (.iload 5, 2) := by decide +kernel
theorem dX1_leastOn_58 : decode cX1_leastOn 58 = .ok (.istore_n 3, 1) := by decide +kernel
theorem dX1_leastOn_59 : decode cX1_leastOn 59 = .ok (.iinc 4 1, 3) := by decide +kernel
theorem dX1_leastOn_62 : decode cX1_leastOn 62 = .ok (.goto (-55), 3) := by decide +kernel
theorem dX1_leastOn_65 : decode cX1_leastOn 65 = .ok (.iload_n 2, 1) := by decide +kernel
theorem dX1_leastOn_66 : decode cX1_leastOn 66 = .ok (.ireturn, 1) := by decide +kernel
theorem dX1_loadFacts_0 : decode cX1_loadFacts 0 = .ok (.iload_n 2, 1) := by decide +kernel
theorem dX1_loadFacts_1 : decode cX1_loadFacts 1 = .ok (.iconst (-1), 1) := by decide +kernel
theorem dX1_loadFacts_2 : decode cX1_loadFacts 2 = .ok (.if_icmp .ne 4, 3) := by decide +kernel
theorem dX1_loadFacts_5 : decode cX1_loadFacts 5 = .ok (.return_, 1) := by decide +kernel
theorem dX1_loadFacts_6 : decode cX1_loadFacts 6 = .ok (.iload_n 1, 1) := by decide +kernel
theorem dX1_loadFacts_7 : decode cX1_loadFacts 7 = .ok (.iload_n 2, 1) := by decide +kernel
theorem dX1_loadFacts_8 : decode cX1_loadFacts 8 = .ok (.invokestatic 164, 3) := by decide +kernel
theorem dX1_loadFacts_11 : decode cX1_loadFacts 11 = .ok (.istore_n 3, 1) := by decide +kernel
theorem dX1_loadFacts_12 : decode cX1_loadFacts 12 = .ok (.aload_n 0, 1) := by decide +kernel
theorem dX1_loadFacts_13 : decode cX1_loadFacts 13 = .ok (.getfield 46, 3) := by decide +kernel
theorem dX1_loadFacts_16 : decode cX1_loadFacts 16 = .ok (.iconst 1, 1) := by decide +kernel
theorem dX1_loadFacts_17 : decode cX1_loadFacts 17 = .ok (.aload_n 0, 1) := by decide +kernel
theorem dX1_loadFacts_18 : decode cX1_loadFacts 18 = .ok (.getfield 42, 3) := by decide +kernel
theorem dX1_loadFacts_21 : decode cX1_loadFacts 21 = .ok (.getfield 82, 3) := by decide +kernel
theorem dX1_loadFacts_24 : decode cX1_loadFacts 24 = .ok (.iconst 0, 1) := by decide +kernel
theorem dX1_loadFacts_25 : decode cX1_loadFacts 25 = .ok (.aaload, 1) := by decide +kernel
theorem dX1_loadFacts_26 : decode cX1_loadFacts 26 = .ok (.iload_n 2, 1) := by decide +kernel
theorem dX1_loadFacts_27 : decode cX1_loadFacts 27 = .ok (.iaload, 1) := by decide +kernel
theorem dX1_loadFacts_28 : decode cX1_loadFacts 28 = .ok (.ishl, 1) := by decide +kernel
theorem dX1_loadFacts_29 : decode cX1_loadFacts 29 = .ok (.putfield 181, 3) := by decide +kernel
theorem dX1_loadFacts_32 : decode cX1_loadFacts 32 = .ok (.aload_n 0, 1) := by decide +kernel
theorem dX1_loadFacts_33 : decode cX1_loadFacts 33 = .ok (.getfield 46, 3) := by decide +kernel
theorem dX1_loadFacts_36 : decode cX1_loadFacts 36 = .ok (.getfield 184, 3) := by decide +kernel
theorem dX1_loadFacts_39 : decode cX1_loadFacts 39 = .ok (.iconst 0, 1) := by decide +kernel
theorem dX1_loadFacts_40 : decode cX1_loadFacts 40 = .ok (.aload_n 0, 1) := by decide +kernel
theorem dX1_loadFacts_41 : decode cX1_loadFacts 41 = .ok (.getfield 56, 3) := by decide +kernel
theorem dX1_loadFacts_44 : decode cX1_loadFacts 44 = .ok (.aload_n 0, 1) := by decide +kernel
theorem dX1_loadFacts_45 : decode cX1_loadFacts 45 = .ok (.getfield 42, 3) := by decide +kernel
theorem dX1_loadFacts_48 : decode cX1_loadFacts 48 = .ok (.getfield 82, 3) := by decide +kernel
theorem dX1_loadFacts_51 : decode cX1_loadFacts 51 = .ok (.iconst 2, 1) := by decide +kernel
theorem dX1_loadFacts_52 : decode cX1_loadFacts 52 = .ok (.aaload, 1) := by decide +kernel
theorem dX1_loadFacts_53 : decode cX1_loadFacts 53 = .ok (.iload_n 2, 1) := by decide +kernel
theorem dX1_loadFacts_54 : decode cX1_loadFacts 54 = .ok (.iaload, 1) := by decide +kernel
theorem dX1_loadFacts_55 : decode cX1_loadFacts 55 = .ok (.isub, 1) := by decide +kernel
theorem dX1_loadFacts_56 : decode cX1_loadFacts 56 = .ok (.iastore, 1) := by decide +kernel
theorem dX1_loadFacts_57 : decode cX1_loadFacts 57 = .ok (.aload_n 0, 1) := by decide +kernel
theorem dX1_loadFacts_58 : decode cX1_loadFacts 58 = .ok (.getfield 46, 3) := by decide +kernel
theorem dX1_loadFacts_61 : decode cX1_loadFacts 61 = .ok (.getfield 184, 3) := by decide +kernel
theorem dX1_loadFacts_64 : decode cX1_loadFacts 64 = .ok (.iconst 1, 1) := by decide +kernel
theorem dX1_loadFacts_65 : decode cX1_loadFacts 65 = .ok (.aload_n 0, 1) := by decide +kernel
theorem dX1_loadFacts_66 : decode cX1_loadFacts 66 = .ok (.getfield 16, 3) := by decide +kernel
theorem dX1_loadFacts_69 : decode cX1_loadFacts 69 = .ok (.iconst 1, 1) := by decide +kernel
theorem dX1_loadFacts_70 : decode cX1_loadFacts 70 = .ok (.aaload, 1) := by decide +kernel
theorem dX1_loadFacts_71 : decode cX1_loadFacts 71 = .ok (.iload_n 3, 1) := by decide +kernel
theorem dX1_loadFacts_72 : decode cX1_loadFacts 72 = .ok (.iaload, 1) := by decide +kernel
theorem dX1_loadFacts_73 : decode cX1_loadFacts 73 = .ok (.iastore, 1) := by decide +kernel
theorem dX1_loadFacts_74 : decode cX1_loadFacts 74 = .ok (.aload_n 0, 1) := by decide +kernel
theorem dX1_loadFacts_75 : decode cX1_loadFacts 75 = .ok (.getfield 46, 3) := by decide +kernel
theorem dX1_loadFacts_78 : decode cX1_loadFacts 78 = .ok (.getfield 184, 3) := by decide +kernel
theorem dX1_loadFacts_81 : decode cX1_loadFacts 81 = .ok (.iconst 2, 1) := by decide +kernel
theorem dX1_loadFacts_82 : decode cX1_loadFacts 82 = .ok (.aload_n 0, 1) := by decide +kernel
theorem dX1_loadFacts_83 : decode cX1_loadFacts 83 = .ok (.getfield 27, 3) := by decide +kernel
theorem dX1_loadFacts_86 : decode cX1_loadFacts 86 = .ok (.iload_n 2, 1) := by decide +kernel
theorem dX1_loadFacts_87 : decode cX1_loadFacts 87 = .ok (.iaload, 1) := by decide +kernel
theorem dX1_loadFacts_88 : decode cX1_loadFacts 88 = .ok (.iastore, 1) := by decide +kernel
theorem dX1_loadFacts_89 : decode cX1_loadFacts 89 = .ok (.aload_n 0, 1) := by decide +kernel
theorem dX1_loadFacts_90 : decode cX1_loadFacts 90 = .ok (.getfield 46, 3) := by decide +kernel
theorem dX1_loadFacts_93 : decode cX1_loadFacts 93 = .ok (.getfield 184, 3) := by decide +kernel
theorem dX1_loadFacts_96 : decode cX1_loadFacts 96 = .ok (.iconst 3, 1) := by decide +kernel
theorem dX1_loadFacts_97 : decode cX1_loadFacts 97 = .ok (.aload_n 0, 1) := by decide +kernel
theorem dX1_loadFacts_98 : decode cX1_loadFacts 98 = .ok (.getfield 13, 3) := by decide +kernel
theorem dX1_loadFacts_101 : decode cX1_loadFacts 101 = .ok (.iconst 1, 1) := by decide +kernel
theorem dX1_loadFacts_102 : decode cX1_loadFacts 102 = .ok (.aaload, 1) := by decide +kernel
theorem dX1_loadFacts_103 : decode cX1_loadFacts 103 = .ok (.iload_n 1, 1) := by decide +kernel
theorem dX1_loadFacts_104 : decode cX1_loadFacts 104 = .ok (.iaload, 1) := by decide +kernel
theorem dX1_loadFacts_105 : decode cX1_loadFacts 105 = .ok (.iastore, 1) := by decide +kernel
theorem dX1_loadFacts_106 : decode cX1_loadFacts 106 = .ok (.aload_n 0, 1) := by decide +kernel
theorem dX1_loadFacts_107 : decode cX1_loadFacts 107 = .ok (.getfield 46, 3) := by decide +kernel
theorem dX1_loadFacts_110 : decode cX1_loadFacts 110 = .ok (.getfield 184, 3) := by decide +kernel
theorem dX1_loadFacts_113 : decode cX1_loadFacts 113 = .ok (.iconst 4, 1) := by decide +kernel
theorem dX1_loadFacts_114 : decode cX1_loadFacts 114 = .ok (.aload_n 0, 1) := by decide +kernel
theorem dX1_loadFacts_115 : decode cX1_loadFacts 115 = .ok (.getfield 16, 3) := by decide +kernel
theorem dX1_loadFacts_118 : decode cX1_loadFacts 118 = .ok (.iconst 0, 1) := by decide +kernel
theorem dX1_loadFacts_119 : decode cX1_loadFacts 119 = .ok (.aaload, 1) := by decide +kernel
theorem dX1_loadFacts_120 : decode cX1_loadFacts 120 = .ok (.iload_n 3, 1) := by decide +kernel
theorem dX1_loadFacts_121 : decode cX1_loadFacts 121 = .ok (.iaload, 1) := by decide +kernel
theorem dX1_loadFacts_122 : decode cX1_loadFacts 122 = .ok (.iastore, 1) := by decide +kernel
theorem dX1_loadFacts_123 : decode cX1_loadFacts 123 = .ok (.return_, 1) := by decide +kernel
theorem dX1_lose_0 : decode cX1_lose 0 = .ok (.iload_n 2, 1) := by decide +kernel
theorem dX1_lose_1 : decode cX1_lose 1 = .ok (.iconst (-1), 1) := by decide +kernel
theorem dX1_lose_2 : decode cX1_lose 2 = .ok (.if_icmp .eq 48, 3) := by decide +kernel
theorem dX1_lose_5 : decode cX1_lose 5 = .ok (.aload_n 0, 1) := by decide +kernel
theorem dX1_lose_6 : decode cX1_lose 6 = .ok (.iload_n 1, 1) := by decide +kernel
theorem dX1_lose_7 : decode cX1_lose 7 = .ok (.iload_n 2, 1) := by decide +kernel
theorem dX1_lose_8 : decode cX1_lose 8 = .ok (.invokevirtual 178, 3) := by decide +kernel
theorem dX1_lose_11 : decode cX1_lose 11 = .ok (.ifCond .eq 39, 3) := by decide +kernel
theorem dX1_lose_14 : decode cX1_lose 14 = .ok (.aload_n 0, 1) := by decide +kernel
theorem dX1_lose_15 : decode cX1_lose 15 = .ok (.getfield 23, 3) := by decide +kernel
theorem dX1_lose_18 : decode cX1_lose 18 = .ok (.iload_n 1, 1) := by decide +kernel
theorem dX1_lose_19 : decode cX1_lose 19 = .ok (.dup2, 1) := by decide +kernel
theorem dX1_lose_20 : decode cX1_lose 20 = .ok (.iaload, 1) := by decide +kernel
theorem dX1_lose_21 : decode cX1_lose 21 = .ok (.iconst 1, 1) := by decide +kernel
theorem dX1_lose_22 : decode cX1_lose 22 = .ok (.iload_n 2, 1) := by decide +kernel
theorem dX1_lose_23 : decode cX1_lose 23 = .ok (.ishl, 1) := by decide +kernel
theorem dX1_lose_24 : decode cX1_lose 24 = .ok (.iconst (-1), 1) := by decide +kernel
theorem dX1_lose_25 : decode cX1_lose 25 = .ok (.ixor, 1) := by decide +kernel
theorem dX1_lose_26 : decode cX1_lose 26 = .ok (.iand, 1) := by decide +kernel
theorem dX1_lose_27 : decode cX1_lose 27 = .ok (.iastore, 1) := by decide +kernel
theorem dX1_lose_28 : decode cX1_lose 28 = .ok (.aload_n 0, 1) := by decide +kernel
theorem dX1_lose_29 : decode cX1_lose 29 = .ok (.getfield 13, 3) := by decide +kernel
theorem dX1_lose_32 : decode cX1_lose 32 = .ok (.iconst 2, 1) := by decide +kernel
theorem dX1_lose_33 : decode cX1_lose 33 = .ok (.aaload, 1) := by decide +kernel
theorem dX1_lose_34 : decode cX1_lose 34 = .ok (.iload_n 1, 1) := by decide +kernel
theorem dX1_lose_35 : decode cX1_lose 35 = .ok (.dup2, 1) := by decide +kernel
theorem dX1_lose_36 : decode cX1_lose 36 = .ok (.iaload, 1) := by decide +kernel
theorem dX1_lose_37 : decode cX1_lose 37 = .ok (.iconst 1, 1) := by decide +kernel
theorem dX1_lose_38 : decode cX1_lose 38 = .ok (.isub, 1) := by decide +kernel
theorem dX1_lose_39 : decode cX1_lose 39 = .ok (.iastore, 1) := by decide +kernel
theorem dX1_lose_40 : decode cX1_lose 40 = .ok (.aload_n 0, 1) := by decide +kernel
theorem dX1_lose_41 : decode cX1_lose 41 = .ok (.getfield 27, 3) := by decide +kernel
theorem dX1_lose_44 : decode cX1_lose 44 = .ok (.iload_n 2, 1) := by decide +kernel
theorem dX1_lose_45 : decode cX1_lose 45 = .ok (.dup2, 1) := by decide +kernel
theorem dX1_lose_46 : decode cX1_lose 46 = .ok (.iaload, 1) := by decide +kernel
theorem dX1_lose_47 : decode cX1_lose 47 = .ok (.iconst 1, 1) := by decide +kernel
theorem dX1_lose_48 : decode cX1_lose 48 = .ok (.isub, 1) := by decide +kernel
theorem dX1_lose_49 : decode cX1_lose 49 = .ok (.iastore, 1) := by decide +kernel
theorem dX1_lose_50 : decode cX1_lose 50 = .ok (.return_, 1) := by decide +kernel
theorem dX1_put_0 : decode cX1_put 0 = .ok (.iload_n 1, 1) := by decide +kernel
theorem dX1_put_1 : decode cX1_put 1 = .ok (.iload_n 2, 1) := by decide +kernel
theorem dX1_put_2 : decode cX1_put 2 = .ok (.invokestatic 164, 3) := by decide +kernel
theorem dX1_put_5 : decode cX1_put 5 = .ok (.istore 5, 2) := by decide +kernel
theorem dX1_put_7 : decode cX1_put 7 = .ok (.iconst 0, 1) := by decide +kernel
theorem dX1_put_8 : decode cX1_put 8 = .ok (.istore 6, 2) := by decide +kernel
theorem dX1_put_10 : decode cX1_put 10 = .ok (.aload_n 0, 1) := by decide +kernel
theorem dX1_put_11 : decode cX1_put 11 = .ok (.getfield 19, 3) := by decide +kernel
theorem dX1_put_14 : decode cX1_put 14 = .ok (.iload 5, 2) := by decide +kernel
theorem dX1_put_16 : decode cX1_put 16 = .ok (.lconst 0, 1) := by decide +kernel
theorem dX1_put_17 : decode cX1_put 17 = .ok (.lastore, 1) := by decide +kernel
theorem dX1_put_18 : decode cX1_put 18 = .ok (.iload 4, 2) := by decide +kernel
theorem dX1_put_20 : decode cX1_put 20 = .ok (.iconst (-1), 1) := by decide +kernel
theorem dX1_put_21 : decode cX1_put 21 = .ok (.if_icmp .eq 48, 3) := by decide +kernel
theorem dX1_put_24 : decode cX1_put 24 = .ok (.aload_n 0, 1) := by decide +kernel
theorem dX1_put_25 : decode cX1_put 25 = .ok (.getfield 16, 3) := by decide +kernel
theorem dX1_put_28 : decode cX1_put 28 = .ok (.iconst 1, 1) := by decide +kernel
theorem dX1_put_29 : decode cX1_put 29 = .ok (.aaload, 1) := by decide +kernel
theorem dX1_put_30 : decode cX1_put 30 = .ok (.iload 4, 2) := by decide +kernel
theorem dX1_put_32 : decode cX1_put 32 = .ok (.iload_n 2, 1) := by decide +kernel
theorem dX1_put_33 : decode cX1_put 33 = .ok (.invokestatic 164, 3) := by decide +kernel
theorem dX1_put_36 : decode cX1_put 36 = .ok (.iaload, 1) := by decide +kernel
theorem dX1_put_37 : decode cX1_put 37 = .ok (.istore 6, 2) := by decide +kernel
theorem dX1_put_39 : decode cX1_put 39 = .ok (.aload_n 0, 1) := by decide +kernel
theorem dX1_put_40 : decode cX1_put 40 = .ok (.getfield 19, 3) := by decide +kernel
theorem dX1_put_43 : decode cX1_put 43 = .ok (.iload 5, 2) := by decide +kernel
theorem dX1_put_45 : decode cX1_put 45 = .ok (.aload_n 0, 1) := by decide +kernel
theorem dX1_put_46 : decode cX1_put 46 = .ok (.getfield 19, 3) := by decide +kernel
theorem dX1_put_49 : decode cX1_put 49 = .ok (.iload 4, 2) := by decide +kernel
theorem dX1_put_51 : decode cX1_put 51 = .ok (.iload_n 2, 1) := by decide +kernel
theorem dX1_put_52 : decode cX1_put 52 = .ok (.invokestatic 164, 3) := by decide +kernel
theorem dX1_put_55 : decode cX1_put 55 = .ok (.laload, 1) := by decide +kernel
theorem dX1_put_56 : decode cX1_put 56 = .ok (.iload 4, 2) := by decide +kernel
theorem dX1_put_58 : decode cX1_put 58 = .ok (.i2l, 1) := by decide +kernel
theorem dX1_put_59 : decode cX1_put 59 = .ok (.iconst 4, 1) := by decide +kernel
theorem dX1_put_60 : decode cX1_put 60 = .ok (.iload 6, 2) := by decide +kernel
theorem dX1_put_62 : decode cX1_put 62 = .ok (.imul, 1) := by decide +kernel
theorem dX1_put_63 : decode cX1_put 63 = .ok (.lshl, 1) := by decide +kernel
theorem dX1_put_64 : decode cX1_put 64 = .ok (.lor, 1) := by decide +kernel
theorem dX1_put_65 : decode cX1_put 65 = .ok (.lastore, 1) := by decide +kernel
theorem dX1_put_66 : decode cX1_put 66 = .ok (.iinc 6 1, 3) := by decide +kernel
theorem dX1_put_69 : decode cX1_put 69 = .ok (.aload_n 0, 1) := by decide +kernel
theorem dX1_put_70 : decode cX1_put 70 = .ok (.getfield 16, 3) := by decide +kernel
theorem dX1_put_73 : decode cX1_put 73 = .ok (.iconst 0, 1) := by decide +kernel
theorem dX1_put_74 : decode cX1_put 74 = .ok (.aaload, 1) := by decide +kernel
theorem dX1_put_75 : decode cX1_put 75 = .ok (.iload 5, 2) := by decide +kernel
theorem dX1_put_77 : decode cX1_put 77 = .ok (.iload_n 3, 1) := by decide +kernel
theorem dX1_put_78 : decode cX1_put 78 = .ok (.iastore, 1) := by decide +kernel
theorem dX1_put_79 : decode cX1_put 79 = .ok (.aload_n 0, 1) := by decide +kernel
theorem dX1_put_80 : decode cX1_put 80 = .ok (.getfield 16, 3) := by decide +kernel
theorem dX1_put_83 : decode cX1_put 83 = .ok (.iconst 1, 1) := by decide +kernel
theorem dX1_put_84 : decode cX1_put 84 = .ok (.aaload, 1) := by decide +kernel
theorem dX1_put_85 : decode cX1_put 85 = .ok (.iload 5, 2) := by decide +kernel
theorem dX1_put_87 : decode cX1_put 87 = .ok (.iload 6, 2) := by decide +kernel
theorem dX1_put_89 : decode cX1_put 89 = .ok (.iastore, 1) := by decide +kernel
theorem dX1_put_90 : decode cX1_put 90 = .ok (.aload_n 0, 1) := by decide +kernel
theorem dX1_put_91 : decode cX1_put 91 = .ok (.getfield 16, 3) := by decide +kernel
theorem dX1_put_94 : decode cX1_put 94 = .ok (.iconst 2, 1) := by decide +kernel
theorem dX1_put_95 : decode cX1_put 95 = .ok (.aaload, 1) := by decide +kernel
theorem dX1_put_96 : decode cX1_put 96 = .ok (.iload 5, 2) := by decide +kernel
theorem dX1_put_98 : decode cX1_put 98 = .ok (.iload 4, 2) := by decide +kernel
theorem dX1_put_100 : decode cX1_put 100 = .ok (.iastore, 1) := by decide +kernel
theorem dX1_put_101 : decode cX1_put 101 = .ok (.aload_n 0, 1) := by decide +kernel
theorem dX1_put_102 : decode cX1_put 102 = .ok (.getfield 16, 3) := by decide +kernel
theorem dX1_put_105 : decode cX1_put 105 = .ok (.iconst 3, 1) := by decide +kernel
theorem dX1_put_106 : decode cX1_put 106 = .ok (.aaload, 1) := by decide +kernel
theorem dX1_put_107 : decode cX1_put 107 = .ok (.iload 5, 2) := by decide +kernel
theorem dX1_put_109 : decode cX1_put 109 = .ok (.aload_n 0, 1) := by decide +kernel
theorem dX1_put_110 : decode cX1_put 110 = .ok (.getfield 56, 3) := by decide +kernel
theorem dX1_put_113 : decode cX1_put 113 = .ok (.iastore, 1) := by decide +kernel
theorem dX1_put_114 : decode cX1_put 114 = .ok (.aload_n 0, 1) := by decide +kernel
theorem dX1_put_115 : decode cX1_put 115 = .ok (.getfield 23, 3) := by decide +kernel
theorem dX1_put_118 : decode cX1_put 118 = .ok (.iload_n 1, 1) := by decide +kernel
theorem dX1_put_119 : decode cX1_put 119 = .ok (.dup2, 1) := by decide +kernel
theorem dX1_put_120 : decode cX1_put 120 = .ok (.iaload, 1) := by decide +kernel
theorem dX1_put_121 : decode cX1_put 121 = .ok (.iconst 1, 1) := by decide +kernel
theorem dX1_put_122 : decode cX1_put 122 = .ok (.iload_n 2, 1) := by decide +kernel
theorem dX1_put_123 : decode cX1_put 123 = .ok (.ishl, 1) := by decide +kernel
theorem dX1_put_124 : decode cX1_put 124 = .ok (.ior, 1) := by decide +kernel
theorem dX1_put_125 : decode cX1_put 125 = .ok (.iastore, 1) := by decide +kernel
theorem dX1_put_126 : decode cX1_put 126 = .ok (.aload_n 0, 1) := by decide +kernel
theorem dX1_put_127 : decode cX1_put 127 = .ok (.getfield 13, 3) := by decide +kernel
theorem dX1_put_130 : decode cX1_put 130 = .ok (.iconst 2, 1) := by decide +kernel
theorem dX1_put_131 : decode cX1_put 131 = .ok (.aaload, 1) := by decide +kernel
theorem dX1_put_132 : decode cX1_put 132 = .ok (.iload_n 1, 1) := by decide +kernel
theorem dX1_put_133 : decode cX1_put 133 = .ok (.dup2, 1) := by decide +kernel
theorem dX1_put_134 : decode cX1_put 134 = .ok (.iaload, 1) := by decide +kernel
theorem dX1_put_135 : decode cX1_put 135 = .ok (.iconst 1, 1) := by decide +kernel
theorem dX1_put_136 : decode cX1_put 136 = .ok (.iadd, 1) := by decide +kernel
theorem dX1_put_137 : decode cX1_put 137 = .ok (.iastore, 1) := by decide +kernel
theorem dX1_put_138 : decode cX1_put 138 = .ok (.aload_n 0, 1) := by decide +kernel
theorem dX1_put_139 : decode cX1_put 139 = .ok (.getfield 27, 3) := by decide +kernel
theorem dX1_put_142 : decode cX1_put 142 = .ok (.iload_n 2, 1) := by decide +kernel
theorem dX1_put_143 : decode cX1_put 143 = .ok (.dup2, 1) := by decide +kernel
theorem dX1_put_144 : decode cX1_put 144 = .ok (.iaload, 1) := by decide +kernel
theorem dX1_put_145 : decode cX1_put 145 = .ok (.iconst 1, 1) := by decide +kernel
theorem dX1_put_146 : decode cX1_put 146 = .ok (.iadd, 1) := by decide +kernel
theorem dX1_put_147 : decode cX1_put 147 = .ok (.iastore, 1) := by decide +kernel
theorem dX1_put_148 : decode cX1_put 148 = .ok (.iload_n 1, 1) := by decide +kernel
theorem dX1_put_149 : decode cX1_put 149 = .ok (.ifCond .ne 44, 3) := by decide +kernel
theorem dX1_put_152 : decode cX1_put 152 = .ok (.aload_n 0, 1) := by decide +kernel
theorem dX1_put_153 : decode cX1_put 153 = .ok (.getfield 30, 3) := by decide +kernel
theorem dX1_put_156 : decode cX1_put 156 = .ok (.iload_n 2, 1) := by decide +kernel
theorem dX1_put_157 : decode cX1_put 157 = .ok (.iaload, 1) := by decide +kernel
theorem dX1_put_158 : decode cX1_put 158 = .ok (.iconst (-1), 1) := by decide +kernel
theorem dX1_put_159 : decode cX1_put 159 = .ok (.if_icmp .ne 34, 3) := by decide +kernel
theorem dX1_put_162 : decode cX1_put 162 = .ok (.aload_n 0, 1) := by decide +kernel
theorem dX1_put_163 : decode cX1_put 163 = .ok (.getfield 30, 3) := by decide +kernel
theorem dX1_put_166 : decode cX1_put 166 = .ok (.iload_n 2, 1) := by decide +kernel
theorem dX1_put_167 : decode cX1_put 167 = .ok (.aload_n 0, 1) := by decide +kernel
theorem dX1_put_168 : decode cX1_put 168 = .ok (.getfield 56, 3) := by decide +kernel
theorem dX1_put_171 : decode cX1_put 171 = .ok (.iastore, 1) := by decide +kernel
theorem dX1_put_172 : decode cX1_put 172 = .ok (.aload_n 0, 1) := by decide +kernel
theorem dX1_put_173 : decode cX1_put 173 = .ok (.getfield 33, 3) := by decide +kernel
theorem dX1_put_176 : decode cX1_put 176 = .ok (.iload_n 2, 1) := by decide +kernel
theorem dX1_put_177 : decode cX1_put 177 = .ok (.iload 6, 2) := by decide +kernel
theorem dX1_put_179 : decode cX1_put 179 = .ok (.iastore, 1) := by decide +kernel
theorem dX1_put_180 : decode cX1_put 180 = .ok (.aload_n 0, 1) := by decide +kernel
theorem dX1_put_181 : decode cX1_put 181 = .ok (.getfield 36, 3) := by decide +kernel
theorem dX1_put_184 : decode cX1_put 184 = .ok (.iload_n 2, 1) := by decide +kernel
theorem dX1_put_185 : decode cX1_put 185 = .ok (.aload_n 0, 1) := by decide +kernel
theorem dX1_put_186 : decode cX1_put 186 = .ok (.getfield 19, 3) := by decide +kernel
theorem dX1_put_189 : decode cX1_put 189 = .ok (.iload 5, 2) := by decide +kernel
theorem dX1_put_191 : decode cX1_put 191 = .ok (.laload, 1) := by decide +kernel
theorem dX1_put_192 : decode cX1_put 192 = .ok (.lastore, 1) := by decide +kernel
theorem dX1_put_193 : decode cX1_put 193 = .ok (.return_, 1) := by decide +kernel
theorem dX2_init_0 : decode cX2_init 0 = .ok (.aload_n 0, 1) := by decide +kernel
theorem dX2_init_1 : decode cX2_init 1 = .ok (.invokespecial 3, 3) := by decide +kernel
theorem dX2_init_4 : decode cX2_init 4 = .ok (.aload_n 0, 1) := by decide +kernel
theorem dX2_init_5 : decode cX2_init 5 = .ok (.bipush 7, 2) := by decide +kernel
theorem dX2_init_7 : decode cX2_init 7 = .ok (.newarray .int, 2) := by decide +kernel
theorem dX2_init_9 : decode cX2_init 9 = .ok (.putfield 11, 3) := by decide +kernel
theorem dX2_init_12 : decode cX2_init 12 = .ok (.aload_n 0, 1) := by decide +kernel
theorem dX2_init_13 : decode cX2_init 13 = .ok (.bipush 7, 2) := by decide +kernel
theorem dX2_init_15 : decode cX2_init 15 = .ok (.newarray .int, 2) := by decide +kernel
theorem dX2_init_17 : decode cX2_init 17 = .ok (.putfield 15, 3) := by decide +kernel
theorem dX2_init_20 : decode cX2_init 20 = .ok (.aload_n 0, 1) := by decide +kernel
theorem dX2_init_21 : decode cX2_init 21 = .ok (.bipush 7, 2) := by decide +kernel
theorem dX2_init_23 : decode cX2_init 23 = .ok (.newarray .int, 2) := by decide +kernel
theorem dX2_init_25 : decode cX2_init 25 = .ok (.putfield 18, 3) := by decide +kernel
theorem dX2_init_28 : decode cX2_init 28 = .ok (.aload_n 0, 1) := by decide +kernel
theorem dX2_init_29 : decode cX2_init 29 = .ok (.bipush 7, 2) := by decide +kernel
theorem dX2_init_31 : decode cX2_init 31 = .ok (.newarray .int, 2) := by decide +kernel
theorem dX2_init_33 : decode cX2_init 33 = .ok (.putfield 21, 3) := by decide +kernel
theorem dX2_init_36 : decode cX2_init 36 = .ok (.aload_n 0, 1) := by decide +kernel
theorem dX2_init_37 : decode cX2_init 37 = .ok (.bipush 7, 2) := by decide +kernel
theorem dX2_init_39 : decode cX2_init 39 = .ok (.newarray .int, 2) := by decide +kernel
theorem dX2_init_41 : decode cX2_init 41 = .ok (.putfield 24, 3) := by decide +kernel
theorem dX2_init_44 : decode cX2_init 44 = .ok (.aload_n 0, 1) := by decide +kernel
theorem dX2_init_45 : decode cX2_init 45 = .ok (.bipush 10, 2) := by decide +kernel
theorem dX2_init_47 : decode cX2_init 47 = .ok (.putfield 27, 3) := by decide +kernel
theorem dX2_init_50 : decode cX2_init 50 = .ok (.return_, 1) := by decide +kernel
theorem dX2_become_0 : decode cX2_become 0 = .ok (.aload_n 1, 1) := by decide +kernel
theorem dX2_become_1 : decode cX2_become 1 = .ok (.getfield 11, 3) := by decide +kernel
theorem dX2_become_4 : decode cX2_become 4 = .ok (.aload_n 0, 1) := by decide +kernel
theorem dX2_become_5 : decode cX2_become 5 = .ok (.getfield 11, 3) := by decide +kernel
theorem dX2_become_8 : decode cX2_become 8 = .ok (.invokestatic 31, 3) := by decide +kernel
theorem dX2_become_11 : decode cX2_become 11 = .ok (.aload_n 1, 1) := by decide +kernel
theorem dX2_become_12 : decode cX2_become 12 = .ok (.getfield 15, 3) := by decide +kernel
theorem dX2_become_15 : decode cX2_become 15 = .ok (.aload_n 0, 1) := by decide +kernel
theorem dX2_become_16 : decode cX2_become 16 = .ok (.getfield 15, 3) := by decide +kernel
theorem dX2_become_19 : decode cX2_become 19 = .ok (.invokestatic 31, 3) := by decide +kernel
theorem dX2_become_22 : decode cX2_become 22 = .ok (.aload_n 1, 1) := by decide +kernel
theorem dX2_become_23 : decode cX2_become 23 = .ok (.getfield 18, 3) := by decide +kernel
theorem dX2_become_26 : decode cX2_become 26 = .ok (.aload_n 0, 1) := by decide +kernel
theorem dX2_become_27 : decode cX2_become 27 = .ok (.getfield 18, 3) := by decide +kernel
theorem dX2_become_30 : decode cX2_become 30 = .ok (.invokestatic 31, 3) := by decide +kernel
theorem dX2_become_33 : decode cX2_become 33 = .ok (.aload_n 0, 1) := by decide +kernel
theorem dX2_become_34 : decode cX2_become 34 = .ok (.aload_n 1, 1) := by decide +kernel
theorem dX2_become_35 : decode cX2_become 35 = .ok (.getfield 35, 3) := by decide +kernel
theorem dX2_become_38 : decode cX2_become 38 = .ok (.putfield 35, 3) := by decide +kernel
theorem dX2_become_41 : decode cX2_become 41 = .ok (.aload_n 0, 1) := by decide +kernel
theorem dX2_become_42 : decode cX2_become 42 = .ok (.aload_n 1, 1) := by decide +kernel
theorem dX2_become_43 : decode cX2_become 43 = .ok (.getfield 27, 3) := by decide +kernel
theorem dX2_become_46 : decode cX2_become 46 = .ok (.putfield 27, 3) := by decide +kernel
theorem dX2_become_49 : decode cX2_become 49 = .ok (.return_, 1) := by decide +kernel
theorem dX2_add_0 : decode cX2_add 0 = .ok (.aload_n 0, 1) := by decide +kernel
theorem dX2_add_1 : decode cX2_add 1 = .ok (.getfield 35, 3) := by decide +kernel
theorem dX2_add_4 : decode cX2_add 4 = .ok (.istore 4, 2) := by decide +kernel
theorem dX2_add_6 : decode cX2_add 6 = .ok (.iload 4, 2) := by decide +kernel
theorem dX2_add_8 : decode cX2_add 8 = .ok (.bipush 7, 2) := by decide +kernel
theorem dX2_add_10 : decode cX2_add 10 = .ok (.if_icmp .lt 5, 3) := by decide +kernel
theorem dX2_add_13 : decode cX2_add 13 = .ok (.iconst (-1), 1) := by decide +kernel
theorem dX2_add_14 : decode cX2_add 14 = .ok (.ireturn, 1) := by decide +kernel
theorem dX2_add_15 : decode cX2_add 15 = .ok (.aload_n 0, 1) := by decide +kernel
theorem dX2_add_16 : decode cX2_add 16 = .ok (.getfield 11, 3) := by decide +kernel
theorem dX2_add_19 : decode cX2_add 19 = .ok (.iload 4, 2) := by decide +kernel
theorem dX2_add_21 : decode cX2_add 21 = .ok (.iload_n 1, 1) := by decide +kernel
theorem dX2_add_22 : decode cX2_add 22 = .ok (.iastore, 1) := by decide +kernel
theorem dX2_add_23 : decode cX2_add 23 = .ok (.aload_n 0, 1) := by decide +kernel
theorem dX2_add_24 : decode cX2_add 24 = .ok (.getfield 15, 3) := by decide +kernel
theorem dX2_add_27 : decode cX2_add 27 = .ok (.iload 4, 2) := by decide +kernel
theorem dX2_add_29 : decode cX2_add 29 = .ok (.iload_n 2, 1) := by decide +kernel
theorem dX2_add_30 : decode cX2_add 30 = .ok (.iastore, 1) := by decide +kernel
theorem dX2_add_31 : decode cX2_add 31 = .ok (.aload_n 0, 1) := by decide +kernel
theorem dX2_add_32 : decode cX2_add 32 = .ok (.getfield 18, 3) := by decide +kernel
theorem dX2_add_35 : decode cX2_add 35 = .ok (.iload 4, 2) := by decide +kernel
theorem dX2_add_37 : decode cX2_add 37 = .ok (.iload_n 3, 1) := by decide +kernel
theorem dX2_add_38 : decode cX2_add 38 = .ok (.iastore, 1) := by decide +kernel
theorem dX2_add_39 : decode cX2_add 39 = .ok (.aload_n 0, 1) := by decide +kernel
theorem dX2_add_40 : decode cX2_add 40 = .ok (.dup, 1) := by decide +kernel
theorem dX2_add_41 : decode cX2_add 41 = .ok (.getfield 35, 3) := by decide +kernel
theorem dX2_add_44 : decode cX2_add 44 = .ok (.iconst 1, 1) := by decide +kernel
theorem dX2_add_45 : decode cX2_add 45 = .ok (.iadd, 1) := by decide +kernel
theorem dX2_add_46 : decode cX2_add 46 = .ok (.putfield 35, 3) := by decide +kernel
theorem dX2_add_49 : decode cX2_add 49 = .ok (.iload 4, 2) := by decide +kernel
theorem dX2_add_51 : decode cX2_add 51 = .ok (.ireturn, 1) := by decide +kernel
theorem dX2_findBest_0 : decode cX2_findBest 0 = .ok (.aload_n 0, 1) := by decide +kernel
theorem dX2_findBest_1 : decode cX2_findBest 1 = .ok (.sipush 10000, 3) := by decide +kernel
theorem dX2_findBest_4 : decode cX2_findBest 4 = .ok (.putfield 38, 3) := by decide +kernel
theorem dX2_findBest_7 : decode cX2_findBest 7 = .ok (.aload_n 0, 1) := by decide +kernel
theorem dX2_findBest_8 : decode cX2_findBest 8 = .ok (.iconst 0, 1) := by decide +kernel
theorem dX2_findBest_9 : decode cX2_findBest 9 = .ok (.iconst 0, 1) := by decide +kernel
theorem dX2_findBest_10 : decode cX2_findBest 10 = .ok (.iconst 0, 1) := by decide +kernel
theorem dX2_findBest_11 : decode cX2_findBest 11 = .ok (.invokevirtual 41, 3) := by decide +kernel
theorem dX2_findBest_14 : decode cX2_findBest 14 = .ok (.return_, 1) := by decide +kernel
theorem dX2_part_0 : decode cX2_part 0 = .ok (.iload_n 3, 1) := by decide +kernel
theorem dX2_part_1 : decode cX2_part 1 = .ok (.aload_n 0, 1) := by decide +kernel
theorem dX2_part_2 : decode cX2_part 2 = .ok (.getfield 38, 3) := by decide +kernel
theorem dX2_part_5 : decode cX2_part 5 = .ok (.if_icmp .le 4, 3) := by decide +kernel
theorem dX2_part_8 : decode cX2_part 8 = .ok (.return_, 1) := by decide +kernel
theorem dX2_part_9 : decode cX2_part 9 = .ok (.iload_n 1, 1) := by decide +kernel
theorem dX2_part_10 : decode cX2_part 10 = .ok (.aload_n 0, 1) := by decide +kernel
theorem dX2_part_11 : decode cX2_part 11 = .ok (.getfield 35, 3) := by decide +kernel
theorem dX2_part_14 : decode cX2_part 14 = .ok (.if_icmp .ge 9, 3) := by decide +kernel
theorem dX2_part_17 : decode cX2_part 17 = .ok (.iload_n 1, 1) := by decide +kernel
theorem dX2_part_18 : decode cX2_part 18 = .ok (.bipush 7, 2) := by decide +kernel
theorem dX2_part_20 : decode cX2_part 20 = .ok (.if_icmp .lt 10, 3) := by decide +kernel
theorem dX2_part_23 : decode cX2_part 23 = .ok (.aload_n 0, 1) := by decide +kernel
theorem dX2_part_24 : decode cX2_part 24 = .ok (.iload_n 2, 1) := by decide +kernel
theorem dX2_part_25 : decode cX2_part 25 = .ok (.iload_n 3, 1) := by decide +kernel
theorem dX2_part_26 : decode cX2_part 26 = .ok (.invokevirtual 45, 3) := by decide +kernel
theorem dX2_part_29 : decode cX2_part 29 = .ok (.return_, 1) := by decide +kernel
theorem dX2_part_30 : decode cX2_part 30 = .ok (.iconst 0, 1) := by decide +kernel
theorem dX2_part_31 : decode cX2_part 31 = .ok (.istore 4, 2) := by decide +kernel
theorem dX2_part_33 : decode cX2_part 33 = .ok (.iload 4, 2) := by decide +kernel
theorem dX2_part_35 : decode cX2_part 35 = .ok (.iload_n 2, 1) := by decide +kernel
theorem dX2_part_36 : decode cX2_part 36 = .ok (.if_icmp .ge 34, 3) := by decide +kernel
theorem dX2_part_39 : decode cX2_part 39 = .ok (.aload_n 0, 1) := by decide +kernel
theorem dX2_part_40 : decode cX2_part 40 = .ok (.getfield 21, 3) := by decide +kernel
theorem dX2_part_43 : decode cX2_part 43 = .ok (.iload_n 1, 1) := by decide +kernel
theorem dX2_part_44 : decode cX2_part 44 = .ok (.iload 4, 2) := by decide +kernel
theorem dX2_part_46 : decode cX2_part 46 = .ok (.iastore, 1) := by decide +kernel
theorem dX2_part_47 : decode cX2_part 47 = .ok (.aload_n 0, 1) := by decide +kernel
theorem dX2_part_48 : decode cX2_part 48 = .ok (.iload_n 1, 1) := by decide +kernel
theorem dX2_part_49 : decode cX2_part 49 = .ok (.iconst 1, 1) := by decide +kernel
theorem dX2_part_50 : decode cX2_part 50 = .ok (.iadd, 1) := by decide +kernel
theorem dX2_part_51 : decode cX2_part 51 = .ok (.iload_n 2, 1) := by decide +kernel
theorem dX2_part_52 : decode cX2_part 52 = .ok (.iload_n 3, 1) := by decide +kernel
theorem dX2_part_53 : decode cX2_part 53 = .ok (.aload_n 0, 1) := by decide +kernel
theorem dX2_part_54 : decode cX2_part 54 = .ok (.iload_n 1, 1) := by decide +kernel
theorem dX2_part_55 : decode cX2_part 55 = .ok (.iload 4, 2) := by decide +kernel
theorem dX2_part_57 : decode cX2_part 57 = .ok (.invokevirtual 49, 3) := by decide +kernel
theorem dX2_part_60 : decode cX2_part 60 = .ok (.iadd, 1) := by decide +kernel
theorem dX2_part_61 : decode cX2_part 61 = .ok (.invokevirtual 41, 3) := by decide +kernel
theorem dX2_part_64 : decode cX2_part 64 = .ok (.iinc 4 1, 3) := by decide +kernel
theorem dX2_part_67 : decode cX2_part 67 = .ok (.goto (-34), 3) := by decide +kernel
theorem dX2_part_70 : decode cX2_part 70 = .ok (.aload_n 0, 1) := by decide +kernel
theorem dX2_part_71 : decode cX2_part 71 = .ok (.getfield 21, 3) := by decide +kernel
theorem dX2_part_74 : decode cX2_part 74 = .ok (.iload_n 1, 1) := by decide +kernel
theorem dX2_part_75 : decode cX2_part 75 = .ok (.iload_n 2, 1) := by decide +kernel
theorem dX2_part_76 : decode cX2_part 76 = .ok (.iastore, 1) := by decide +kernel
theorem dX2_part_77 : decode cX2_part 77 = .ok (.aload_n 0, 1) := by decide +kernel
theorem dX2_part_78 : decode cX2_part 78 = .ok (.iload_n 1, 1) := by decide +kernel
theorem dX2_part_79 : decode cX2_part 79 = .ok (.iconst 1, 1) := by decide +kernel
theorem dX2_part_80 : decode cX2_part 80 = .ok (.iadd, 1) := by decide +kernel
theorem dX2_part_81 : decode cX2_part 81 = .ok (.iload_n 2, 1) := by decide +kernel
theorem dX2_part_82 : decode cX2_part 82 = .ok (.iconst 1, 1) := by decide +kernel
theorem dX2_part_83 : decode cX2_part 83 = .ok (.iadd, 1) := by decide +kernel
theorem dX2_part_84 : decode cX2_part 84 = .ok (.iload_n 3, 1) := by decide +kernel
theorem dX2_part_85 : decode cX2_part 85 = .ok (.aload_n 0, 1) := by decide +kernel
theorem dX2_part_86 : decode cX2_part 86 = .ok (.getfield 27, 3) := by decide +kernel
