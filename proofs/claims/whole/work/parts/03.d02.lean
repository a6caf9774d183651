theorem dX2_part_89 : decode cX2_part 89 = .ok (.iadd, 1) := by decide +kernel
theorem dX2_part_90 : decode cX2_part 90 = .ok (.invokevirtual 41, 3) := by decide +kernel
theorem dX2_part_93 : decode cX2_part 93 = .ok (.return_, 1) := by decide +kernel
theorem dX2_keepIfBetter_0 : decode cX2_keepIfBetter 0 = .ok (.iload_n 2, 1) := by decide +kernel
theorem dX2_keepIfBetter_1 : decode cX2_keepIfBetter 1 = .ok (.aload_n 0, 1) := by decide +kernel
theorem dX2_keepIfBetter_2 : decode cX2_keepIfBetter 2 = .ok (.getfield 38, 3) := by decide +kernel
theorem dX2_keepIfBetter_5 : decode cX2_keepIfBetter 5 = .ok (.if_icmp .lt 11, 3) := by decide +kernel
theorem dX2_keepIfBetter_8 : decode cX2_keepIfBetter 8 = .ok (.iload_n 1, 1) := by decide +kernel
theorem dX2_keepIfBetter_9 : decode cX2_keepIfBetter 9 = .ok (.aload_n 0, 1) := by decide +kernel
theorem dX2_keepIfBetter_10 : decode cX2_keepIfBetter 10 = .ok (.getfield 53, 3) := by decide +kernel
theorem dX2_keepIfBetter_13 : decode cX2_keepIfBetter 13 = .ok (.if_icmp .ge 24, 3) := by decide +kernel
theorem dX2_keepIfBetter_16 : decode cX2_keepIfBetter 16 = .ok (.aload_n 0, 1) := by decide +kernel
theorem dX2_keepIfBetter_17 : decode cX2_keepIfBetter 17 = .ok (.iload_n 2, 1) := by decide +kernel
theorem dX2_keepIfBetter_18 : decode cX2_keepIfBetter 18 = .ok (.putfield 38, 3) := by decide +kernel
theorem dX2_keepIfBetter_21 : decode cX2_keepIfBetter 21 = .ok (.aload_n 0, 1) := by decide +kernel
theorem dX2_keepIfBetter_22 : decode cX2_keepIfBetter 22 = .ok (.iload_n 1, 1) := by decide +kernel
theorem dX2_keepIfBetter_23 : decode cX2_keepIfBetter 23 = .ok (.putfield 53, 3) := by decide +kernel
theorem dX2_keepIfBetter_26 : decode cX2_keepIfBetter 26 = .ok (.aload_n 0, 1) := by decide +kernel
theorem dX2_keepIfBetter_27 : decode cX2_keepIfBetter 27 = .ok (.getfield 21, 3) := by decide +kernel
theorem dX2_keepIfBetter_30 : decode cX2_keepIfBetter 30 = .ok (.aload_n 0, 1) := by decide +kernel
theorem dX2_keepIfBetter_31 : decode cX2_keepIfBetter 31 = .ok (.getfield 24, 3) := by decide +kernel
theorem dX2_keepIfBetter_34 : decode cX2_keepIfBetter 34 = .ok (.invokestatic 31, 3) := by decide +kernel
theorem dX2_keepIfBetter_37 : decode cX2_keepIfBetter 37 = .ok (.return_, 1) := by decide +kernel
theorem dX2_priceOfJoining_0 : decode cX2_priceOfJoining 0 = .ok (.iconst 0, 1) := by decide +kernel
theorem dX2_priceOfJoining_1 : decode cX2_priceOfJoining 1 = .ok (.istore_n 3, 1) := by decide +kernel
theorem dX2_priceOfJoining_2 : decode cX2_priceOfJoining 2 = .ok (.iconst 0, 1) := by decide +kernel
theorem dX2_priceOfJoining_3 : decode cX2_priceOfJoining 3 = .ok (.istore 4, 2) := by decide +kernel
theorem dX2_priceOfJoining_5 : decode cX2_priceOfJoining 5 = .ok (.iload 4, 2) := by decide +kernel
theorem dX2_priceOfJoining_7 : decode cX2_priceOfJoining 7 = .ok (.iload_n 1, 1) := by decide +kernel
theorem dX2_priceOfJoining_8 : decode cX2_priceOfJoining 8 = .ok (.if_icmp .ge 30, 3) := by decide +kernel
theorem dX2_priceOfJoining_11 : decode cX2_priceOfJoining 11 = .ok (.aload_n 0, 1) := by decide +kernel
theorem dX2_priceOfJoining_12 : decode cX2_priceOfJoining 12 = .ok (.getfield 21, 3) := by decide +kernel
theorem dX2_priceOfJoining_15 : decode cX2_priceOfJoining 15 = .ok (.iload 4, 2) := by decide +kernel
theorem dX2_priceOfJoining_17 : decode cX2_priceOfJoining 17 = .ok (.iaload, 1) := by decide +kernel
theorem dX2_priceOfJoining_18 : decode cX2_priceOfJoining 18 = .ok (.iload_n 2, 1) := by decide +kernel
theorem dX2_priceOfJoining_19 : decode cX2_priceOfJoining 19 = .ok (.if_icmp .ne 13, 3) := by decide +kernel
theorem dX2_priceOfJoining_22 : decode cX2_priceOfJoining 22 = .ok (.iload_n 3, 1) := by decide +kernel
theorem dX2_priceOfJoining_23 : decode cX2_priceOfJoining 23 = .ok (.aload_n 0, 1) := by decide +kernel
theorem dX2_priceOfJoining_24 : decode cX2_priceOfJoining 24 = .ok (.iload 4, 2) := by decide +kernel
theorem dX2_priceOfJoining_26 : decode cX2_priceOfJoining 26 = .ok (.iload_n 1, 1) := by decide +kernel
theorem dX2_priceOfJoining_27 : decode cX2_priceOfJoining 27 = .ok (.invokevirtual 56, 3) := by decide +kernel
theorem dX2_priceOfJoining_30 : decode cX2_priceOfJoining 30 = .ok (.iadd, 1) := by decide +kernel
theorem dX2_priceOfJoining_31 : decode cX2_priceOfJoining 31 = .ok (.istore_n 3, 1) := by decide +kernel
theorem dX2_priceOfJoining_32 : decode cX2_priceOfJoining 32 = .ok (.iinc 4 1, 3) := by decide +kernel
theorem dX2_priceOfJoining_35 : decode cX2_priceOfJoining 35 = .ok (.goto (-30), 3) := by decide +kernel
theorem dX2_priceOfJoining_38 : decode cX2_priceOfJoining 38 = .ok (.iload_n 3, 1) := by decide +kernel
theorem dX2_priceOfJoining_39 : decode cX2_priceOfJoining 39 = .ok (.ireturn, 1) := by decide +kernel
theorem dX2_priceOfTwo_0 : decode cX2_priceOfTwo 0 = .ok (.aload_n 0, 1) := by decide +kernel
theorem dX2_priceOfTwo_1 : decode cX2_priceOfTwo 1 = .ok (.getfield 11, 3) := by decide +kernel
theorem dX2_priceOfTwo_4 : decode cX2_priceOfTwo 4 = .ok (.iload_n 1, 1) := by decide +kernel
theorem dX2_priceOfTwo_5 : decode cX2_priceOfTwo 5 = .ok (.iaload, 1) := by decide +kernel
theorem dX2_priceOfTwo_6 : decode cX2_priceOfTwo 6 = .ok (.aload_n 0, 1) := by decide +kernel
theorem dX2_priceOfTwo_7 : decode cX2_priceOfTwo 7 = .ok (.getfield 11, 3) := by decide +kernel
theorem dX2_priceOfTwo_10 : decode cX2_priceOfTwo 10 = .ok (.iload_n 2, 1) := by decide +kernel
theorem dX2_priceOfTwo_11 : decode cX2_priceOfTwo 11 = .ok (.iaload, 1) := by decide +kernel
theorem dX2_priceOfTwo_12 : decode cX2_priceOfTwo 12 = .ok (.invokestatic 59, 3) := by decide +kernel
theorem dX2_priceOfTwo_15 : decode cX2_priceOfTwo 15 = .ok (.ifCond .eq 8, 3) := by decide +kernel
theorem dX2_priceOfTwo_18 : decode cX2_priceOfTwo 18 = .ok (.bipush 20, 2) := by decide +kernel
theorem dX2_priceOfTwo_20 : decode cX2_priceOfTwo 20 = .ok (.goto 4, 3) := by decide +kernel
theorem dX2_priceOfTwo_23 : decode cX2_priceOfTwo 23 = .ok (.iconst 0, 1) := by decide +kernel
theorem dX2_priceOfTwo_24 : decode cX2_priceOfTwo 24 = .ok (.istore_n 3, 1) := by decide +kernel
theorem dX2_priceOfTwo_25 : decode cX2_priceOfTwo 25 = .ok (.iload_n 3, 1) := by decide +kernel
theorem dX2_priceOfTwo_26 : decode cX2_priceOfTwo 26 = .ok (.aload_n 0, 1) := by decide +kernel
theorem dX2_priceOfTwo_27 : decode cX2_priceOfTwo 27 = .ok (.getfield 15, 3) := by decide +kernel
theorem dX2_priceOfTwo_30 : decode cX2_priceOfTwo 30 = .ok (.iload_n 1, 1) := by decide +kernel
theorem dX2_priceOfTwo_31 : decode cX2_priceOfTwo 31 = .ok (.iaload, 1) := by decide +kernel
theorem dX2_priceOfTwo_32 : decode cX2_priceOfTwo 32 = .ok (.aload_n 0, 1) := by decide +kernel
theorem dX2_priceOfTwo_33 : decode cX2_priceOfTwo 33 = .ok (.getfield 15, 3) := by decide +kernel
theorem dX2_priceOfTwo_36 : decode cX2_priceOfTwo 36 = .ok (.iload_n 2, 1) := by decide +kernel
theorem dX2_priceOfTwo_37 : decode cX2_priceOfTwo 37 = .ok (.iaload, 1) := by decide +kernel
theorem dX2_priceOfTwo_38 : decode cX2_priceOfTwo 38 = .ok (.invokestatic 59, 3) := by decide +kernel
theorem dX2_priceOfTwo_41 : decode cX2_priceOfTwo 41 = .ok (.ifCond .eq 22, 3) := by decide +kernel
theorem dX2_priceOfTwo_44 : decode cX2_priceOfTwo 44 = .ok (.aload_n 0, 1) := by decide +kernel
theorem dX2_priceOfTwo_45 : decode cX2_priceOfTwo 45 = .ok (.getfield 15, 3) := by decide +kernel
theorem dX2_priceOfTwo_48 : decode cX2_priceOfTwo 48 = .ok (.iload_n 1, 1) := by decide +kernel
theorem dX2_priceOfTwo_49 : decode cX2_priceOfTwo 49 = .ok (.iaload, 1) := by decide +kernel
theorem dX2_priceOfTwo_50 : decode cX2_priceOfTwo 50 = .ok (.aload_n 0, 1) := by decide +kernel
theorem dX2_priceOfTwo_51 : decode cX2_priceOfTwo 51 = .ok (.getfield 15, 3) := by decide +kernel
theorem dX2_priceOfTwo_54 : decode cX2_priceOfTwo 54 = .ok (.iload_n 2, 1) := by decide +kernel
theorem dX2_priceOfTwo_55 : decode cX2_priceOfTwo 55 = .ok (.iaload, 1) := by decide +kernel
theorem dX2_priceOfTwo_56 : decode cX2_priceOfTwo 56 = .ok (.isub, 1) := by decide +kernel
theorem dX2_priceOfTwo_57 : decode cX2_priceOfTwo 57 = .ok (.invokestatic 63, 3) := by decide +kernel
theorem dX2_priceOfTwo_60 : decode cX2_priceOfTwo 60 = .ok (.goto 4, 3) := by decide +kernel
theorem dX2_priceOfTwo_63 : decode cX2_priceOfTwo 63 = .ok (.iconst 0, 1) := by decide +kernel
theorem dX2_priceOfTwo_64 : decode cX2_priceOfTwo 64 = .ok (.iadd, 1) := by decide +kernel
theorem dX2_priceOfTwo_65 : decode cX2_priceOfTwo 65 = .ok (.istore_n 3, 1) := by decide +kernel
theorem dX2_priceOfTwo_66 : decode cX2_priceOfTwo 66 = .ok (.iload_n 3, 1) := by decide +kernel
theorem dX2_priceOfTwo_67 : decode cX2_priceOfTwo 67 = .ok (.aload_n 0, 1) := by decide +kernel
theorem dX2_priceOfTwo_68 : decode cX2_priceOfTwo 68 = .ok (.getfield 18, 3) := by decide +kernel
theorem dX2_priceOfTwo_71 : decode cX2_priceOfTwo 71 = .ok (.iload_n 1, 1) := by decide +kernel
theorem dX2_priceOfTwo_72 : decode cX2_priceOfTwo 72 = .ok (.iaload, 1) := by decide +kernel
theorem dX2_priceOfTwo_73 : decode cX2_priceOfTwo 73 = .ok (.aload_n 0, 1) := by decide +kernel
theorem dX2_priceOfTwo_74 : decode cX2_priceOfTwo 74 = .ok (.getfield 18, 3) := by decide +kernel
theorem dX2_priceOfTwo_77 : decode cX2_priceOfTwo 77 = .ok (.iload_n 2, 1) := by decide +kernel
theorem dX2_priceOfTwo_78 : decode cX2_priceOfTwo 78 = .ok (.iaload, 1) := by decide +kernel
theorem dX2_priceOfTwo_79 : decode cX2_priceOfTwo 79 = .ok (.invokestatic 59, 3) := by decide +kernel
theorem dX2_priceOfTwo_82 : decode cX2_priceOfTwo 82 = .ok (.ifCond .eq 8, 3) := by decide +kernel
theorem dX2_priceOfTwo_85 : decode cX2_priceOfTwo 85 = .ok (.bipush 7, 2) := by decide +kernel
theorem dX2_priceOfTwo_87 : decode cX2_priceOfTwo 87 = .ok (.goto 4, 3) := by decide +kernel
theorem dX2_priceOfTwo_90 : decode cX2_priceOfTwo 90 = .ok (.iconst 0, 1) := by decide +kernel
theorem dX2_priceOfTwo_91 : decode cX2_priceOfTwo 91 = .ok (.iadd, 1) := by decide +kernel
theorem dX2_priceOfTwo_92 : decode cX2_priceOfTwo 92 = .ok (.ireturn, 1) := by decide +kernel
theorem dX2_areUnlike_0 : decode cX2_areUnlike 0 = .ok (.iload_n 0, 1) := by decide +kernel
theorem dX2_areUnlike_1 : decode cX2_areUnlike 1 = .ok (.iconst (-1), 1) := by decide +kernel
theorem dX2_areUnlike_2 : decode cX2_areUnlike 2 = .ok (.if_icmp .eq 17, 3) := by decide +kernel
theorem dX2_areUnlike_5 : decode cX2_areUnlike 5 = .ok (.iload_n 1, 1) := by decide +kernel
theorem dX2_areUnlike_6 : decode cX2_areUnlike 6 = .ok (.iconst (-1), 1) := by decide +kernel
theorem dX2_areUnlike_7 : decode cX2_areUnlike 7 = .ok (.if_icmp .eq 12, 3) := by decide +kernel
theorem dX2_areUnlike_10 : decode cX2_areUnlike 10 = .ok (.iload_n 0, 1) := by decide +kernel
theorem dX2_areUnlike_11 : decode cX2_areUnlike 11 = .ok (.iload_n 1, 1) := by decide +kernel
theorem dX2_areUnlike_12 : decode cX2_areUnlike 12 = .ok (.if_icmp .eq 7, 3) := by decide +kernel
theorem dX2_areUnlike_15 : decode cX2_areUnlike 15 = .ok (.iconst 1, 1) := by decide +kernel
theorem dX2_areUnlike_16 : decode cX2_areUnlike 16 = .ok (.goto 4, 3) := by decide +kernel
theorem dX2_areUnlike_19 : decode cX2_areUnlike 19 = .ok (.iconst 0, 1) := by decide +kernel
theorem dX2_areUnlike_20 : decode cX2_areUnlike 20 = .ok (.ireturn, 1) := by decide +kernel
theorem dX3_init_0 : decode cX3_init 0 = .ok (.aload_n 0, 1) := by decide +kernel
theorem dX3_init_1 : decode cX3_init 1 = .ok (.invokespecial 3, 3) := by decide +kernel
theorem dX3_init_4 : decode cX3_init 4 = .ok (.aload_n 0, 1) := by decide +kernel
theorem dX3_init_5 : decode cX3_init 5 = .ok (.new 9, 3) := by decide +kernel
theorem dX3_init_8 : decode cX3_init 8 = .ok (.dup, 1) := by decide +kernel
theorem dX3_init_9 : decode cX3_init 9 = .ok (.invokespecial 11, 3) := by decide +kernel
theorem dX3_init_12 : decode cX3_init 12 = .ok (.putfield 12, 3) := by decide +kernel
theorem dX3_init_15 : decode cX3_init 15 = .ok (.aload_n 0, 1) := by decide +kernel
theorem dX3_init_16 : decode cX3_init 16 = .ok (.sipush 400, 3) := by decide +kernel
theorem dX3_init_19 : decode cX3_init 19 = .ok (.newarray .byte, 2) := by decide +kernel
theorem dX3_init_21 : decode cX3_init 21 = .ok (.putfield 18, 3) := by decide +kernel
theorem dX3_init_24 : decode cX3_init 24 = .ok (.aload_n 0, 1) := by decide +kernel
theorem dX3_init_25 : decode cX3_init 25 = .ok (.iconst (-1), 1) := by decide +kernel
theorem dX3_init_26 : decode cX3_init 26 = .ok (.putfield 22, 3) := by decide +kernel
theorem dX3_init_29 : decode cX3_init 29 = .ok (.return_, 1) := by decide +kernel
theorem dX3_hasSpace_0 : decode cX3_hasSpace 0 = .ok (.aload_n 0, 1) := by decide +kernel
theorem dX3_hasSpace_1 : decode cX3_hasSpace 1 = .ok (.getfield 26, 3) := by decide +kernel
theorem dX3_hasSpace_4 : decode cX3_hasSpace 4 = .ok (.iload_n 1, 1) := by decide +kernel
theorem dX3_hasSpace_5 : decode cX3_hasSpace 5 = .ok (.iadd, 1) := by decide +kernel
theorem dX3_hasSpace_6 : decode cX3_hasSpace 6 = .ok (.aload_n 0, 1) := by decide +kernel
theorem dX3_hasSpace_7 : decode cX3_hasSpace 7 = .ok (.getfield 18, 3) := by decide +kernel
theorem dX3_hasSpace_10 : decode cX3_hasSpace 10 = .ok (.arraylength, 1) := by decide +kernel
theorem dX3_hasSpace_11 : decode cX3_hasSpace 11 = .ok (.if_icmp .gt 7, 3) := by decide +kernel
theorem dX3_hasSpace_14 : decode cX3_hasSpace 14 = .ok (.iconst 1, 1) := by decide +kernel
theorem dX3_hasSpace_15 : decode cX3_hasSpace 15 = .ok (.goto 4, 3) := by decide +kernel
theorem dX3_hasSpace_18 : decode cX3_hasSpace 18 = .ok (.iconst 0, 1) := by decide +kernel
theorem dX3_hasSpace_19 : decode cX3_hasSpace 19 = .ok (.ireturn, 1) := by decide +kernel
theorem dX3_put_0 : decode cX3_put 0 = .ok (.bipush 24, 2) := by decide +kernel
theorem dX3_put_2 : decode cX3_put 2 = .ok (.istore_n 2, 1) := by decide +kernel
theorem dX3_put_3 : decode cX3_put 3 = .ok (.iload_n 2, 1) := by decide +kernel
theorem dX3_put_4 : decode cX3_put 4 = .ok (.ifCond .lt 44, 3) := by decide +kernel
theorem dX3_put_7 : decode cX3_put 7 = .ok (.aload_n 0, 1) := by decide +kernel
theorem dX3_put_8 : decode cX3_put 8 = .ok (.getfield 26, 3) := by decide +kernel
theorem dX3_put_11 : decode cX3_put 11 = .ok (.aload_n 0, 1) := by decide +kernel
theorem dX3_put_12 : decode cX3_put 12 = .ok (.getfield 18, 3) := by decide +kernel
theorem dX3_put_15 : decode cX3_put 15 = .ok (.arraylength, 1) := by decide +kernel
theorem dX3_put_16 : decode cX3_put 16 = .ok (.if_icmp .ge 32, 3) := by decide +kernel
theorem dX3_put_19 : decode cX3_put 19 = .ok (.aload_n 0, 1) := by decide +kernel
theorem dX3_put_20 : decode cX3_put 20 = .ok (.getfield 18, 3) := by decide +kernel
theorem dX3_put_23 : decode cX3_put 23 = .ok (.aload_n 0, 1) := by decide +kernel
theorem dX3_put_24 : decode cX3_put 24 = .ok (.getfield 26, 3) := by decide +kernel
theorem dX3_put_27 : decode cX3_put 27 = .ok (.iload_n 1, 1) := by decide +kernel
theorem dX3_put_28 : decode cX3_put 28 = .ok (.iload_n 2, 1) := by decide +kernel
theorem dX3_put_29 : decode cX3_put 29 = .ok (.iushr, 1) := by decide +kernel
theorem dX3_put_30 : decode cX3_put 30 = .ok (.i2b, 1) := by decide +kernel
theorem dX3_put_31 : decode cX3_put 31 = .ok (.bastore, 1) := by decide +kernel
theorem dX3_put_32 : decode cX3_put 32 = .ok (.aload_n 0, 1) := by decide +kernel
theorem dX3_put_33 : decode cX3_put 33 = .ok (.dup, 1) := by decide +kernel
theorem dX3_put_34 : decode cX3_put 34 = .ok (.getfield 26, 3) := by decide +kernel
theorem dX3_put_37 : decode cX3_put 37 = .ok (.iconst 1, 1) := by decide +kernel
theorem dX3_put_38 : decode cX3_put 38 = .ok (.iadd, 1) := by decide +kernel
theorem dX3_put_39 : decode cX3_put 39 = .ok (.putfield 26, 3) := by decide +kernel
theorem dX3_put_42 : decode cX3_put 42 = .ok (.iinc 2 (-8), 3) := by decide +kernel
theorem dX3_put_45 : decode cX3_put 45 = .ok (.goto (-42), 3) := by decide +kernel
theorem dX3_put_48 : decode cX3_put 48 = .ok (.return_, 1) := by decide +kernel
theorem dX3_read_0 : decode cX3_read 0 = .ok (.aload_n 0, 1) := by decide +kernel
theorem dX3_read_1 : decode cX3_read 1 = .ok (.getfield 12, 3) := by decide +kernel
theorem dX3_read_4 : decode cX3_read 4 = .ok (.invokevirtual 29, 3) := by decide +kernel
theorem dX3_read_7 : decode cX3_read 7 = .ok (.aload_n 0, 1) := by decide +kernel
theorem dX3_read_8 : decode cX3_read 8 = .ok (.iconst 0, 1) := by decide +kernel
theorem dX3_read_9 : decode cX3_read 9 = .ok (.putfield 32, 3) := by decide +kernel
theorem dX3_read_12 : decode cX3_read 12 = .ok (.aload_n 0, 1) := by decide +kernel
theorem dX3_read_13 : decode cX3_read 13 = .ok (.iconst (-1), 1) := by decide +kernel
theorem dX3_read_14 : decode cX3_read 14 = .ok (.putfield 22, 3) := by decide +kernel
theorem dX3_read_17 : decode cX3_read 17 = .ok (.aload_n 0, 1) := by decide +kernel
theorem dX3_read_18 : decode cX3_read 18 = .ok (.invokevirtual 35, 3) := by decide +kernel
theorem dX3_read_21 : decode cX3_read 21 = .ok (.aload_n 0, 1) := by decide +kernel
theorem dX3_read_22 : decode cX3_read 22 = .ok (.getfield 38, 3) := by decide +kernel
theorem dX3_read_25 : decode cX3_read 25 = .ok (.bipush 21, 2) := by decide +kernel
theorem dX3_read_27 : decode cX3_read 27 = .ok (.if_icmp .eq 7, 3) := by decide +kernel
theorem dX3_read_30 : decode cX3_read 30 = .ok (.iconst 1, 1) := by decide +kernel
theorem dX3_read_31 : decode cX3_read 31 = .ok (.goto 4, 3) := by decide +kernel
theorem dX3_read_34 : decode cX3_read 34 = .ok (.iconst 0, 1) := by decide +kernel
theorem dX3_read_35 : decode cX3_read 35 = .ok (.istore_n 1, 1) := by decide +kernel
theorem dX3_read_36 : decode cX3_read 36 = .ok (.iconst 0, 1) := by decide +kernel
theorem dX3_read_37 : decode cX3_read 37 = .ok (.istore_n 2, 1) := by decide +kernel
theorem dX3_read_38 : decode cX3_read 38 = .ok (.iload_n 2, 1) := by decide +kernel
theorem dX3_read_39 : decode cX3_read 39 = .ok (.bipush 10, 2) := by decide +kernel
theorem dX3_read_41 : decode cX3_read 41 = .ok (.if_icmp .ge 18, 3) := by decide +kernel
theorem dX3_read_44 : decode cX3_read 44 = .ok (.iload_n 1, 1) := by decide +kernel
theorem dX3_read_45 : decode cX3_read 45 = .ok (.ifCond .eq 14, 3) := by decide +kernel
theorem dX3_read_48 : decode cX3_read 48 = .ok (.aload_n 0, 1) := by decide +kernel
theorem dX3_read_49 : decode cX3_read 49 = .ok (.invokevirtual 41, 3) := by decide +kernel
theorem dX3_read_52 : decode cX3_read 52 = .ok (.istore_n 1, 1) := by decide +kernel
theorem dX3_read_53 : decode cX3_read 53 = .ok (.iinc 2 1, 3) := by decide +kernel
theorem dX3_read_56 : decode cX3_read 56 = .ok (.goto (-18), 3) := by decide +kernel
theorem dX3_read_59 : decode cX3_read 59 = .ok (.iload_n 1, 1) := by decide +kernel
theorem dX3_read_60 : decode cX3_read 60 = .ok (.ifCond .eq 8, 3) := by decide +kernel
theorem dX3_read_63 : decode cX3_read 63 = .ok (.aload_n 0, 1) := by decide +kernel
theorem dX3_read_64 : decode cX3_read 64 = .ok (.invokevirtual 45, 3) := by decide +kernel
theorem dX3_read_67 : decode cX3_read 67 = .ok (.pop, 1) := by decide +kernel
theorem dX3_read_68 : decode cX3_read 68 = .ok (.aload_n 0, 1) := by decide +kernel
theorem dX3_read_69 : decode cX3_read 69 = .ok (.iconst 0, 1) := by decide +kernel
theorem dX3_read_70 : decode cX3_read 70 = .ok (.putfield 26, 3) := by decide +kernel
theorem dX3_read_73 : decode cX3_read 73 = .ok (.aload_n 0, 1) := by decide +kernel
theorem dX3_read_74 : decode cX3_read 74 = .ok (.getfield 22, 3) := by decide +kernel
theorem dX3_read_77 : decode cX3_read 77 = .ok (.iconst (-1), 1) := by decide +kernel
theorem dX3_read_78 : decode cX3_read 78 = .ok (.if_icmp .ne 7, 3) := by decide +kernel
theorem dX3_read_81 : decode cX3_read 81 = .ok (.iconst 1, 1) := by decide +kernel
theorem dX3_read_82 : decode cX3_read 82 = .ok (.goto 4, 3) := by decide +kernel
theorem dX3_read_85 : decode cX3_read 85 = .ok (.iconst 0, 1) := by decide +kernel
theorem dX3_read_86 : decode cX3_read 86 = .ok (.ireturn, 1) := by decide +kernel
theorem dX3_readLine_0 : decode cX3_readLine 0 = .ok (.aload_n 0, 1) := by decide +kernel
theorem dX3_readLine_1 : decode cX3_readLine 1 = .ok (.getfield 38, 3) := by decide +kernel
theorem dX3_readLine_4 : decode cX3_readLine 4 = .ok (.istore_n 1, 1) := by decide +kernel
theorem dX3_readLine_5 : decode cX3_readLine 5 = .ok (.iload_n 1, 1) := by decide +kernel
theorem dX3_readLine_6 : decode cX3_readLine 6 = .ok (.iconst 3, 1) := by decide +kernel
theorem dX3_readLine_7 : decode cX3_readLine 7 = .ok (.if_icmp .le 8, 3) := by decide +kernel
theorem dX3_readLine_10 : decode cX3_readLine 10 = .ok (.aload_n 0, 1) := by decide +kernel
theorem dX3_readLine_11 : decode cX3_readLine 11 = .ok (.invokevirtual 45, 3) := by decide +kernel
theorem dX3_readLine_14 : decode cX3_readLine 14 = .ok (.ireturn, 1) := by decide +kernel
theorem dX3_readLine_15 : decode cX3_readLine 15 = .ok (.aload_n 0, 1) := by decide +kernel
theorem dX3_readLine_16 : decode cX3_readLine 16 = .ok (.invokevirtual 35, 3) := by decide +kernel
theorem dX3_readLine_19 : decode cX3_readLine 19 = .ok (.iconst 0, 1) := by decide +kernel
theorem dX3_readLine_20 : decode cX3_readLine 20 = .ok (.istore_n 2, 1) := by decide +kernel
theorem dX3_readLine_21 : decode cX3_readLine 21 = .ok (.iload_n 1, 1) := by decide +kernel
theorem dX3_readLine_22 : decode cX3_readLine 22 = .ok (.ifCond .eq 8, 3) := by decide +kernel
theorem dX3_readLine_25 : decode cX3_readLine 25 = .ok (.iload_n 1, 1) := by decide +kernel
theorem dX3_readLine_26 : decode cX3_readLine 26 = .ok (.iconst 2, 1) := by decide +kernel
theorem dX3_readLine_27 : decode cX3_readLine 27 = .ok (.if_icmp .ne 46, 3) := by decide +kernel
theorem dX3_readLine_30 : decode cX3_readLine 30 = .ok (.aload_n 0, 1) := by decide +kernel
theorem dX3_readLine_31 : decode cX3_readLine 31 = .ok (.getfield 38, 3) := by decide +kernel
theorem dX3_readLine_34 : decode cX3_readLine 34 = .ok (.bipush 20, 2) := by decide +kernel
theorem dX3_readLine_36 : decode cX3_readLine 36 = .ok (.if_icmp .ne 23, 3) := by decide +kernel
theorem dX3_readLine_39 : decode cX3_readLine 39 = .ok (.aload_n 0, 1) := by decide +kernel
theorem dX3_readLine_40 : decode cX3_readLine 40 = .ok (.getfield 48, 3) := by decide +kernel
theorem dX3_readLine_43 : decode cX3_readLine 43 = .ok (.iload_n 1, 1) := by decide +kernel
theorem dX3_readLine_44 : decode cX3_readLine 44 = .ok (.iconst 2, 1) := by decide +kernel
theorem dX3_readLine_45 : decode cX3_readLine 45 = .ok (.if_icmp .ne 8, 3) := by decide +kernel
theorem dX3_readLine_48 : decode cX3_readLine 48 = .ok (.bipush 100, 2) := by decide +kernel
theorem dX3_readLine_50 : decode cX3_readLine 50 = .ok (.goto 6, 3) := by decide +kernel
theorem dX3_readLine_53 : decode cX3_readLine 53 = .ok (.sipush 9999, 3) := by decide +kernel
theorem dX3_readLine_56 : decode cX3_readLine 56 = .ok (.if_icmp .le 8, 3) := by decide +kernel
theorem dX3_readLine_59 : decode cX3_readLine 59 = .ok (.aload_n 0, 1) := by decide +kernel
theorem dX3_readLine_60 : decode cX3_readLine 60 = .ok (.invokevirtual 45, 3) := by decide +kernel
theorem dX3_readLine_63 : decode cX3_readLine 63 = .ok (.ireturn, 1) := by decide +kernel
theorem dX3_readLine_64 : decode cX3_readLine 64 = .ok (.aload_n 0, 1) := by decide +kernel
theorem dX3_readLine_65 : decode cX3_readLine 65 = .ok (.getfield 48, 3) := by decide +kernel
theorem dX3_readLine_68 : decode cX3_readLine 68 = .ok (.istore_n 2, 1) := by decide +kernel
theorem dX3_readLine_69 : decode cX3_readLine 69 = .ok (.aload_n 0, 1) := by decide +kernel
theorem dX3_readLine_70 : decode cX3_readLine 70 = .ok (.invokevirtual 35, 3) := by decide +kernel
theorem dX3_readLine_73 : decode cX3_readLine 73 = .ok (.aload_n 0, 1) := by decide +kernel
theorem dX3_readLine_74 : decode cX3_readLine 74 = .ok (.getfield 12, 3) := by decide +kernel
theorem dX3_readLine_77 : decode cX3_readLine 77 = .ok (.iload_n 1, 1) := by decide +kernel
theorem dX3_readLine_78 : decode cX3_readLine 78 = .ok (.iload_n 2, 1) := by decide +kernel
theorem dX3_readLine_79 : decode cX3_readLine 79 = .ok (.invokevirtual 51, 3) := by decide +kernel
theorem dX3_readLine_82 : decode cX3_readLine 82 = .ok (.iload_n 1, 1) := by decide +kernel
theorem dX3_readLine_83 : decode cX3_readLine 83 = .ok (.iconst 2, 1) := by decide +kernel
theorem dX3_readLine_84 : decode cX3_readLine 84 = .ok (.if_icmp .eq 25, 3) := by decide +kernel
theorem dX3_readLine_87 : decode cX3_readLine 87 = .ok (.aload_n 0, 1) := by decide +kernel
theorem dX3_readLine_88 : decode cX3_readLine 88 = .ok (.getfield 38, 3) := by decide +kernel
theorem dX3_readLine_91 : decode cX3_readLine 91 = .ok (.iconst 4, 1) := by decide +kernel
theorem dX3_readLine_92 : decode cX3_readLine 92 = .ok (.if_icmp .ne 17, 3) := by decide +kernel
theorem dX3_readLine_95 : decode cX3_readLine 95 = .ok (.aload_n 0, 1) := by decide +kernel
theorem dX3_readLine_96 : decode cX3_readLine 96 = .ok (.invokevirtual 35, 3) := by decide +kernel
theorem dX3_readLine_99 : decode cX3_readLine 99 = .ok (.aload_n 0, 1) := by decide +kernel
theorem dX3_readLine_100 : decode cX3_readLine 100 = .ok (.iconst 0, 1) := by decide +kernel
theorem dX3_readLine_101 : decode cX3_readLine 101 = .ok (.invokevirtual 55, 3) := by decide +kernel
theorem dX3_readLine_104 : decode cX3_readLine 104 = .ok (.ifCond .ne 5, 3) := by decide +kernel
theorem dX3_readLine_107 : decode cX3_readLine 107 = .ok (.iconst 0, 1) := by decide +kernel
theorem dX3_readLine_108 : decode cX3_readLine 108 = .ok (.ireturn, 1) := by decide +kernel
theorem dX3_readLine_109 : decode cX3_readLine 109 = .ok (.aload_n 0, 1) := by decide +kernel
theorem dX3_readLine_110 : decode cX3_readLine 110 = .ok (.getfield 38, 3) := by decide +kernel
theorem dX3_readLine_113 : decode cX3_readLine 113 = .ok (.bipush 21, 2) := by decide +kernel
theorem dX3_readLine_115 : decode cX3_readLine 115 = .ok (.if_icmp .ne 5, 3) := by decide +kernel
theorem dX3_readLine_118 : decode cX3_readLine 118 = .ok (.iconst 0, 1) := by decide +kernel
theorem dX3_readLine_119 : decode cX3_readLine 119 = .ok (.ireturn, 1) := by decide +kernel
theorem dX3_readLine_120 : decode cX3_readLine 120 = .ok (.aload_n 0, 1) := by decide +kernel
theorem dX3_readLine_121 : decode cX3_readLine 121 = .ok (.getfield 38, 3) := by decide +kernel
theorem dX3_readLine_124 : decode cX3_readLine 124 = .ok (.sipush 159, 3) := by decide +kernel
theorem dX3_readLine_127 : decode cX3_readLine 127 = .ok (.if_icmp .eq 8, 3) := by decide +kernel
theorem dX3_readLine_130 : decode cX3_readLine 130 = .ok (.aload_n 0, 1) := by decide +kernel
theorem dX3_readLine_131 : decode cX3_readLine 131 = .ok (.invokevirtual 45, 3) := by decide +kernel
theorem dX3_readLine_134 : decode cX3_readLine 134 = .ok (.ireturn, 1) := by decide +kernel
theorem dX3_readLine_135 : decode cX3_readLine 135 = .ok (.aload_n 0, 1) := by decide +kernel
theorem dX3_readLine_136 : decode cX3_readLine 136 = .ok (.invokevirtual 35, 3) := by decide +kernel
theorem dX3_readLine_139 : decode cX3_readLine 139 = .ok (.iconst 1, 1) := by decide +kernel
theorem dX3_readLine_140 : decode cX3_readLine 140 = .ok (.ireturn, 1) := by decide +kernel
theorem dX3_readEither_0 : decode cX3_readEither 0 = .ok (.iconst 0, 1) := by decide +kernel
theorem dX3_readEither_1 : decode cX3_readEither 1 = .ok (.istore_n 2, 1) := by decide +kernel
theorem dX3_readEither_2 : decode cX3_readEither 2 = .ok (.aload_n 0, 1) := by decide +kernel
theorem dX3_readEither_3 : decode cX3_readEither 3 = .ok (.iload_n 1, 1) := by decide +kernel
theorem dX3_readEither_4 : decode cX3_readEither 4 = .ok (.invokevirtual 59, 3) := by decide +kernel
theorem dX3_readEither_7 : decode cX3_readEither 7 = .ok (.istore_n 3, 1) := by decide +kernel
theorem dX3_readEither_8 : decode cX3_readEither 8 = .ok (.iconst 0, 1) := by decide +kernel
theorem dX3_readEither_9 : decode cX3_readEither 9 = .ok (.istore 4, 2) := by decide +kernel
theorem dX3_readEither_11 : decode cX3_readEither 11 = .ok (.iload 4, 2) := by decide +kernel
theorem dX3_readEither_13 : decode cX3_readEither 13 = .ok (.aload_n 0, 1) := by decide +kernel
theorem dX3_readEither_14 : decode cX3_readEither 14 = .ok (.getfield 26, 3) := by decide +kernel
theorem dX3_readEither_17 : decode cX3_readEither 17 = .ok (.if_icmp .ge 103, 3) := by decide +kernel
theorem dX3_readEither_20 : decode cX3_readEither 20 = .ok (.iload_n 3, 1) := by decide +kernel
theorem dX3_readEither_21 : decode cX3_readEither 21 = .ok (.ifCond .eq 99, 3) := by decide +kernel
theorem dX3_readEither_24 : decode cX3_readEither 24 = .ok (.aload_n 0, 1) := by decide +kernel
theorem dX3_readEither_25 : decode cX3_readEither 25 = .ok (.getfield 38, 3) := by decide +kernel
theorem dX3_readEither_28 : decode cX3_readEither 28 = .ok (.bipush 6, 2) := by decide +kernel
theorem dX3_readEither_30 : decode cX3_readEither 30 = .ok (.if_icmp .eq 11, 3) := by decide +kernel
theorem dX3_readEither_33 : decode cX3_readEither 33 = .ok (.aload_n 0, 1) := by decide +kernel
theorem dX3_readEither_34 : decode cX3_readEither 34 = .ok (.getfield 38, 3) := by decide +kernel
theorem dX3_readEither_37 : decode cX3_readEither 37 = .ok (.iconst 5, 1) := by decide +kernel
theorem dX3_readEither_38 : decode cX3_readEither 38 = .ok (.if_icmp .ne 82, 3) := by decide +kernel
theorem dX3_readEither_41 : decode cX3_readEither 41 = .ok (.aload_n 0, 1) := by decide +kernel
theorem dX3_readEither_42 : decode cX3_readEither 42 = .ok (.getfield 38, 3) := by decide +kernel
theorem dX3_readEither_45 : decode cX3_readEither 45 = .ok (.bipush 6, 2) := by decide +kernel
theorem dX3_readEither_47 : decode cX3_readEither 47 = .ok (.if_icmp .ne 7, 3) := by decide +kernel
theorem dX3_readEither_50 : decode cX3_readEither 50 = .ok (.iconst 1, 1) := by decide +kernel
theorem dX3_readEither_51 : decode cX3_readEither 51 = .ok (.goto 4, 3) := by decide +kernel
theorem dX3_readEither_54 : decode cX3_readEither 54 = .ok (.iconst 0, 1) := by decide +kernel
theorem dX3_readEither_55 : decode cX3_readEither 55 = .ok (.istore 5, 2) := by decide +kernel
theorem dX3_readEither_57 : decode cX3_readEither 57 = .ok (.iload 5, 2) := by decide +kernel
theorem dX3_readEither_59 : decode cX3_readEither 59 = .ok (.ifCond .ne 17, 3) := by decide +kernel
theorem dX3_readEither_62 : decode cX3_readEither 62 = .ok (.iload_n 2, 1) := by decide +kernel
theorem dX3_readEither_63 : decode cX3_readEither 63 = .ok (.ifCond .eq 13, 3) := by decide +kernel
theorem dX3_readEither_66 : decode cX3_readEither 66 = .ok (.aload_n 0, 1) := by decide +kernel
theorem dX3_readEither_67 : decode cX3_readEither 67 = .ok (.getfield 12, 3) := by decide +kernel
theorem dX3_readEither_70 : decode cX3_readEither 70 = .ok (.iconst 5, 1) := by decide +kernel
theorem dX3_readEither_71 : decode cX3_readEither 71 = .ok (.iconst 0, 1) := by decide +kernel
theorem dX3_readEither_72 : decode cX3_readEither 72 = .ok (.iconst 0, 1) := by decide +kernel
theorem dX3_readEither_73 : decode cX3_readEither 73 = .ok (.invokevirtual 62, 3) := by decide +kernel
theorem dX3_readEither_76 : decode cX3_readEither 76 = .ok (.iload_n 2, 1) := by decide +kernel
theorem dX3_readEither_77 : decode cX3_readEither 77 = .ok (.iload 5, 2) := by decide +kernel
theorem dX3_readEither_79 : decode cX3_readEither 79 = .ok (.ifCond .ne 7, 3) := by decide +kernel
theorem dX3_readEither_82 : decode cX3_readEither 82 = .ok (.iconst 1, 1) := by decide +kernel
theorem dX3_readEither_83 : decode cX3_readEither 83 = .ok (.goto 4, 3) := by decide +kernel
theorem dX3_readEither_86 : decode cX3_readEither 86 = .ok (.iconst 0, 1) := by decide +kernel
theorem dX3_readEither_87 : decode cX3_readEither 87 = .ok (.ior, 1) := by decide +kernel
theorem dX3_readEither_88 : decode cX3_readEither 88 = .ok (.istore_n 2, 1) := by decide +kernel
theorem dX3_readEither_89 : decode cX3_readEither 89 = .ok (.aload_n 0, 1) := by decide +kernel
theorem dX3_readEither_90 : decode cX3_readEither 90 = .ok (.invokevirtual 35, 3) := by decide +kernel
theorem dX3_readEither_93 : decode cX3_readEither 93 = .ok (.aload_n 0, 1) := by decide +kernel
theorem dX3_readEither_94 : decode cX3_readEither 94 = .ok (.iload_n 1, 1) := by decide +kernel
theorem dX3_readEither_95 : decode cX3_readEither 95 = .ok (.invokevirtual 59, 3) := by decide +kernel
theorem dX3_readEither_98 : decode cX3_readEither 98 = .ok (.istore_n 3, 1) := by decide +kernel
theorem dX3_readEither_99 : decode cX3_readEither 99 = .ok (.iload 5, 2) := by decide +kernel
theorem dX3_readEither_101 : decode cX3_readEither 101 = .ok (.ifCond .eq 13, 3) := by decide +kernel
theorem dX3_readEither_104 : decode cX3_readEither 104 = .ok (.aload_n 0, 1) := by decide +kernel
theorem dX3_readEither_105 : decode cX3_readEither 105 = .ok (.getfield 12, 3) := by decide +kernel
theorem dX3_readEither_108 : decode cX3_readEither 108 = .ok (.iconst 4, 1) := by decide +kernel
theorem dX3_readEither_109 : decode cX3_readEither 109 = .ok (.iconst 0, 1) := by decide +kernel
theorem dX3_readEither_110 : decode cX3_readEither 110 = .ok (.iconst 0, 1) := by decide +kernel
theorem dX3_readEither_111 : decode cX3_readEither 111 = .ok (.invokevirtual 62, 3) := by decide +kernel
theorem dX3_readEither_114 : decode cX3_readEither 114 = .ok (.iinc 4 1, 3) := by decide +kernel
theorem dX3_readEither_117 : decode cX3_readEither 117 = .ok (.goto (-106), 3) := by decide +kernel
theorem dX3_readEither_120 : decode cX3_readEither 120 = .ok (.iload_n 2, 1) := by decide +kernel
theorem dX3_readEither_121 : decode cX3_readEither 121 = .ok (.ifCond .eq 13, 3) := by decide +kernel
theorem dX3_readEither_124 : decode cX3_readEither 124 = .ok (.aload_n 0, 1) := by decide +kernel
theorem dX3_readEither_125 : decode cX3_readEither 125 = .ok (.getfield 12, 3) := by decide +kernel
theorem dX3_readEither_128 : decode cX3_readEither 128 = .ok (.iconst 5, 1) := by decide +kernel
theorem dX3_readEither_129 : decode cX3_readEither 129 = .ok (.iconst 0, 1) := by decide +kernel
theorem dX3_readEither_130 : decode cX3_readEither 130 = .ok (.iconst 0, 1) := by decide +kernel
theorem dX3_readEither_131 : decode cX3_readEither 131 = .ok (.invokevirtual 62, 3) := by decide +kernel
theorem dX3_readEither_134 : decode cX3_readEither 134 = .ok (.iload_n 3, 1) := by decide +kernel
theorem dX3_readEither_135 : decode cX3_readEither 135 = .ok (.ireturn, 1) := by decide +kernel
theorem dX3_readAtom_0 : decode cX3_readAtom 0 = .ok (.aload_n 0, 1) := by decide +kernel
theorem dX3_readAtom_1 : decode cX3_readAtom 1 = .ok (.getfield 38, 3) := by decide +kernel
theorem dX3_readAtom_4 : decode cX3_readAtom 4 = .ok (.sipush 140, 3) := by decide +kernel
theorem dX3_readAtom_7 : decode cX3_readAtom 7 = .ok (.if_icmp .ne 7, 3) := by decide +kernel
theorem dX3_readAtom_10 : decode cX3_readAtom 10 = .ok (.iconst 1, 1) := by decide +kernel
theorem dX3_readAtom_11 : decode cX3_readAtom 11 = .ok (.goto 4, 3) := by decide +kernel
theorem dX3_readAtom_14 : decode cX3_readAtom 14 = .ok (.iconst 0, 1) := by decide +kernel
theorem dX3_readAtom_15 : decode cX3_readAtom 15 = .ok (.istore_n 2, 1) := by decide +kernel
theorem dX3_readAtom_16 : decode cX3_readAtom 16 = .ok (.iload_n 2, 1) := by decide +kernel
theorem dX3_readAtom_17 : decode cX3_readAtom 17 = .ok (.ifCond .ne 17, 3) := by decide +kernel
theorem dX3_readAtom_20 : decode cX3_readAtom 20 = .ok (.aload_n 0, 1) := by decide +kernel
theorem dX3_readAtom_21 : decode cX3_readAtom 21 = .ok (.getfield 38, 3) := by decide +kernel
theorem dX3_readAtom_24 : decode cX3_readAtom 24 = .ok (.bipush 7, 2) := by decide +kernel
theorem dX3_readAtom_26 : decode cX3_readAtom 26 = .ok (.if_icmp .eq 8, 3) := by decide +kernel
theorem dX3_readAtom_29 : decode cX3_readAtom 29 = .ok (.aload_n 0, 1) := by decide +kernel
theorem dX3_readAtom_30 : decode cX3_readAtom 30 = .ok (.invokevirtual 66, 3) := by decide +kernel
theorem dX3_readAtom_33 : decode cX3_readAtom 33 = .ok (.ireturn, 1) := by decide +kernel
theorem dX3_readAtom_34 : decode cX3_readAtom 34 = .ok (.iload_n 1, 1) := by decide +kernel
theorem dX3_readAtom_35 : decode cX3_readAtom 35 = .ok (.bipush 6, 2) := by decide +kernel
theorem dX3_readAtom_37 : decode cX3_readAtom 37 = .ok (.if_icmp .lt 8, 3) := by decide +kernel
theorem dX3_readAtom_40 : decode cX3_readAtom 40 = .ok (.aload_n 0, 1) := by decide +kernel
theorem dX3_readAtom_41 : decode cX3_readAtom 41 = .ok (.invokevirtual 45, 3) := by decide +kernel
theorem dX3_readAtom_44 : decode cX3_readAtom 44 = .ok (.ireturn, 1) := by decide +kernel
theorem dX3_readAtom_45 : decode cX3_readAtom 45 = .ok (.aload_n 0, 1) := by decide +kernel
theorem dX3_readAtom_46 : decode cX3_readAtom 46 = .ok (.invokevirtual 35, 3) := by decide +kernel
theorem dX3_readAtom_49 : decode cX3_readAtom 49 = .ok (.iload_n 2, 1) := by decide +kernel
theorem dX3_readAtom_50 : decode cX3_readAtom 50 = .ok (.ifCond .ne 23, 3) := by decide +kernel
theorem dX3_readAtom_53 : decode cX3_readAtom 53 = .ok (.aload_n 0, 1) := by decide +kernel
theorem dX3_readAtom_54 : decode cX3_readAtom 54 = .ok (.iload_n 1, 1) := by decide +kernel
theorem dX3_readAtom_55 : decode cX3_readAtom 55 = .ok (.iconst 1, 1) := by decide +kernel
theorem dX3_readAtom_56 : decode cX3_readAtom 56 = .ok (.iadd, 1) := by decide +kernel
theorem dX3_readAtom_57 : decode cX3_readAtom 57 = .ok (.invokevirtual 59, 3) := by decide +kernel
theorem dX3_readAtom_60 : decode cX3_readAtom 60 = .ok (.istore_n 3, 1) := by decide +kernel
theorem dX3_readAtom_61 : decode cX3_readAtom 61 = .ok (.aload_n 0, 1) := by decide +kernel
theorem dX3_readAtom_62 : decode cX3_readAtom 62 = .ok (.getfield 12, 3) := by decide +kernel
theorem dX3_readAtom_65 : decode cX3_readAtom 65 = .ok (.iconst 3, 1) := by decide +kernel
theorem dX3_readAtom_66 : decode cX3_readAtom 66 = .ok (.iconst 0, 1) := by decide +kernel
theorem dX3_readAtom_67 : decode cX3_readAtom 67 = .ok (.iconst 0, 1) := by decide +kernel
theorem dX3_readAtom_68 : decode cX3_readAtom 68 = .ok (.invokevirtual 62, 3) := by decide +kernel
theorem dX3_readAtom_71 : decode cX3_readAtom 71 = .ok (.iload_n 3, 1) := by decide +kernel
theorem dX3_readAtom_72 : decode cX3_readAtom 72 = .ok (.ireturn, 1) := by decide +kernel
theorem dX3_readAtom_73 : decode cX3_readAtom 73 = .ok (.aload_n 0, 1) := by decide +kernel
theorem dX3_readAtom_74 : decode cX3_readAtom 74 = .ok (.iload_n 1, 1) := by decide +kernel
theorem dX3_readAtom_75 : decode cX3_readAtom 75 = .ok (.iconst 1, 1) := by decide +kernel
theorem dX3_readAtom_76 : decode cX3_readAtom 76 = .ok (.iadd, 1) := by decide +kernel
theorem dX3_readAtom_77 : decode cX3_readAtom 77 = .ok (.invokevirtual 55, 3) := by decide +kernel
theorem dX3_readAtom_80 : decode cX3_readAtom 80 = .ok (.ifCond .ne 5, 3) := by decide +kernel
theorem dX3_readAtom_83 : decode cX3_readAtom 83 = .ok (.iconst 0, 1) := by decide +kernel
theorem dX3_readAtom_84 : decode cX3_readAtom 84 = .ok (.ireturn, 1) := by decide +kernel
theorem dX3_readAtom_85 : decode cX3_readAtom 85 = .ok (.aload_n 0, 1) := by decide +kernel
theorem dX3_readAtom_86 : decode cX3_readAtom 86 = .ok (.getfield 38, 3) := by decide +kernel
theorem dX3_readAtom_89 : decode cX3_readAtom 89 = .ok (.sipush 141, 3) := by decide +kernel
theorem dX3_readAtom_92 : decode cX3_readAtom 92 = .ok (.if_icmp .eq 8, 3) := by decide +kernel
theorem dX3_readAtom_95 : decode cX3_readAtom 95 = .ok (.aload_n 0, 1) := by decide +kernel
theorem dX3_readAtom_96 : decode cX3_readAtom 96 = .ok (.invokevirtual 45, 3) := by decide +kernel
theorem dX3_readAtom_99 : decode cX3_readAtom 99 = .ok (.ireturn, 1) := by decide +kernel
theorem dX3_readAtom_100 : decode cX3_readAtom 100 = .ok (.aload_n 0, 1) := by decide +kernel
theorem dX3_readAtom_101 : decode cX3_readAtom 101 = .ok (.invokevirtual 35, 3) := by decide +kernel
theorem dX3_readAtom_104 : decode cX3_readAtom 104 = .ok (.iconst 1, 1) := by decide +kernel
theorem dX3_readAtom_105 : decode cX3_readAtom 105 = .ok (.ireturn, 1) := by decide +kernel
theorem dX3_readFact_0 : decode cX3_readFact 0 = .ok (.aload_n 0, 1) := by decide +kernel
theorem dX3_readFact_1 : decode cX3_readFact 1 = .ok (.getfield 38, 3) := by decide +kernel
theorem dX3_readFact_4 : decode cX3_readFact 4 = .ok (.bipush 8, 2) := by decide +kernel
theorem dX3_readFact_6 : decode cX3_readFact 6 = .ok (.if_icmp .lt 34, 3) := by decide +kernel
theorem dX3_readFact_9 : decode cX3_readFact 9 = .ok (.aload_n 0, 1) := by decide +kernel
theorem dX3_readFact_10 : decode cX3_readFact 10 = .ok (.getfield 38, 3) := by decide +kernel
theorem dX3_readFact_13 : decode cX3_readFact 13 = .ok (.bipush 15, 2) := by decide +kernel
theorem dX3_readFact_15 : decode cX3_readFact 15 = .ok (.if_icmp .ge 25, 3) := by decide +kernel
theorem dX3_readFact_18 : decode cX3_readFact 18 = .ok (.aload_n 0, 1) := by decide +kernel
theorem dX3_readFact_19 : decode cX3_readFact 19 = .ok (.getfield 12, 3) := by decide +kernel
theorem dX3_readFact_22 : decode cX3_readFact 22 = .ok (.iconst 0, 1) := by decide +kernel
theorem dX3_readFact_23 : decode cX3_readFact 23 = .ok (.aload_n 0, 1) := by decide +kernel
theorem dX3_readFact_24 : decode cX3_readFact 24 = .ok (.getfield 38, 3) := by decide +kernel
theorem dX3_readFact_27 : decode cX3_readFact 27 = .ok (.bipush 8, 2) := by decide +kernel
theorem dX3_readFact_29 : decode cX3_readFact 29 = .ok (.isub, 1) := by decide +kernel
theorem dX3_readFact_30 : decode cX3_readFact 30 = .ok (.iconst 0, 1) := by decide +kernel
theorem dX3_readFact_31 : decode cX3_readFact 31 = .ok (.invokevirtual 62, 3) := by decide +kernel
theorem dX3_readFact_34 : decode cX3_readFact 34 = .ok (.aload_n 0, 1) := by decide +kernel
theorem dX3_readFact_35 : decode cX3_readFact 35 = .ok (.invokevirtual 35, 3) := by decide +kernel
theorem dX3_readFact_38 : decode cX3_readFact 38 = .ok (.iconst 1, 1) := by decide +kernel
theorem dX3_readFact_39 : decode cX3_readFact 39 = .ok (.ireturn, 1) := by decide +kernel
theorem dX3_readFact_40 : decode cX3_readFact 40 = .ok (.aload_n 0, 1) := by decide +kernel
theorem dX3_readFact_41 : decode cX3_readFact 41 = .ok (.getfield 38, 3) := by decide +kernel
theorem dX3_readFact_44 : decode cX3_readFact 44 = .ok (.bipush 15, 2) := by decide +kernel
theorem dX3_readFact_46 : decode cX3_readFact 46 = .ok (.if_icmp .lt 12, 3) := by decide +kernel
theorem dX3_readFact_49 : decode cX3_readFact 49 = .ok (.aload_n 0, 1) := by decide +kernel
theorem dX3_readFact_50 : decode cX3_readFact 50 = .ok (.getfield 38, 3) := by decide +kernel
theorem dX3_readFact_53 : decode cX3_readFact 53 = .ok (.bipush 20, 2) := by decide +kernel
theorem dX3_readFact_55 : decode cX3_readFact 55 = .ok (.if_icmp .lt 8, 3) := by decide +kernel
theorem dX3_readFact_58 : decode cX3_readFact 58 = .ok (.aload_n 0, 1) := by decide +kernel
theorem dX3_readFact_59 : decode cX3_readFact 59 = .ok (.invokevirtual 45, 3) := by decide +kernel
theorem dX3_readFact_62 : decode cX3_readFact 62 = .ok (.ireturn, 1) := by decide +kernel
theorem dX3_readFact_63 : decode cX3_readFact 63 = .ok (.aload_n 0, 1) := by decide +kernel
theorem dX3_readFact_64 : decode cX3_readFact 64 = .ok (.getfield 38, 3) := by decide +kernel
theorem dX3_readFact_67 : decode cX3_readFact 67 = .ok (.bipush 15, 2) := by decide +kernel
theorem dX3_readFact_69 : decode cX3_readFact 69 = .ok (.isub, 1) := by decide +kernel
theorem dX3_readFact_70 : decode cX3_readFact 70 = .ok (.istore_n 1, 1) := by decide +kernel
theorem dX3_readFact_71 : decode cX3_readFact 71 = .ok (.aload_n 0, 1) := by decide +kernel
theorem dX3_readFact_72 : decode cX3_readFact 72 = .ok (.invokevirtual 35, 3) := by decide +kernel
theorem dX3_readFact_75 : decode cX3_readFact 75 = .ok (.aload_n 0, 1) := by decide +kernel
theorem dX3_readFact_76 : decode cX3_readFact 76 = .ok (.getfield 38, 3) := by decide +kernel
theorem dX3_readFact_79 : decode cX3_readFact 79 = .ok (.sipush 160, 3) := by decide +kernel
theorem dX3_readFact_82 : decode cX3_readFact 82 = .ok (.if_icmp .ne 7, 3) := by decide +kernel
theorem dX3_readFact_85 : decode cX3_readFact 85 = .ok (.iconst 1, 1) := by decide +kernel
theorem dX3_readFact_86 : decode cX3_readFact 86 = .ok (.goto 4, 3) := by decide +kernel
theorem dX3_readFact_89 : decode cX3_readFact 89 = .ok (.iconst 0, 1) := by decide +kernel
theorem dX3_readFact_90 : decode cX3_readFact 90 = .ok (.istore_n 2, 1) := by decide +kernel
theorem dX3_readFact_91 : decode cX3_readFact 91 = .ok (.iload_n 2, 1) := by decide +kernel
theorem dX3_readFact_92 : decode cX3_readFact 92 = .ok (.ifCond .ne 18, 3) := by decide +kernel
theorem dX3_readFact_95 : decode cX3_readFact 95 = .ok (.aload_n 0, 1) := by decide +kernel
theorem dX3_readFact_96 : decode cX3_readFact 96 = .ok (.getfield 38, 3) := by decide +kernel
theorem dX3_readFact_99 : decode cX3_readFact 99 = .ok (.sipush 162, 3) := by decide +kernel
theorem dX3_readFact_102 : decode cX3_readFact 102 = .ok (.if_icmp .eq 8, 3) := by decide +kernel
theorem dX3_readFact_105 : decode cX3_readFact 105 = .ok (.aload_n 0, 1) := by decide +kernel
theorem dX3_readFact_106 : decode cX3_readFact 106 = .ok (.invokevirtual 45, 3) := by decide +kernel
theorem dX3_readFact_109 : decode cX3_readFact 109 = .ok (.ireturn, 1) := by decide +kernel
theorem dX3_readFact_110 : decode cX3_readFact 110 = .ok (.aload_n 0, 1) := by decide +kernel
theorem dX3_readFact_111 : decode cX3_readFact 111 = .ok (.invokevirtual 35, 3) := by decide +kernel
theorem dX3_readFact_114 : decode cX3_readFact 114 = .ok (.aload_n 0, 1) := by decide +kernel
theorem dX3_readFact_115 : decode cX3_readFact 115 = .ok (.getfield 38, 3) := by decide +kernel
theorem dX3_readFact_118 : decode cX3_readFact 118 = .ok (.bipush 20, 2) := by decide +kernel
theorem dX3_readFact_120 : decode cX3_readFact 120 = .ok (.if_icmp .ne 13, 3) := by decide +kernel
theorem dX3_readFact_123 : decode cX3_readFact 123 = .ok (.aload_n 0, 1) := by decide +kernel
theorem dX3_readFact_124 : decode cX3_readFact 124 = .ok (.getfield 48, 3) := by decide +kernel
theorem dX3_readFact_127 : decode cX3_readFact 127 = .ok (.sipush 9999, 3) := by decide +kernel
theorem dX3_readFact_130 : decode cX3_readFact 130 = .ok (.if_icmp .le 8, 3) := by decide +kernel
theorem dX3_readFact_133 : decode cX3_readFact 133 = .ok (.aload_n 0, 1) := by decide +kernel
theorem dX3_readFact_134 : decode cX3_readFact 134 = .ok (.invokevirtual 45, 3) := by decide +kernel
theorem dX3_readFact_137 : decode cX3_readFact 137 = .ok (.ireturn, 1) := by decide +kernel
theorem dX3_readFact_138 : decode cX3_readFact 138 = .ok (.aload_n 0, 1) := by decide +kernel
theorem dX3_readFact_139 : decode cX3_readFact 139 = .ok (.getfield 12, 3) := by decide +kernel
theorem dX3_readFact_142 : decode cX3_readFact 142 = .ok (.iload_n 2, 1) := by decide +kernel
theorem dX3_readFact_143 : decode cX3_readFact 143 = .ok (.ifCond .eq 7, 3) := by decide +kernel
theorem dX3_readFact_146 : decode cX3_readFact 146 = .ok (.iconst 1, 1) := by decide +kernel
theorem dX3_readFact_147 : decode cX3_readFact 147 = .ok (.goto 4, 3) := by decide +kernel
theorem dX3_readFact_150 : decode cX3_readFact 150 = .ok (.iconst 2, 1) := by decide +kernel
theorem dX3_readFact_151 : decode cX3_readFact 151 = .ok (.iload_n 1, 1) := by decide +kernel
theorem dX3_readFact_152 : decode cX3_readFact 152 = .ok (.aload_n 0, 1) := by decide +kernel
theorem dX3_readFact_153 : decode cX3_readFact 153 = .ok (.getfield 48, 3) := by decide +kernel
theorem dX3_readFact_156 : decode cX3_readFact 156 = .ok (.invokevirtual 62, 3) := by decide +kernel
theorem dX3_readFact_159 : decode cX3_readFact 159 = .ok (.aload_n 0, 1) := by decide +kernel
theorem dX3_readFact_160 : decode cX3_readFact 160 = .ok (.invokevirtual 35, 3) := by decide +kernel
theorem dX3_readFact_163 : decode cX3_readFact 163 = .ok (.iconst 1, 1) := by decide +kernel
theorem dX3_readFact_164 : decode cX3_readFact 164 = .ok (.ireturn, 1) := by decide +kernel
theorem dX3_fail_0 : decode cX3_fail 0 = .ok (.aload_n 0, 1) := by decide +kernel
theorem dX3_fail_1 : decode cX3_fail 1 = .ok (.aload_n 0, 1) := by decide +kernel
theorem dX3_fail_2 : decode cX3_fail 2 = .ok (.getfield 69, 3) := by decide +kernel
theorem dX3_fail_5 : decode cX3_fail 5 = .ok (.putfield 22, 3) := by decide +kernel
theorem dX3_fail_8 : decode cX3_fail 8 = .ok (.iconst 0, 1) := by decide +kernel
theorem dX3_fail_9 : decode cX3_fail 9 = .ok (.ireturn, 1) := by decide +kernel
theorem dX3_next_0 : decode cX3_next 0 = .ok (.aload_n 0, 1) := by decide +kernel
theorem dX3_next_1 : decode cX3_next 1 = .ok (.getfield 32, 3) := by decide +kernel
theorem dX3_next_4 : decode cX3_next 4 = .ok (.aload_n 0, 1) := by decide +kernel
theorem dX3_next_5 : decode cX3_next 5 = .ok (.getfield 26, 3) := by decide +kernel
theorem dX3_next_8 : decode cX3_next 8 = .ok (.if_icmp .ge 30, 3) := by decide +kernel
theorem dX3_next_11 : decode cX3_next 11 = .ok (.aload_n 0, 1) := by decide +kernel
theorem dX3_next_12 : decode cX3_next 12 = .ok (.getfield 18, 3) := by decide +kernel
theorem dX3_next_15 : decode cX3_next 15 = .ok (.aload_n 0, 1) := by decide +kernel
theorem dX3_next_16 : decode cX3_next 16 = .ok (.getfield 32, 3) := by decide +kernel
theorem dX3_next_19 : decode cX3_next 19 = .ok (.baload, 1) := by decide +kernel
theorem dX3_next_20 : decode cX3_next 20 = .ok (.bipush 32, 2) := by decide +kernel
theorem dX3_next_22 : decode cX3_next 22 = .ok (.if_icmp .ne 16, 3) := by decide +kernel
theorem dX3_next_25 : decode cX3_next 25 = .ok (.aload_n 0, 1) := by decide +kernel
theorem dX3_next_26 : decode cX3_next 26 = .ok (.dup, 1) := by decide +kernel
theorem dX3_next_27 : decode cX3_next 27 = .ok (.getfield 32, 3) := by decide +kernel
theorem dX3_next_30 : decode cX3_next 30 = .ok (.iconst 1, 1) := by decide +kernel
theorem dX3_next_31 : decode cX3_next 31 = .ok (.iadd, 1) := by decide +kernel
theorem dX3_next_32 : decode cX3_next 32 = .ok (.putfield 32, 3) := by decide +kernel
theorem dX3_next_35 : decode cX3_next 35 = .ok (.goto (-35), 3) := by decide +kernel
theorem dX3_next_38 : decode cX3_next 38 = .ok (.aload_n 0, 1) := by decide +kernel
theorem dX3_next_39 : decode cX3_next 39 = .ok (.aload_n 0, 1) := by decide +kernel
theorem dX3_next_40 : decode cX3_next 40 = .ok (.getfield 32, 3) := by decide +kernel
theorem dX3_next_43 : decode cX3_next 43 = .ok (.putfield 69, 3) := by decide +kernel
theorem dX3_next_46 : decode cX3_next 46 = .ok (.aload_n 0, 1) := by decide +kernel
theorem dX3_next_47 : decode cX3_next 47 = .ok (.getfield 32, 3) := by decide +kernel
theorem dX3_next_50 : decode cX3_next 50 = .ok (.aload_n 0, 1) := by decide +kernel
theorem dX3_next_51 : decode cX3_next 51 = .ok (.getfield 26, 3) := by decide +kernel
theorem dX3_next_54 : decode cX3_next 54 = .ok (.if_icmp .lt 10, 3) := by decide +kernel
theorem dX3_next_57 : decode cX3_next 57 = .ok (.aload_n 0, 1) := by decide +kernel
theorem dX3_next_58 : decode cX3_next 58 = .ok (.bipush 21, 2) := by decide +kernel
theorem dX3_next_60 : decode cX3_next 60 = .ok (.putfield 38, 3) := by decide +kernel
theorem dX3_next_63 : decode cX3_next 63 = .ok (.return_, 1) := by decide +kernel
theorem dX3_next_64 : decode cX3_next 64 = .ok (.aload_n 0, 1) := by decide +kernel
theorem dX3_next_65 : decode cX3_next 65 = .ok (.iconst 0, 1) := by decide +kernel
theorem dX3_next_66 : decode cX3_next 66 = .ok (.putfield 48, 3) := by decide +kernel
theorem dX3_next_69 : decode cX3_next 69 = .ok (.aload_n 0, 1) := by decide +kernel
theorem dX3_next_70 : decode cX3_next 70 = .ok (.getfield 32, 3) := by decide +kernel
theorem dX3_next_73 : decode cX3_next 73 = .ok (.aload_n 0, 1) := by decide +kernel
theorem dX3_next_74 : decode cX3_next 74 = .ok (.getfield 26, 3) := by decide +kernel
theorem dX3_next_77 : decode cX3_next 77 = .ok (.if_icmp .ge 87, 3) := by decide +kernel
theorem dX3_next_80 : decode cX3_next 80 = .ok (.aload_n 0, 1) := by decide +kernel
theorem dX3_next_81 : decode cX3_next 81 = .ok (.getfield 18, 3) := by decide +kernel
theorem dX3_next_84 : decode cX3_next 84 = .ok (.aload_n 0, 1) := by decide +kernel
theorem dX3_next_85 : decode cX3_next 85 = .ok (.getfield 32, 3) := by decide +kernel
theorem dX3_next_88 : decode cX3_next 88 = .ok (.baload, 1) := by decide +kernel
theorem dX3_next_89 : decode cX3_next 89 = .ok (.bipush 48, 2) := by decide +kernel
theorem dX3_next_91 : decode cX3_next 91 = .ok (.if_icmp .lt 73, 3) := by decide +kernel
theorem dX3_next_94 : decode cX3_next 94 = .ok (.aload_n 0, 1) := by decide +kernel
theorem dX3_next_95 : decode cX3_next 95 = .ok (.getfield 18, 3) := by decide +kernel
theorem dX3_next_98 : decode cX3_next 98 = .ok (.aload_n 0, 1) := by decide +kernel
theorem dX3_next_99 : decode cX3_next 99 = .ok (.getfield 32, 3) := by decide +kernel
theorem dX3_next_102 : decode cX3_next 102 = .ok (.baload, 1) := by decide +kernel
theorem dX3_next_103 : decode cX3_next 103 = .ok (.bipush 57, 2) := by decide +kernel
theorem dX3_next_105 : decode cX3_next 105 = .ok (.if_icmp .gt 59, 3) := by decide +kernel
theorem dX3_next_108 : decode cX3_next 108 = .ok (.aload_n 0, 1) := by decide +kernel
theorem dX3_next_109 : decode cX3_next 109 = .ok (.aload_n 0, 1) := by decide +kernel
theorem dX3_next_110 : decode cX3_next 110 = .ok (.getfield 32, 3) := by decide +kernel
theorem dX3_next_113 : decode cX3_next 113 = .ok (.aload_n 0, 1) := by decide +kernel
theorem dX3_next_114 : decode cX3_next 114 = .ok (.getfield 69, 3) := by decide +kernel
theorem dX3_next_117 : decode cX3_next 117 = .ok (.isub, 1) := by decide +kernel
theorem dX3_next_118 : decode cX3_next 118 = .ok (.iconst 4, 1) := by decide +kernel
theorem dX3_next_119 : decode cX3_next 119 = .ok (.if_icmp .ge 26, 3) := by decide +kernel
theorem dX3_next_122 : decode cX3_next 122 = .ok (.bipush 10, 2) := by decide +kernel
theorem dX3_next_124 : decode cX3_next 124 = .ok (.aload_n 0, 1) := by decide +kernel
theorem dX3_next_125 : decode cX3_next 125 = .ok (.getfield 48, 3) := by decide +kernel
theorem dX3_next_128 : decode cX3_next 128 = .ok (.imul, 1) := by decide +kernel
theorem dX3_next_129 : decode cX3_next 129 = .ok (.aload_n 0, 1) := by decide +kernel
theorem dX3_next_130 : decode cX3_next 130 = .ok (.getfield 18, 3) := by decide +kernel
theorem dX3_next_133 : decode cX3_next 133 = .ok (.aload_n 0, 1) := by decide +kernel
theorem dX3_next_134 : decode cX3_next 134 = .ok (.getfield 32, 3) := by decide +kernel
theorem dX3_next_137 : decode cX3_next 137 = .ok (.baload, 1) := by decide +kernel
theorem dX3_next_138 : decode cX3_next 138 = .ok (.iadd, 1) := by decide +kernel
theorem dX3_next_139 : decode cX3_next 139 = .ok (.bipush 48, 2) := by decide +kernel
theorem dX3_next_141 : decode cX3_next 141 = .ok (.isub, 1) := by decide +kernel
theorem dX3_next_142 : decode cX3_next 142 = .ok (.goto 6, 3) := by decide +kernel
theorem dX3_next_145 : decode cX3_next 145 = .ok (.sipush 10000, 3) := by decide +kernel
theorem dX3_next_148 : decode cX3_next 148 = .ok (.putfield 48, 3) := by decide +kernel
theorem dX3_next_151 : decode cX3_next 151 = .ok (.aload_n 0, 1) := by decide +kernel
theorem dX3_next_152 : decode cX3_next 152 = .ok (.dup, 1) := by decide +kernel
theorem dX3_next_153 : decode cX3_next 153 = .ok (.getfield 32, 3) := by decide +kernel
theorem dX3_next_156 : decode cX3_next 156 = .ok (.iconst 1, 1) := by decide +kernel
theorem dX3_next_157 : decode cX3_next 157 = .ok (.iadd, 1) := by decide +kernel
theorem dX3_next_158 : decode cX3_next 158 = .ok (.putfield 32, 3) := by decide +kernel
theorem dX3_next_161 : decode cX3_next 161 = .ok (.goto (-92), 3) := by decide +kernel
theorem dX3_next_164 : decode cX3_next 164 = .ok (.aload_n 0, 1) := by decide +kernel
theorem dX3_next_165 : decode cX3_next 165 = .ok (.getfield 32, 3) := by decide +kernel
theorem dX3_next_168 : decode cX3_next 168 = .ok (.aload_n 0, 1) := by decide +kernel
theorem dX3_next_169 : decode cX3_next 169 = .ok (.getfield 69, 3) := by decide +kernel
theorem dX3_next_172 : decode cX3_next 172 = .ok (.if_icmp .le 10, 3) := by decide +kernel
theorem dX3_next_175 : decode cX3_next 175 = .ok (.aload_n 0, 1) := by decide +kernel
theorem dX3_next_176 : decode cX3_next 176 = .ok (.bipush 20, 2) := by decide +kernel
theorem dX3_next_178 : decode cX3_next 178 = .ok (.putfield 38, 3) := by decide +kernel
theorem dX3_next_181 : decode cX3_next 181 = .ok (.return_, 1) := by decide +kernel
theorem dX3_next_182 : decode cX3_next 182 = .ok (.aload_n 0, 1) := by decide +kernel
theorem dX3_next_183 : decode cX3_next 183 = .ok (.getfield 32, 3) := by decide +kernel
theorem dX3_next_186 : decode cX3_next 186 = .ok (.aload_n 0, 1) := by decide +kernel
theorem dX3_next_187 : decode cX3_next 187 = .ok (.getfield 26, 3) := by decide +kernel
theorem dX3_next_190 : decode cX3_next 190 = .ok (.if_icmp .ge 44, 3) := by decide +kernel
theorem dX3_next_193 : decode cX3_next 193 = .ok (.aload_n 0, 1) := by decide +kernel
theorem dX3_next_194 : decode cX3_next 194 = .ok (.getfield 18, 3) := by decide +kernel
theorem dX3_next_197 : decode cX3_next 197 = .ok (.aload_n 0, 1) := by decide +kernel
theorem dX3_next_198 : decode cX3_next 198 = .ok (.getfield 32, 3) := by decide +kernel
theorem dX3_next_201 : decode cX3_next 201 = .ok (.baload, 1) := by decide +kernel
theorem dX3_next_202 : decode cX3_next 202 = .ok (.bipush 97, 2) := by decide +kernel
theorem dX3_next_204 : decode cX3_next 204 = .ok (.if_icmp .lt 30, 3) := by decide +kernel
theorem dX3_next_207 : decode cX3_next 207 = .ok (.aload_n 0, 1) := by decide +kernel
theorem dX3_next_208 : decode cX3_next 208 = .ok (.getfield 18, 3) := by decide +kernel
theorem dX3_next_211 : decode cX3_next 211 = .ok (.aload_n 0, 1) := by decide +kernel
theorem dX3_next_212 : decode cX3_next 212 = .ok (.getfield 32, 3) := by decide +kernel
theorem dX3_next_215 : decode cX3_next 215 = .ok (.baload, 1) := by decide +kernel
theorem dX3_next_216 : decode cX3_next 216 = .ok (.bipush 122, 2) := by decide +kernel
theorem dX3_next_218 : decode cX3_next 218 = .ok (.if_icmp .gt 16, 3) := by decide +kernel
theorem dX3_next_221 : decode cX3_next 221 = .ok (.aload_n 0, 1) := by decide +kernel
theorem dX3_next_222 : decode cX3_next 222 = .ok (.dup, 1) := by decide +kernel
theorem dX3_next_223 : decode cX3_next 223 = .ok (.getfield 32, 3) := by decide +kernel
theorem dX3_next_226 : decode cX3_next 226 = .ok (.iconst 1, 1) := by decide +kernel
theorem dX3_next_227 : decode cX3_next 227 = .ok (.iadd, 1) := by decide +kernel
theorem dX3_next_228 : decode cX3_next 228 = .ok (.putfield 32, 3) := by decide +kernel
theorem dX3_next_231 : decode cX3_next 231 = .ok (.goto (-49), 3) := by decide +kernel
theorem dX3_next_234 : decode cX3_next 234 = .ok (.aload_n 0, 1) := by decide +kernel
theorem dX3_next_235 : decode cX3_next 235 = .ok (.getfield 32, 3) := by decide +kernel
theorem dX3_next_238 : decode cX3_next 238 = .ok (.aload_n 0, 1) := by decide +kernel
theorem dX3_next_239 : decode cX3_next 239 = .ok (.getfield 69, 3) := by decide +kernel
theorem dX3_next_242 : decode cX3_next 242 = .ok (.if_icmp .le 12, 3) := by decide +kernel
theorem dX3_next_245 : decode cX3_next 245 = .ok (.aload_n 0, 1) := by decide +kernel
theorem dX3_next_246 : decode cX3_next 246 = .ok (.aload_n 0, 1) := by decide +kernel
theorem dX3_next_247 : decode cX3_next 247 = .ok (.invokevirtual 72, 3) := by decide +kernel
theorem dX3_next_250 : decode cX3_next 250 = .ok (.putfield 38, 3) := by decide +kernel
theorem dX3_next_253 : decode cX3_next 253 = .ok (.return_, 1) := by decide +kernel
theorem dX3_next_254 : decode cX3_next 254 = .ok (.aload_n 0, 1) := by decide +kernel
theorem dX3_next_255 : decode cX3_next 255 = .ok (.bipush 100, 2) := by decide +kernel
theorem dX3_next_257 : decode cX3_next 257 = .ok (.aload_n 0, 1) := by decide +kernel
theorem dX3_next_258 : decode cX3_next 258 = .ok (.getfield 18, 3) := by decide +kernel
theorem dX3_next_261 : decode cX3_next 261 = .ok (.aload_n 0, 1) := by decide +kernel
theorem dX3_next_262 : decode cX3_next 262 = .ok (.getfield 32, 3) := by decide +kernel
theorem dX3_next_265 : decode cX3_next 265 = .ok (.baload, 1) := by decide +kernel
theorem dX3_next_266 : decode cX3_next 266 = .ok (.sipush 255, 3) := by decide +kernel
theorem dX3_next_269 : decode cX3_next 269 = .ok (.iand, 1) := by decide +kernel
theorem dX3_next_270 : decode cX3_next 270 = .ok (.iadd, 1) := by decide +kernel
theorem dX3_next_271 : decode cX3_next 271 = .ok (.putfield 38, 3) := by decide +kernel
theorem dX3_next_274 : decode cX3_next 274 = .ok (.aload_n 0, 1) := by decide +kernel
theorem dX3_next_275 : decode cX3_next 275 = .ok (.dup, 1) := by decide +kernel
theorem dX3_next_276 : decode cX3_next 276 = .ok (.getfield 32, 3) := by decide +kernel
theorem dX3_next_279 : decode cX3_next 279 = .ok (.iconst 1, 1) := by decide +kernel
theorem dX3_next_280 : decode cX3_next 280 = .ok (.iadd, 1) := by decide +kernel
theorem dX3_next_281 : decode cX3_next 281 = .ok (.putfield 32, 3) := by decide +kernel
theorem dX3_next_284 : decode cX3_next 284 = .ok (.return_, 1) := by decide +kernel
theorem dX3_named_0 : decode cX3_named 0 = .ok (.aload_n 0, 1) := by decide +kernel
theorem dX3_named_1 : decode cX3_named 1 = .ok (.getfield 32, 3) := by decide +kernel
theorem dX3_named_4 : decode cX3_named 4 = .ok (.aload_n 0, 1) := by decide +kernel
theorem dX3_named_5 : decode cX3_named 5 = .ok (.getfield 69, 3) := by decide +kernel
theorem dX3_named_8 : decode cX3_named 8 = .ok (.isub, 1) := by decide +kernel
theorem dX3_named_9 : decode cX3_named 9 = .ok (.istore_n 1, 1) := by decide +kernel
theorem dX3_named_10 : decode cX3_named 10 = .ok (.iconst 0, 1) := by decide +kernel
theorem dX3_named_11 : decode cX3_named 11 = .ok (.istore_n 2, 1) := by decide +kernel
theorem dX3_named_12 : decode cX3_named 12 = .ok (.iload_n 2, 1) := by decide +kernel
theorem dX3_named_13 : decode cX3_named 13 = .ok (.bipush 7, 2) := by decide +kernel
theorem dX3_named_15 : decode cX3_named 15 = .ok (.iadd, 1) := by decide +kernel
theorem dX3_named_16 : decode cX3_named 16 = .ok (.ldc 76, 2) := by decide +kernel
theorem dX3_named_18 : decode cX3_named 18 = .ok (.invokevirtual 78, 3) := by decide +kernel
theorem dX3_named_21 : decode cX3_named 21 = .ok (.if_icmp .gt 73, 3) := by decide +kernel
theorem dX3_named_24 : decode cX3_named 24 = .ok (.iload_n 1, 1) := by decide +kernel
theorem dX3_named_25 : decode cX3_named 25 = .ok (.bipush 7, 2) := by decide +kernel
theorem dX3_named_27 : decode cX3_named 27 = .ok (.if_icmp .ge 67, 3) := by decide +kernel
theorem dX3_named_30 : decode cX3_named 30 = .ok (.iconst 0, 1) := by decide +kernel
theorem dX3_named_31 : decode cX3_named 31 = .ok (.istore_n 3, 1) := by decide +kernel
theorem dX3_named_32 : decode cX3_named 32 = .ok (.iload_n 3, 1) := by decide +kernel
theorem dX3_named_33 : decode cX3_named 33 = .ok (.iload_n 1, 1) := by decide +kernel
theorem dX3_named_34 : decode cX3_named 34 = .ok (.if_icmp .ge 31, 3) := by decide +kernel
theorem dX3_named_37 : decode cX3_named 37 = .ok (.ldc 76, 2) := by decide +kernel
theorem dX3_named_39 : decode cX3_named 39 = .ok (.iload_n 2, 1) := by decide +kernel
theorem dX3_named_40 : decode cX3_named 40 = .ok (.iload_n 3, 1) := by decide +kernel
theorem dX3_named_41 : decode cX3_named 41 = .ok (.iadd, 1) := by decide +kernel
theorem dX3_named_42 : decode cX3_named 42 = .ok (.invokevirtual 82, 3) := by decide +kernel
theorem dX3_named_45 : decode cX3_named 45 = .ok (.aload_n 0, 1) := by decide +kernel
theorem dX3_named_46 : decode cX3_named 46 = .ok (.getfield 18, 3) := by decide +kernel
theorem dX3_named_49 : decode cX3_named 49 = .ok (.aload_n 0, 1) := by decide +kernel
theorem dX3_named_50 : decode cX3_named 50 = .ok (.getfield 69, 3) := by decide +kernel
theorem dX3_named_53 : decode cX3_named 53 = .ok (.iload_n 3, 1) := by decide +kernel
theorem dX3_named_54 : decode cX3_named 54 = .ok (.iadd, 1) := by decide +kernel
theorem dX3_named_55 : decode cX3_named 55 = .ok (.baload, 1) := by decide +kernel
theorem dX3_named_56 : decode cX3_named 56 = .ok (.if_icmp .ne 9, 3) := by decide +kernel
theorem dX3_named_59 : decode cX3_named 59 = .ok (.iinc 3 1, 3) := by decide +kernel
theorem dX3_named_62 : decode cX3_named 62 = .ok (.goto (-30), 3) := by decide +kernel
theorem dX3_named_65 : decode cX3_named 65 = .ok (.iload_n 3, 1) := by decide +kernel
theorem dX3_named_66 : decode cX3_named 66 = .ok (.iload_n 1, 1) := by decide +kernel
theorem dX3_named_67 : decode cX3_named 67 = .ok (.if_icmp .ne 21, 3) := by decide +kernel
theorem dX3_named_70 : decode cX3_named 70 = .ok (.ldc 76, 2) := by decide +kernel
theorem dX3_named_72 : decode cX3_named 72 = .ok (.iload_n 2, 1) := by decide +kernel
theorem dX3_named_73 : decode cX3_named 73 = .ok (.iload_n 3, 1) := by decide +kernel
theorem dX3_named_74 : decode cX3_named 74 = .ok (.iadd, 1) := by decide +kernel
theorem dX3_named_75 : decode cX3_named 75 = .ok (.invokevirtual 82, 3) := by decide +kernel
theorem dX3_named_78 : decode cX3_named 78 = .ok (.bipush 32, 2) := by decide +kernel
theorem dX3_named_80 : decode cX3_named 80 = .ok (.if_icmp .ne 8, 3) := by decide +kernel
theorem dX3_named_83 : decode cX3_named 83 = .ok (.iload_n 2, 1) := by decide +kernel
theorem dX3_named_84 : decode cX3_named 84 = .ok (.bipush 7, 2) := by decide +kernel
theorem dX3_named_86 : decode cX3_named 86 = .ok (.idiv, 1) := by decide +kernel
theorem dX3_named_87 : decode cX3_named 87 = .ok (.ireturn, 1) := by decide +kernel
theorem dX3_named_88 : decode cX3_named 88 = .ok (.iinc 2 7, 3) := by decide +kernel
theorem dX3_named_91 : decode cX3_named 91 = .ok (.goto (-79), 3) := by decide +kernel
theorem dX3_named_94 : decode cX3_named 94 = .ok (.bipush 22, 2) := by decide +kernel
theorem dX3_named_96 : decode cX3_named 96 = .ok (.ireturn, 1) := by decide +kernel
theorem dX4_init_0 : decode cX4_init 0 = .ok (.aload_n 0, 1) := by decide +kernel
theorem dX4_init_1 : decode cX4_init 1 = .ok (.invokespecial 3, 3) := by decide +kernel
theorem dX4_init_4 : decode cX4_init 4 = .ok (.aload_n 0, 1) := by decide +kernel
theorem dX4_init_5 : decode cX4_init 5 = .ok (.bipush 8, 2) := by decide +kernel
theorem dX4_init_7 : decode cX4_init 7 = .ok (.newarray .int, 2) := by decide +kernel
theorem dX4_init_9 : decode cX4_init 9 = .ok (.putfield 11, 3) := by decide +kernel
theorem dX4_init_12 : decode cX4_init 12 = .ok (.aload_n 0, 1) := by decide +kernel
theorem dX4_init_13 : decode cX4_init 13 = .ok (.bipush 8, 2) := by decide +kernel
theorem dX4_init_15 : decode cX4_init 15 = .ok (.newarray .int, 2) := by decide +kernel
theorem dX4_init_17 : decode cX4_init 17 = .ok (.putfield 15, 3) := by decide +kernel
theorem dX4_init_20 : decode cX4_init 20 = .ok (.return_, 1) := by decide +kernel
theorem dX4_become_0 : decode cX4_become 0 = .ok (.aload_n 1, 1) := by decide +kernel
theorem dX4_become_1 : decode cX4_become 1 = .ok (.getfield 11, 3) := by decide +kernel
theorem dX4_become_4 : decode cX4_become 4 = .ok (.aload_n 0, 1) := by decide +kernel
theorem dX4_become_5 : decode cX4_become 5 = .ok (.getfield 11, 3) := by decide +kernel
theorem dX4_become_8 : decode cX4_become 8 = .ok (.invokestatic 18, 3) := by decide +kernel
theorem dX4_become_11 : decode cX4_become 11 = .ok (.aload_n 1, 1) := by decide +kernel
theorem dX4_become_12 : decode cX4_become 12 = .ok (.getfield 15, 3) := by decide +kernel
theorem dX4_become_15 : decode cX4_become 15 = .ok (.aload_n 0, 1) := by decide +kernel
theorem dX4_become_16 : decode cX4_become 16 = .ok (.getfield 15, 3) := by decide +kernel
theorem dX4_become_19 : decode cX4_become 19 = .ok (.invokestatic 18, 3) := by decide +kernel
theorem dX4_become_22 : decode cX4_become 22 = .ok (.aload_n 0, 1) := by decide +kernel
theorem dX4_become_23 : decode cX4_become 23 = .ok (.aload_n 1, 1) := by decide +kernel
theorem dX4_become_24 : decode cX4_become 24 = .ok (.getfield 22, 3) := by decide +kernel
theorem dX4_become_27 : decode cX4_become 27 = .ok (.putfield 22, 3) := by decide +kernel
theorem dX4_become_30 : decode cX4_become 30 = .ok (.return_, 1) := by decide +kernel
theorem dX4_add_0 : decode cX4_add 0 = .ok (.aload_n 0, 1) := by decide +kernel
theorem dX4_add_1 : decode cX4_add 1 = .ok (.getfield 22, 3) := by decide +kernel
theorem dX4_add_4 : decode cX4_add 4 = .ok (.bipush 8, 2) := by decide +kernel
theorem dX4_add_6 : decode cX4_add 6 = .ok (.if_icmp .lt 39, 3) := by decide +kernel
theorem dX4_add_9 : decode cX4_add 9 = .ok (.aload_n 0, 1) := by decide +kernel
theorem dX4_add_10 : decode cX4_add 10 = .ok (.getfield 11, 3) := by decide +kernel
theorem dX4_add_13 : decode cX4_add 13 = .ok (.iconst 1, 1) := by decide +kernel
theorem dX4_add_14 : decode cX4_add 14 = .ok (.aload_n 0, 1) := by decide +kernel
theorem dX4_add_15 : decode cX4_add 15 = .ok (.getfield 11, 3) := by decide +kernel
theorem dX4_add_18 : decode cX4_add 18 = .ok (.iconst 0, 1) := by decide +kernel
theorem dX4_add_19 : decode cX4_add 19 = .ok (.bipush 7, 2) := by decide +kernel
theorem dX4_add_21 : decode cX4_add 21 = .ok (.invokestatic 26, 3) := by decide +kernel
theorem dX4_add_24 : decode cX4_add 24 = .ok (.aload_n 0, 1) := by decide +kernel
theorem dX4_add_25 : decode cX4_add 25 = .ok (.getfield 15, 3) := by decide +kernel
theorem dX4_add_28 : decode cX4_add 28 = .ok (.iconst 1, 1) := by decide +kernel
theorem dX4_add_29 : decode cX4_add 29 = .ok (.aload_n 0, 1) := by decide +kernel
theorem dX4_add_30 : decode cX4_add 30 = .ok (.getfield 15, 3) := by decide +kernel
theorem dX4_add_33 : decode cX4_add 33 = .ok (.iconst 0, 1) := by decide +kernel
theorem dX4_add_34 : decode cX4_add 34 = .ok (.bipush 7, 2) := by decide +kernel
theorem dX4_add_36 : decode cX4_add 36 = .ok (.invokestatic 26, 3) := by decide +kernel
theorem dX4_add_39 : decode cX4_add 39 = .ok (.aload_n 0, 1) := by decide +kernel
theorem dX4_add_40 : decode cX4_add 40 = .ok (.bipush 7, 2) := by decide +kernel
theorem dX4_add_42 : decode cX4_add 42 = .ok (.putfield 22, 3) := by decide +kernel
theorem dX4_add_45 : decode cX4_add 45 = .ok (.aload_n 0, 1) := by decide +kernel
theorem dX4_add_46 : decode cX4_add 46 = .ok (.getfield 11, 3) := by decide +kernel
theorem dX4_add_49 : decode cX4_add 49 = .ok (.aload_n 0, 1) := by decide +kernel
theorem dX4_add_50 : decode cX4_add 50 = .ok (.getfield 22, 3) := by decide +kernel
theorem dX4_add_53 : decode cX4_add 53 = .ok (.iload_n 1, 1) := by decide +kernel
theorem dX4_add_54 : decode cX4_add 54 = .ok (.iastore, 1) := by decide +kernel
theorem dX4_add_55 : decode cX4_add 55 = .ok (.aload_n 0, 1) := by decide +kernel
theorem dX4_add_56 : decode cX4_add 56 = .ok (.getfield 15, 3) := by decide +kernel
theorem dX4_add_59 : decode cX4_add 59 = .ok (.aload_n 0, 1) := by decide +kernel
theorem dX4_add_60 : decode cX4_add 60 = .ok (.getfield 22, 3) := by decide +kernel
theorem dX4_add_63 : decode cX4_add 63 = .ok (.iload_n 1, 1) := by decide +kernel
theorem dX4_add_64 : decode cX4_add 64 = .ok (.iastore, 1) := by decide +kernel
theorem dX4_add_65 : decode cX4_add 65 = .ok (.aload_n 0, 1) := by decide +kernel
theorem dX4_add_66 : decode cX4_add 66 = .ok (.dup, 1) := by decide +kernel
theorem dX4_add_67 : decode cX4_add 67 = .ok (.getfield 22, 3) := by decide +kernel
theorem dX4_add_70 : decode cX4_add 70 = .ok (.iconst 1, 1) := by decide +kernel
theorem dX4_add_71 : decode cX4_add 71 = .ok (.iadd, 1) := by decide +kernel
theorem dX4_add_72 : decode cX4_add 72 = .ok (.putfield 22, 3) := by decide +kernel
theorem dX4_add_75 : decode cX4_add 75 = .ok (.return_, 1) := by decide +kernel
theorem dX4_firstTorn_0 : decode cX4_firstTorn 0 = .ok (.iconst 0, 1) := by decide +kernel
theorem dX4_firstTorn_1 : decode cX4_firstTorn 1 = .ok (.istore_n 1, 1) := by decide +kernel
theorem dX4_firstTorn_2 : decode cX4_firstTorn 2 = .ok (.iload_n 1, 1) := by decide +kernel
theorem dX4_firstTorn_3 : decode cX4_firstTorn 3 = .ok (.aload_n 0, 1) := by decide +kernel
theorem dX4_firstTorn_4 : decode cX4_firstTorn 4 = .ok (.getfield 22, 3) := by decide +kernel
theorem dX4_firstTorn_7 : decode cX4_firstTorn 7 = .ok (.if_icmp .ge 26, 3) := by decide +kernel
theorem dX4_firstTorn_10 : decode cX4_firstTorn 10 = .ok (.aload_n 0, 1) := by decide +kernel
theorem dX4_firstTorn_11 : decode cX4_firstTorn 11 = .ok (.getfield 11, 3) := by decide +kernel
theorem dX4_firstTorn_14 : decode cX4_firstTorn 14 = .ok (.iload_n 1, 1) := by decide +kernel
theorem dX4_firstTorn_15 : decode cX4_firstTorn 15 = .ok (.iaload, 1) := by decide +kernel
theorem dX4_firstTorn_16 : decode cX4_firstTorn 16 = .ok (.aload_n 0, 1) := by decide +kernel
theorem dX4_firstTorn_17 : decode cX4_firstTorn 17 = .ok (.getfield 15, 3) := by decide +kernel
theorem dX4_firstTorn_20 : decode cX4_firstTorn 20 = .ok (.iload_n 1, 1) := by decide +kernel
theorem dX4_firstTorn_21 : decode cX4_firstTorn 21 = .ok (.iaload, 1) := by decide +kernel
theorem dX4_firstTorn_22 : decode cX4_firstTorn 22 = .ok (.if_icmp .eq 5, 3) := by decide +kernel
theorem dX4_firstTorn_25 : decode cX4_firstTorn 25 = .ok (.iload_n 1, 1) := by decide +kernel
theorem dX4_firstTorn_26 : decode cX4_firstTorn 26 = .ok (.ireturn, 1) := by decide +kernel
theorem dX4_firstTorn_27 : decode cX4_firstTorn 27 = .ok (.iinc 1 1, 3) := by decide +kernel
theorem dX4_firstTorn_30 : decode cX4_firstTorn 30 = .ok (.goto (-28), 3) := by decide +kernel
theorem dX4_firstTorn_33 : decode cX4_firstTorn 33 = .ok (.iconst (-1), 1) := by decide +kernel
theorem dX4_firstTorn_34 : decode cX4_firstTorn 34 = .ok (.ireturn, 1) := by decide +kernel
theorem dX5_init_0 : decode cX5_init 0 = .ok (.aload_n 0, 1) := by decide +kernel
theorem dX5_init_1 : decode cX5_init 1 = .ok (.invokespecial 1, 3) := by decide +kernel
theorem dX5_init_4 : decode cX5_init 4 = .ok (.aload_n 0, 1) := by decide +kernel
theorem dX5_init_5 : decode cX5_init 5 = .ok (.bipush 10, 2) := by decide +kernel
theorem dX5_init_7 : decode cX5_init 7 = .ok (.newarray .int, 2) := by decide +kernel
theorem dX5_init_9 : decode cX5_init 9 = .ok (.putfield 9, 3) := by decide +kernel
theorem dX5_init_12 : decode cX5_init 12 = .ok (.aload_n 0, 1) := by decide +kernel
theorem dX5_init_13 : decode cX5_init 13 = .ok (.bipush 10, 2) := by decide +kernel
theorem dX5_init_15 : decode cX5_init 15 = .ok (.newarray .int, 2) := by decide +kernel
theorem dX5_init_17 : decode cX5_init 17 = .ok (.putfield 13, 3) := by decide +kernel
theorem dX5_init_20 : decode cX5_init 20 = .ok (.aload_n 0, 1) := by decide +kernel
theorem dX5_init_21 : decode cX5_init 21 = .ok (.bipush 11, 2) := by decide +kernel
theorem dX5_init_23 : decode cX5_init 23 = .ok (.newarray .int, 2) := by decide +kernel
theorem dX5_init_25 : decode cX5_init 25 = .ok (.putfield 16, 3) := by decide +kernel
theorem dX5_init_28 : decode cX5_init 28 = .ok (.aload_n 0, 1) := by decide +kernel
theorem dX5_init_29 : decode cX5_init 29 = .ok (.sipush 200, 3) := by decide +kernel
theorem dX5_init_32 : decode cX5_init 32 = .ok (.newarray .int, 2) := by decide +kernel
theorem dX5_init_34 : decode cX5_init 34 = .ok (.putfield 19, 3) := by decide +kernel
theorem dX5_init_37 : decode cX5_init 37 = .ok (.aload_n 0, 1) := by decide +kernel
theorem dX5_init_38 : decode cX5_init 38 = .ok (.iconst 5, 1) := by decide +kernel
theorem dX5_init_39 : decode cX5_init 39 = .ok (.newarray .int, 2) := by decide +kernel
theorem dX5_init_41 : decode cX5_init 41 = .ok (.putfield 22, 3) := by decide +kernel
theorem dX5_init_44 : decode cX5_init 44 = .ok (.return_, 1) := by decide +kernel
theorem dX5_clear_0 : decode cX5_clear 0 = .ok (.aload_n 0, 1) := by decide +kernel
theorem dX5_clear_1 : decode cX5_clear 1 = .ok (.iconst 0, 1) := by decide +kernel
theorem dX5_clear_2 : decode cX5_clear 2 = .ok (.putfield 25, 3) := by decide +kernel
theorem dX5_clear_5 : decode cX5_clear 5 = .ok (.aload_n 0, 1) := by decide +kernel
theorem dX5_clear_6 : decode cX5_clear 6 = .ok (.iconst 0, 1) := by decide +kernel
theorem dX5_clear_7 : decode cX5_clear 7 = .ok (.putfield 29, 3) := by decide +kernel
theorem dX5_clear_10 : decode cX5_clear 10 = .ok (.return_, 1) := by decide +kernel
theorem dX5_become_0 : decode cX5_become 0 = .ok (.aload_n 1, 1) := by decide +kernel
theorem dX5_become_1 : decode cX5_become 1 = .ok (.getfield 9, 3) := by decide +kernel
theorem dX5_become_4 : decode cX5_become 4 = .ok (.aload_n 0, 1) := by decide +kernel
theorem dX5_become_5 : decode cX5_become 5 = .ok (.getfield 9, 3) := by decide +kernel
theorem dX5_become_8 : decode cX5_become 8 = .ok (.invokestatic 32, 3) := by decide +kernel
theorem dX5_become_11 : decode cX5_become 11 = .ok (.aload_n 1, 1) := by decide +kernel
theorem dX5_become_12 : decode cX5_become 12 = .ok (.getfield 13, 3) := by decide +kernel
theorem dX5_become_15 : decode cX5_become 15 = .ok (.aload_n 0, 1) := by decide +kernel
theorem dX5_become_16 : decode cX5_become 16 = .ok (.getfield 13, 3) := by decide +kernel
theorem dX5_become_19 : decode cX5_become 19 = .ok (.invokestatic 32, 3) := by decide +kernel
theorem dX5_become_22 : decode cX5_become 22 = .ok (.aload_n 1, 1) := by decide +kernel
theorem dX5_become_23 : decode cX5_become 23 = .ok (.getfield 16, 3) := by decide +kernel
theorem dX5_become_26 : decode cX5_become 26 = .ok (.aload_n 0, 1) := by decide +kernel
theorem dX5_become_27 : decode cX5_become 27 = .ok (.getfield 16, 3) := by decide +kernel
theorem dX5_become_30 : decode cX5_become 30 = .ok (.invokestatic 32, 3) := by decide +kernel
theorem dX5_become_33 : decode cX5_become 33 = .ok (.aload_n 1, 1) := by decide +kernel
theorem dX5_become_34 : decode cX5_become 34 = .ok (.getfield 19, 3) := by decide +kernel
theorem dX5_become_37 : decode cX5_become 37 = .ok (.aload_n 0, 1) := by decide +kernel
theorem dX5_become_38 : decode cX5_become 38 = .ok (.getfield 19, 3) := by decide +kernel
theorem dX5_become_41 : decode cX5_become 41 = .ok (.invokestatic 32, 3) := by decide +kernel
theorem dX5_become_44 : decode cX5_become 44 = .ok (.aload_n 0, 1) := by decide +kernel
theorem dX5_become_45 : decode cX5_become 45 = .ok (.aload_n 1, 1) := by decide +kernel
theorem dX5_become_46 : decode cX5_become 46 = .ok (.getfield 25, 3) := by decide +kernel
theorem dX5_become_49 : decode cX5_become 49 = .ok (.putfield 25, 3) := by decide +kernel
theorem dX5_become_52 : decode cX5_become 52 = .ok (.aload_n 0, 1) := by decide +kernel
theorem dX5_become_53 : decode cX5_become 53 = .ok (.aload_n 1, 1) := by decide +kernel
theorem dX5_become_54 : decode cX5_become 54 = .ok (.getfield 29, 3) := by decide +kernel
theorem dX5_become_57 : decode cX5_become 57 = .ok (.putfield 29, 3) := by decide +kernel
theorem dX5_become_60 : decode cX5_become 60 = .ok (.return_, 1) := by decide +kernel
theorem dX5_addLine_0 : decode cX5_addLine 0 = .ok (.aload_n 0, 1) := by decide +kernel
theorem dX5_addLine_1 : decode cX5_addLine 1 = .ok (.getfield 25, 3) := by decide +kernel
theorem dX5_addLine_4 : decode cX5_addLine 4 = .ok (.bipush 10, 2) := by decide +kernel
theorem dX5_addLine_6 : decode cX5_addLine 6 = .ok (.if_icmp .ge 46, 3) := by decide +kernel
theorem dX5_addLine_9 : decode cX5_addLine 9 = .ok (.aload_n 0, 1) := by decide +kernel
theorem dX5_addLine_10 : decode cX5_addLine 10 = .ok (.getfield 9, 3) := by decide +kernel
theorem dX5_addLine_13 : decode cX5_addLine 13 = .ok (.aload_n 0, 1) := by decide +kernel
theorem dX5_addLine_14 : decode cX5_addLine 14 = .ok (.getfield 25, 3) := by decide +kernel
theorem dX5_addLine_17 : decode cX5_addLine 17 = .ok (.iload_n 1, 1) := by decide +kernel
theorem dX5_addLine_18 : decode cX5_addLine 18 = .ok (.iastore, 1) := by decide +kernel
theorem dX5_addLine_19 : decode cX5_addLine 19 = .ok (.aload_n 0, 1) := by decide +kernel
theorem dX5_addLine_20 : decode cX5_addLine 20 = .ok (.getfield 13, 3) := by decide +kernel
theorem dX5_addLine_23 : decode cX5_addLine 23 = .ok (.aload_n 0, 1) := by decide +kernel
theorem dX5_addLine_24 : decode cX5_addLine 24 = .ok (.getfield 25, 3) := by decide +kernel
theorem dX5_addLine_27 : decode cX5_addLine 27 = .ok (.iload_n 2, 1) := by decide +kernel
theorem dX5_addLine_28 : decode cX5_addLine 28 = .ok (.iastore, 1) := by decide +kernel
theorem dX5_addLine_29 : decode cX5_addLine 29 = .ok (.aload_n 0, 1) := by decide +kernel
theorem dX5_addLine_30 : decode cX5_addLine 30 = .ok (.dup, 1) := by decide +kernel
theorem dX5_addLine_31 : decode cX5_addLine 31 = .ok (.getfield 25, 3) := by decide +kernel
theorem dX5_addLine_34 : decode cX5_addLine 34 = .ok (.iconst 1, 1) := by decide +kernel
theorem dX5_addLine_35 : decode cX5_addLine 35 = .ok (.iadd, 1) := by decide +kernel
theorem dX5_addLine_36 : decode cX5_addLine 36 = .ok (.putfield 25, 3) := by decide +kernel
theorem dX5_addLine_39 : decode cX5_addLine 39 = .ok (.aload_n 0, 1) := by decide +kernel
theorem dX5_addLine_40 : decode cX5_addLine 40 = .ok (.getfield 16, 3) := by decide +kernel
theorem dX5_addLine_43 : decode cX5_addLine 43 = .ok (.aload_n 0, 1) := by decide +kernel
theorem dX5_addLine_44 : decode cX5_addLine 44 = .ok (.getfield 25, 3) := by decide +kernel
theorem dX5_addLine_47 : decode cX5_addLine 47 = .ok (.aload_n 0, 1) := by decide +kernel
theorem dX5_addLine_48 : decode cX5_addLine 48 = .ok (.getfield 29, 3) := by decide +kernel
theorem dX5_addLine_51 : decode cX5_addLine 51 = .ok (.iastore, 1) := by decide +kernel
theorem dX5_addLine_52 : decode cX5_addLine 52 = .ok (.return_, 1) := by decide +kernel
theorem dX5_addStep_0 : decode cX5_addStep 0 = .ok (.aload_n 0, 1) := by decide +kernel
theorem dX5_addStep_1 : decode cX5_addStep 1 = .ok (.getfield 29, 3) := by decide +kernel
theorem dX5_addStep_4 : decode cX5_addStep 4 = .ok (.aload_n 0, 1) := by decide +kernel
theorem dX5_addStep_5 : decode cX5_addStep 5 = .ok (.getfield 19, 3) := by decide +kernel
theorem dX5_addStep_8 : decode cX5_addStep 8 = .ok (.arraylength, 1) := by decide +kernel
theorem dX5_addStep_9 : decode cX5_addStep 9 = .ok (.if_icmp .ge 45, 3) := by decide +kernel
theorem dX5_addStep_12 : decode cX5_addStep 12 = .ok (.aload_n 0, 1) := by decide +kernel
theorem dX5_addStep_13 : decode cX5_addStep 13 = .ok (.getfield 19, 3) := by decide +kernel
theorem dX5_addStep_16 : decode cX5_addStep 16 = .ok (.aload_n 0, 1) := by decide +kernel
theorem dX5_addStep_17 : decode cX5_addStep 17 = .ok (.getfield 29, 3) := by decide +kernel
theorem dX5_addStep_20 : decode cX5_addStep 20 = .ok (.iload_n 3, 1) := by decide +kernel
theorem dX5_addStep_21 : decode cX5_addStep 21 = .ok (.bipush 8, 2) := by decide +kernel
theorem dX5_addStep_23 : decode cX5_addStep 23 = .ok (.ishl, 1) := by decide +kernel
theorem dX5_addStep_24 : decode cX5_addStep 24 = .ok (.iload_n 2, 1) := by decide +kernel
theorem dX5_addStep_25 : decode cX5_addStep 25 = .ok (.iconst 4, 1) := by decide +kernel
theorem dX5_addStep_26 : decode cX5_addStep 26 = .ok (.ishl, 1) := by decide +kernel
theorem dX5_addStep_27 : decode cX5_addStep 27 = .ok (.ior, 1) := by decide +kernel
theorem dX5_addStep_28 : decode cX5_addStep 28 = .ok (.iload_n 1, 1) := by decide +kernel
theorem dX5_addStep_29 : decode cX5_addStep 29 = .ok (.ior, 1) := by decide +kernel
theorem dX5_addStep_30 : decode cX5_addStep 30 = .ok (.iastore, 1) := by decide +kernel
theorem dX5_addStep_31 : decode cX5_addStep 31 = .ok (.aload_n 0, 1) := by decide +kernel
theorem dX5_addStep_32 : decode cX5_addStep 32 = .ok (.dup, 1) := by decide +kernel
theorem dX5_addStep_33 : decode cX5_addStep 33 = .ok (.getfield 29, 3) := by decide +kernel
theorem dX5_addStep_36 : decode cX5_addStep 36 = .ok (.iconst 1, 1) := by decide +kernel
theorem dX5_addStep_37 : decode cX5_addStep 37 = .ok (.iadd, 1) := by decide +kernel
theorem dX5_addStep_38 : decode cX5_addStep 38 = .ok (.putfield 29, 3) := by decide +kernel
theorem dX5_addStep_41 : decode cX5_addStep 41 = .ok (.aload_n 0, 1) := by decide +kernel
theorem dX5_addStep_42 : decode cX5_addStep 42 = .ok (.getfield 16, 3) := by decide +kernel
theorem dX5_addStep_45 : decode cX5_addStep 45 = .ok (.aload_n 0, 1) := by decide +kernel
theorem dX5_addStep_46 : decode cX5_addStep 46 = .ok (.getfield 25, 3) := by decide +kernel
theorem dX5_addStep_49 : decode cX5_addStep 49 = .ok (.aload_n 0, 1) := by decide +kernel
theorem dX5_addStep_50 : decode cX5_addStep 50 = .ok (.getfield 29, 3) := by decide +kernel
theorem dX5_addStep_53 : decode cX5_addStep 53 = .ok (.iastore, 1) := by decide +kernel
theorem dX5_addStep_54 : decode cX5_addStep 54 = .ok (.return_, 1) := by decide +kernel
theorem dX5_mark_0 : decode cX5_mark 0 = .ok (.iconst 0, 1) := by decide +kernel
theorem dX5_mark_1 : decode cX5_mark 1 = .ok (.istore_n 1, 1) := by decide +kernel
theorem dX5_mark_2 : decode cX5_mark 2 = .ok (.iconst 0, 1) := by decide +kernel
theorem dX5_mark_3 : decode cX5_mark 3 = .ok (.istore_n 2, 1) := by decide +kernel
theorem dX5_mark_4 : decode cX5_mark 4 = .ok (.iload_n 2, 1) := by decide +kernel
theorem dX5_mark_5 : decode cX5_mark 5 = .ok (.aload_n 0, 1) := by decide +kernel
theorem dX5_mark_6 : decode cX5_mark 6 = .ok (.getfield 25, 3) := by decide +kernel
theorem dX5_mark_9 : decode cX5_mark 9 = .ok (.if_icmp .ge 35, 3) := by decide +kernel
theorem dX5_mark_12 : decode cX5_mark 12 = .ok (.aload_n 0, 1) := by decide +kernel
theorem dX5_mark_13 : decode cX5_mark 13 = .ok (.getfield 9, 3) := by decide +kernel
theorem dX5_mark_16 : decode cX5_mark 16 = .ok (.iload_n 2, 1) := by decide +kernel
theorem dX5_mark_17 : decode cX5_mark 17 = .ok (.iaload, 1) := by decide +kernel
theorem dX5_mark_18 : decode cX5_mark 18 = .ok (.ifCond .ne 20, 3) := by decide +kernel
theorem dX5_mark_21 : decode cX5_mark 21 = .ok (.aload_n 0, 1) := by decide +kernel
theorem dX5_mark_22 : decode cX5_mark 22 = .ok (.iload_n 2, 1) := by decide +kernel
theorem dX5_mark_23 : decode cX5_mark 23 = .ok (.invokevirtual 38, 3) := by decide +kernel
theorem dX5_mark_26 : decode cX5_mark 26 = .ok (.ifCond .eq 12, 3) := by decide +kernel
theorem dX5_mark_29 : decode cX5_mark 29 = .ok (.iload_n 1, 1) := by decide +kernel
theorem dX5_mark_30 : decode cX5_mark 30 = .ok (.aload_n 0, 1) := by decide +kernel
theorem dX5_mark_31 : decode cX5_mark 31 = .ok (.getfield 13, 3) := by decide +kernel
theorem dX5_mark_34 : decode cX5_mark 34 = .ok (.iload_n 2, 1) := by decide +kernel
theorem dX5_mark_35 : decode cX5_mark 35 = .ok (.iaload, 1) := by decide +kernel
theorem dX5_mark_36 : decode cX5_mark 36 = .ok (.iadd, 1) := by decide +kernel
theorem dX5_mark_37 : decode cX5_mark 37 = .ok (.istore_n 1, 1) := by decide +kernel
theorem dX5_mark_38 : decode cX5_mark 38 = .ok (.iinc 2 1, 3) := by decide +kernel
theorem dX5_mark_41 : decode cX5_mark 41 = .ok (.goto (-37), 3) := by decide +kernel
theorem dX5_mark_44 : decode cX5_mark 44 = .ok (.iload_n 1, 1) := by decide +kernel
theorem dX5_mark_45 : decode cX5_mark 45 = .ok (.ireturn, 1) := by decide +kernel
theorem dX5_lets_0 : decode cX5_lets 0 = .ok (.aload_n 0, 1) := by decide +kernel
theorem dX5_lets_1 : decode cX5_lets 1 = .ok (.getfield 22, 3) := by decide +kernel
theorem dX5_lets_4 : decode cX5_lets 4 = .ok (.iconst 1, 1) := by decide +kernel
theorem dX5_lets_5 : decode cX5_lets 5 = .ok (.iaload, 1) := by decide +kernel
theorem dX5_lets_6 : decode cX5_lets 6 = .ok (.bipush 12, 2) := by decide +kernel
theorem dX5_lets_8 : decode cX5_lets 8 = .ok (.if_icmp .lt 5, 3) := by decide +kernel
theorem dX5_lets_11 : decode cX5_lets 11 = .ok (.iconst 0, 1) := by decide +kernel
theorem dX5_lets_12 : decode cX5_lets 12 = .ok (.ireturn, 1) := by decide +kernel
theorem dX5_lets_13 : decode cX5_lets 13 = .ok (.iconst 0, 1) := by decide +kernel
theorem dX5_lets_14 : decode cX5_lets 14 = .ok (.istore_n 1, 1) := by decide +kernel
theorem dX5_lets_15 : decode cX5_lets 15 = .ok (.iconst 0, 1) := by decide +kernel
theorem dX5_lets_16 : decode cX5_lets 16 = .ok (.istore_n 2, 1) := by decide +kernel
theorem dX5_lets_17 : decode cX5_lets 17 = .ok (.iload_n 2, 1) := by decide +kernel
theorem dX5_lets_18 : decode cX5_lets 18 = .ok (.aload_n 0, 1) := by decide +kernel
theorem dX5_lets_19 : decode cX5_lets 19 = .ok (.getfield 25, 3) := by decide +kernel
theorem dX5_lets_22 : decode cX5_lets 22 = .ok (.if_icmp .ge 47, 3) := by decide +kernel
theorem dX5_lets_25 : decode cX5_lets 25 = .ok (.aload_n 0, 1) := by decide +kernel
theorem dX5_lets_26 : decode cX5_lets 26 = .ok (.getfield 9, 3) := by decide +kernel
theorem dX5_lets_29 : decode cX5_lets 29 = .ok (.iload_n 2, 1) := by decide +kernel
theorem dX5_lets_30 : decode cX5_lets 30 = .ok (.iaload, 1) := by decide +kernel
theorem dX5_lets_31 : decode cX5_lets 31 = .ok (.iconst 1, 1) := by decide +kernel
theorem dX5_lets_32 : decode cX5_lets 32 = .ok (.if_icmp .ne 13, 3) := by decide +kernel
theorem dX5_lets_35 : decode cX5_lets 35 = .ok (.aload_n 0, 1) := by decide +kernel
theorem dX5_lets_36 : decode cX5_lets 36 = .ok (.iload_n 2, 1) := by decide +kernel
theorem dX5_lets_37 : decode cX5_lets 37 = .ok (.invokevirtual 38, 3) := by decide +kernel
theorem dX5_lets_40 : decode cX5_lets 40 = .ok (.ifCond .eq 5, 3) := by decide +kernel
theorem dX5_lets_43 : decode cX5_lets 43 = .ok (.iconst 1, 1) := by decide +kernel
theorem dX5_lets_44 : decode cX5_lets 44 = .ok (.ireturn, 1) := by decide +kernel
theorem dX5_lets_45 : decode cX5_lets 45 = .ok (.iload_n 1, 1) := by decide +kernel
theorem dX5_lets_46 : decode cX5_lets 46 = .ok (.aload_n 0, 1) := by decide +kernel
theorem dX5_lets_47 : decode cX5_lets 47 = .ok (.getfield 9, 3) := by decide +kernel
theorem dX5_lets_50 : decode cX5_lets 50 = .ok (.iload_n 2, 1) := by decide +kernel
theorem dX5_lets_51 : decode cX5_lets 51 = .ok (.iaload, 1) := by decide +kernel
theorem dX5_lets_52 : decode cX5_lets 52 = .ok (.iconst 1, 1) := by decide +kernel
theorem dX5_lets_53 : decode cX5_lets 53 = .ok (.if_icmp .ne 7, 3) := by decide +kernel
theorem dX5_lets_56 : decode cX5_lets 56 = .ok (.iconst 1, 1) := by decide +kernel
theorem dX5_lets_57 : decode cX5_lets 57 = .ok (.goto 4, 3) := by decide +kernel
theorem dX5_lets_60 : decode cX5_lets 60 = .ok (.iconst 0, 1) := by decide +kernel
theorem dX5_lets_61 : decode cX5_lets 61 = .ok (.ior, 1) := by decide +kernel
theorem dX5_lets_62 : decode cX5_lets 62 = .ok (.istore_n 1, 1) := by decide +kernel
theorem dX5_lets_63 : decode cX5_lets 63 = .ok (.iinc 2 1, 3) := by decide +kernel
theorem dX5_lets_66 : decode cX5_lets 66 = .ok (.goto (-49), 3) := by decide +kernel
theorem dX5_lets_69 : decode cX5_lets 69 = .ok (.iload_n 1, 1) := by decide +kernel
theorem dX5_lets_70 : decode cX5_lets 70 = .ok (.ifCond .ne 7, 3) := by decide +kernel
theorem dX5_lets_73 : decode cX5_lets 73 = .ok (.iconst 1, 1) := by decide +kernel
theorem dX5_lets_74 : decode cX5_lets 74 = .ok (.goto 4, 3) := by decide +kernel
theorem dX5_lets_77 : decode cX5_lets 77 = .ok (.iconst 0, 1) := by decide +kernel
theorem dX5_lets_78 : decode cX5_lets 78 = .ok (.ireturn, 1) := by decide +kernel
theorem dX5_cost_0 : decode cX5_cost 0 = .ok (.aload_n 0, 1) := by decide +kernel
theorem dX5_cost_1 : decode cX5_cost 1 = .ok (.getfield 25, 3) := by decide +kernel
theorem dX5_cost_4 : decode cX5_cost 4 = .ok (.iconst 1, 1) := by decide +kernel
theorem dX5_cost_5 : decode cX5_cost 5 = .ok (.isub, 1) := by decide +kernel
theorem dX5_cost_6 : decode cX5_cost 6 = .ok (.istore_n 1, 1) := by decide +kernel
theorem dX5_cost_7 : decode cX5_cost 7 = .ok (.iload_n 1, 1) := by decide +kernel
theorem dX5_cost_8 : decode cX5_cost 8 = .ok (.ifCond .lt 26, 3) := by decide +kernel
theorem dX5_cost_11 : decode cX5_cost 11 = .ok (.aload_n 0, 1) := by decide +kernel
theorem dX5_cost_12 : decode cX5_cost 12 = .ok (.getfield 9, 3) := by decide +kernel
theorem dX5_cost_15 : decode cX5_cost 15 = .ok (.iload_n 1, 1) := by decide +kernel
theorem dX5_cost_16 : decode cX5_cost 16 = .ok (.iaload, 1) := by decide +kernel
theorem dX5_cost_17 : decode cX5_cost 17 = .ok (.iconst 2, 1) := by decide +kernel
theorem dX5_cost_18 : decode cX5_cost 18 = .ok (.if_icmp .ne 10, 3) := by decide +kernel
theorem dX5_cost_21 : decode cX5_cost 21 = .ok (.aload_n 0, 1) := by decide +kernel
theorem dX5_cost_22 : decode cX5_cost 22 = .ok (.getfield 13, 3) := by decide +kernel
theorem dX5_cost_25 : decode cX5_cost 25 = .ok (.iload_n 1, 1) := by decide +kernel
theorem dX5_cost_26 : decode cX5_cost 26 = .ok (.iaload, 1) := by decide +kernel
theorem dX5_cost_27 : decode cX5_cost 27 = .ok (.ireturn, 1) := by decide +kernel
theorem dX5_cost_28 : decode cX5_cost 28 = .ok (.iinc 1 (-1), 3) := by decide +kernel
theorem dX5_cost_31 : decode cX5_cost 31 = .ok (.goto (-24), 3) := by decide +kernel
theorem dX5_cost_34 : decode cX5_cost 34 = .ok (.iconst 1, 1) := by decide +kernel
theorem dX5_cost_35 : decode cX5_cost 35 = .ok (.ireturn, 1) := by decide +kernel
theorem dX5_shows_0 : decode cX5_shows 0 = .ok (.iconst 0, 1) := by decide +kernel
theorem dX5_shows_1 : decode cX5_shows 1 = .ok (.istore_n 2, 1) := by decide +kernel
theorem dX5_shows_2 : decode cX5_shows 2 = .ok (.iload_n 2, 1) := by decide +kernel
theorem dX5_shows_3 : decode cX5_shows 3 = .ok (.aload_n 0, 1) := by decide +kernel
theorem dX5_shows_4 : decode cX5_shows 4 = .ok (.getfield 22, 3) := by decide +kernel
theorem dX5_shows_7 : decode cX5_shows 7 = .ok (.arraylength, 1) := by decide +kernel
theorem dX5_shows_8 : decode cX5_shows 8 = .ok (.if_icmp .ge 16, 3) := by decide +kernel
theorem dX5_shows_11 : decode cX5_shows 11 = .ok (.aload_n 0, 1) := by decide +kernel
theorem dX5_shows_12 : decode cX5_shows 12 = .ok (.getfield 22, 3) := by decide +kernel
theorem dX5_shows_15 : decode cX5_shows 15 = .ok (.iload_n 2, 1) := by decide +kernel
theorem dX5_shows_16 : decode cX5_shows 16 = .ok (.iconst 0, 1) := by decide +kernel
theorem dX5_shows_17 : decode cX5_shows 17 = .ok (.iastore, 1) := by decide +kernel
theorem dX5_shows_18 : decode cX5_shows 18 = .ok (.iinc 2 1, 3) := by decide +kernel
theorem dX5_shows_21 : decode cX5_shows 21 = .ok (.goto (-19), 3) := by decide +kernel
theorem dX5_shows_24 : decode cX5_shows 24 = .ok (.aload_n 0, 1) := by decide +kernel
theorem dX5_shows_25 : decode cX5_shows 25 = .ok (.iload_n 1, 1) := by decide +kernel
theorem dX5_shows_26 : decode cX5_shows 26 = .ok (.ifCond .eq 8, 3) := by decide +kernel
theorem dX5_shows_29 : decode cX5_shows 29 = .ok (.bipush 64, 2) := by decide +kernel
theorem dX5_shows_31 : decode cX5_shows 31 = .ok (.goto 4, 3) := by decide +kernel
theorem dX5_shows_34 : decode cX5_shows 34 = .ok (.iconst 0, 1) := by decide +kernel
theorem dX5_shows_35 : decode cX5_shows 35 = .ok (.putfield 42, 3) := by decide +kernel
theorem dX5_shows_38 : decode cX5_shows 38 = .ok (.iconst 0, 1) := by decide +kernel
theorem dX5_shows_39 : decode cX5_shows 39 = .ok (.istore_n 2, 1) := by decide +kernel
theorem dX5_shows_40 : decode cX5_shows 40 = .ok (.iload_n 2, 1) := by decide +kernel
theorem dX5_shows_41 : decode cX5_shows 41 = .ok (.aload_n 0, 1) := by decide +kernel
theorem dX5_shows_42 : decode cX5_shows 42 = .ok (.getfield 25, 3) := by decide +kernel
theorem dX5_shows_45 : decode cX5_shows 45 = .ok (.if_icmp .ge 29, 3) := by decide +kernel
theorem dX5_shows_48 : decode cX5_shows 48 = .ok (.aload_n 0, 1) := by decide +kernel
theorem dX5_shows_49 : decode cX5_shows 49 = .ok (.getfield 9, 3) := by decide +kernel
theorem dX5_shows_52 : decode cX5_shows 52 = .ok (.iload_n 2, 1) := by decide +kernel
theorem dX5_shows_53 : decode cX5_shows 53 = .ok (.iaload, 1) := by decide +kernel
theorem dX5_shows_54 : decode cX5_shows 54 = .ok (.iconst 3, 1) := by decide +kernel
theorem dX5_shows_55 : decode cX5_shows 55 = .ok (.if_icmp .ne 13, 3) := by decide +kernel
theorem dX5_shows_58 : decode cX5_shows 58 = .ok (.aload_n 0, 1) := by decide +kernel
theorem dX5_shows_59 : decode cX5_shows 59 = .ok (.iload_n 2, 1) := by decide +kernel
theorem dX5_shows_60 : decode cX5_shows 60 = .ok (.invokevirtual 38, 3) := by decide +kernel
theorem dX5_shows_63 : decode cX5_shows 63 = .ok (.ifCond .eq 5, 3) := by decide +kernel
theorem dX5_shows_66 : decode cX5_shows 66 = .ok (.iconst 1, 1) := by decide +kernel
theorem dX5_shows_67 : decode cX5_shows 67 = .ok (.ireturn, 1) := by decide +kernel
theorem dX5_shows_68 : decode cX5_shows 68 = .ok (.iinc 2 1, 3) := by decide +kernel
theorem dX5_shows_71 : decode cX5_shows 71 = .ok (.goto (-31), 3) := by decide +kernel
theorem dX5_shows_74 : decode cX5_shows 74 = .ok (.iconst 0, 1) := by decide +kernel
theorem dX5_shows_75 : decode cX5_shows 75 = .ok (.ireturn, 1) := by decide +kernel
theorem dX5_holds_0 : decode cX5_holds 0 = .ok (.lconst 1, 1) := by decide +kernel
theorem dX5_holds_1 : decode cX5_holds 1 = .ok (.lstore_n 2, 1) := by decide +kernel
theorem dX5_holds_2 : decode cX5_holds 2 = .ok (.aload_n 0, 1) := by decide +kernel
theorem dX5_holds_3 : decode cX5_holds 3 = .ok (.getfield 16, 3) := by decide +kernel
theorem dX5_holds_6 : decode cX5_holds 6 = .ok (.iload_n 1, 1) := by decide +kernel
theorem dX5_holds_7 : decode cX5_holds 7 = .ok (.iaload, 1) := by decide +kernel
theorem dX5_holds_8 : decode cX5_holds 8 = .ok (.istore 4, 2) := by decide +kernel
theorem dX5_holds_10 : decode cX5_holds 10 = .ok (.iload 4, 2) := by decide +kernel
theorem dX5_holds_12 : decode cX5_holds 12 = .ok (.aload_n 0, 1) := by decide +kernel
theorem dX5_holds_13 : decode cX5_holds 13 = .ok (.getfield 16, 3) := by decide +kernel
theorem dX5_holds_16 : decode cX5_holds 16 = .ok (.iload_n 1, 1) := by decide +kernel
theorem dX5_holds_17 : decode cX5_holds 17 = .ok (.iconst 1, 1) := by decide +kernel
theorem dX5_holds_18 : decode cX5_holds 18 = .ok (.iadd, 1) := by decide +kernel
theorem dX5_holds_19 : decode cX5_holds 19 = .ok (.iaload, 1) := by decide +kernel
theorem dX5_holds_20 : decode cX5_holds 20 = .ok (.if_icmp .ge 206, 3) := by decide +kernel
theorem dX5_holds_23 : decode cX5_holds 23 = .ok (.iload 4, 2) := by decide +kernel
theorem dX5_holds_25 : decode cX5_holds 25 = .ok (.aload_n 0, 1) := by decide +kernel
theorem dX5_holds_26 : decode cX5_holds 26 = .ok (.getfield 19, 3) := by decide +kernel
theorem dX5_holds_29 : decode cX5_holds 29 = .ok (.arraylength, 1) := by decide +kernel
theorem dX5_holds_30 : decode cX5_holds 30 = .ok (.if_icmp .ge 196, 3) := by decide +kernel
theorem dX5_holds_33 : decode cX5_holds 33 = .ok (.aload_n 0, 1) := by decide +kernel
theorem dX5_holds_34 : decode cX5_holds 34 = .ok (.getfield 19, 3) := by decide +kernel
theorem dX5_holds_37 : decode cX5_holds 37 = .ok (.iload 4, 2) := by decide +kernel
theorem dX5_holds_39 : decode cX5_holds 39 = .ok (.iaload, 1) := by decide +kernel
theorem dX5_holds_40 : decode cX5_holds 40 = .ok (.iconst 4, 1) := by decide +kernel
theorem dX5_holds_41 : decode cX5_holds 41 = .ok (.ishr, 1) := by decide +kernel
theorem dX5_holds_42 : decode cX5_holds 42 = .ok (.bipush 15, 2) := by decide +kernel
theorem dX5_holds_44 : decode cX5_holds 44 = .ok (.iand, 1) := by decide +kernel
theorem dX5_holds_45 : decode cX5_holds 45 = .ok (.istore 5, 2) := by decide +kernel
theorem dX5_holds_47 : decode cX5_holds 47 = .ok (.iload 5, 2) := by decide +kernel
theorem dX5_holds_49 : decode cX5_holds 49 = .ok (.aload_n 0, 1) := by decide +kernel
theorem dX5_holds_50 : decode cX5_holds 50 = .ok (.getfield 22, 3) := by decide +kernel
theorem dX5_holds_53 : decode cX5_holds 53 = .ok (.arraylength, 1) := by decide +kernel
theorem dX5_holds_54 : decode cX5_holds 54 = .ok (.if_icmp .ge 13, 3) := by decide +kernel
theorem dX5_holds_57 : decode cX5_holds 57 = .ok (.aload_n 0, 1) := by decide +kernel
theorem dX5_holds_58 : decode cX5_holds 58 = .ok (.getfield 22, 3) := by decide +kernel
theorem dX5_holds_61 : decode cX5_holds 61 = .ok (.iload 5, 2) := by decide +kernel
theorem dX5_holds_63 : decode cX5_holds 63 = .ok (.iaload, 1) := by decide +kernel
theorem dX5_holds_64 : decode cX5_holds 64 = .ok (.goto 4, 3) := by decide +kernel
theorem dX5_holds_67 : decode cX5_holds 67 = .ok (.iconst 0, 1) := by decide +kernel
theorem dX5_holds_68 : decode cX5_holds 68 = .ok (.istore 6, 2) := by decide +kernel
theorem dX5_holds_70 : decode cX5_holds 70 = .ok (.aload_n 0, 1) := by decide +kernel
theorem dX5_holds_71 : decode cX5_holds 71 = .ok (.getfield 19, 3) := by decide +kernel
theorem dX5_holds_74 : decode cX5_holds 74 = .ok (.iload 4, 2) := by decide +kernel
theorem dX5_holds_76 : decode cX5_holds 76 = .ok (.iaload, 1) := by decide +kernel
theorem dX5_holds_77 : decode cX5_holds 77 = .ok (.bipush 8, 2) := by decide +kernel
theorem dX5_holds_79 : decode cX5_holds 79 = .ok (.ishr, 1) := by decide +kernel
theorem dX5_holds_80 : decode cX5_holds 80 = .ok (.istore 7, 2) := by decide +kernel
theorem dX5_holds_82 : decode cX5_holds 82 = .ok (.lload_n 2, 1) := by decide +kernel
theorem dX5_holds_83 : decode cX5_holds 83 = .ok (.lconst 1, 1) := by decide +kernel
theorem dX5_holds_84 : decode cX5_holds 84 = .ok (.land, 1) := by decide +kernel
theorem dX5_holds_85 : decode cX5_holds 85 = .ok (.lstore 8, 2) := by decide +kernel
theorem dX5_holds_87 : decode cX5_holds 87 = .ok (.aload_n 0, 1) := by decide +kernel
theorem dX5_holds_88 : decode cX5_holds 88 = .ok (.getfield 19, 3) := by decide +kernel
theorem dX5_holds_91 : decode cX5_holds 91 = .ok (.iload 4, 2) := by decide +kernel
theorem dX5_holds_93 : decode cX5_holds 93 = .ok (.iaload, 1) := by decide +kernel
theorem dX5_holds_94 : decode cX5_holds 94 = .ok (.bipush 15, 2) := by decide +kernel
theorem dX5_holds_96 : decode cX5_holds 96 = .ok (.iand, 1) := by decide +kernel
theorem dX5_holds_97 : decode cX5_holds 97 = .ok (.tableswitch 116 0 4 #[35, 53, 74, 95, 102], 35) := by decide +kernel
theorem dX5_holds_132 : decode cX5_holds 132 = .ok (.lload_n 2, 1) := by decide +kernel
theorem dX5_holds_133 : decode cX5_holds 133 = .ok (.iconst 1, 1) := by decide +kernel
theorem dX5_holds_134 : decode cX5_holds 134 = .ok (.lshl, 1) := by decide +kernel
theorem dX5_holds_135 : decode cX5_holds 135 = .ok (.aload_n 0, 1) := by decide +kernel
theorem dX5_holds_136 : decode cX5_holds 136 = .ok (.getfield 42, 3) := by decide +kernel
theorem dX5_holds_139 : decode cX5_holds 139 = .ok (.iload 5, 2) := by decide +kernel
theorem dX5_holds_141 : decode cX5_holds 141 = .ok (.ishr, 1) := by decide +kernel
theorem dX5_holds_142 : decode cX5_holds 142 = .ok (.iconst 1, 1) := by decide +kernel
theorem dX5_holds_143 : decode cX5_holds 143 = .ok (.iand, 1) := by decide +kernel
theorem dX5_holds_144 : decode cX5_holds 144 = .ok (.i2l, 1) := by decide +kernel
theorem dX5_holds_145 : decode cX5_holds 145 = .ok (.lor, 1) := by decide +kernel
theorem dX5_holds_146 : decode cX5_holds 146 = .ok (.lstore_n 2, 1) := by decide +kernel
theorem dX5_holds_147 : decode cX5_holds 147 = .ok (.goto 73, 3) := by decide +kernel
theorem dX5_holds_150 : decode cX5_holds 150 = .ok (.lload_n 2, 1) := by decide +kernel
theorem dX5_holds_151 : decode cX5_holds 151 = .ok (.iconst 1, 1) := by decide +kernel
theorem dX5_holds_152 : decode cX5_holds 152 = .ok (.lshl, 1) := by decide +kernel
theorem dX5_holds_153 : decode cX5_holds 153 = .ok (.iload 6, 2) := by decide +kernel
theorem dX5_holds_155 : decode cX5_holds 155 = .ok (.iload 7, 2) := by decide +kernel
theorem dX5_holds_157 : decode cX5_holds 157 = .ok (.if_icmp .ge 7, 3) := by decide +kernel
theorem dX5_holds_160 : decode cX5_holds 160 = .ok (.iconst 1, 1) := by decide +kernel
theorem dX5_holds_161 : decode cX5_holds 161 = .ok (.goto 4, 3) := by decide +kernel
theorem dX5_holds_164 : decode cX5_holds 164 = .ok (.iconst 0, 1) := by decide +kernel
theorem dX5_holds_165 : decode cX5_holds 165 = .ok (.i2l, 1) := by decide +kernel
theorem dX5_holds_166 : decode cX5_holds 166 = .ok (.lor, 1) := by decide +kernel
theorem dX5_holds_167 : decode cX5_holds 167 = .ok (.lstore_n 2, 1) := by decide +kernel
theorem dX5_holds_168 : decode cX5_holds 168 = .ok (.goto 52, 3) := by decide +kernel
theorem dX5_holds_171 : decode cX5_holds 171 = .ok (.lload_n 2, 1) := by decide +kernel
theorem dX5_holds_172 : decode cX5_holds 172 = .ok (.iconst 1, 1) := by decide +kernel
theorem dX5_holds_173 : decode cX5_holds 173 = .ok (.lshl, 1) := by decide +kernel
theorem dX5_holds_174 : decode cX5_holds 174 = .ok (.iload 6, 2) := by decide +kernel
theorem dX5_holds_176 : decode cX5_holds 176 = .ok (.iload 7, 2) := by decide +kernel
theorem dX5_holds_178 : decode cX5_holds 178 = .ok (.if_icmp .le 7, 3) := by decide +kernel
theorem dX5_holds_181 : decode cX5_holds 181 = .ok (.iconst 1, 1) := by decide +kernel
theorem dX5_holds_182 : decode cX5_holds 182 = .ok (.goto 4, 3) := by decide +kernel
theorem dX5_holds_185 : decode cX5_holds 185 = .ok (.iconst 0, 1) := by decide +kernel
theorem dX5_holds_186 : decode cX5_holds 186 = .ok (.i2l, 1) := by decide +kernel
theorem dX5_holds_187 : decode cX5_holds 187 = .ok (.lor, 1) := by decide +kernel
theorem dX5_holds_188 : decode cX5_holds 188 = .ok (.lstore_n 2, 1) := by decide +kernel
theorem dX5_holds_189 : decode cX5_holds 189 = .ok (.goto 31, 3) := by decide +kernel
theorem dX5_holds_192 : decode cX5_holds 192 = .ok (.lload_n 2, 1) := by decide +kernel
theorem dX5_holds_193 : decode cX5_holds 193 = .ok (.lconst 1, 1) := by decide +kernel
theorem dX5_holds_194 : decode cX5_holds 194 = .ok (.lxor, 1) := by decide +kernel
theorem dX5_holds_195 : decode cX5_holds 195 = .ok (.lstore_n 2, 1) := by decide +kernel
theorem dX5_holds_196 : decode cX5_holds 196 = .ok (.goto 24, 3) := by decide +kernel
theorem dX5_holds_199 : decode cX5_holds 199 = .ok (.lload_n 2, 1) := by decide +kernel
theorem dX5_holds_200 : decode cX5_holds 200 = .ok (.iconst 1, 1) := by decide +kernel
theorem dX5_holds_201 : decode cX5_holds 201 = .ok (.lshr, 1) := by decide +kernel
theorem dX5_holds_202 : decode cX5_holds 202 = .ok (.ldc2_w 45, 3) := by decide +kernel
theorem dX5_holds_205 : decode cX5_holds 205 = .ok (.lload 8, 2) := by decide +kernel
theorem dX5_holds_207 : decode cX5_holds 207 = .ok (.lor, 1) := by decide +kernel
theorem dX5_holds_208 : decode cX5_holds 208 = .ok (.land, 1) := by decide +kernel
theorem dX5_holds_209 : decode cX5_holds 209 = .ok (.lstore_n 2, 1) := by decide +kernel
theorem dX5_holds_210 : decode cX5_holds 210 = .ok (.goto 10, 3) := by decide +kernel
theorem dX5_holds_213 : decode cX5_holds 213 = .ok (.lload_n 2, 1) := by decide +kernel
theorem dX5_holds_214 : decode cX5_holds 214 = .ok (.iconst 1, 1) := by decide +kernel
theorem dX5_holds_215 : decode cX5_holds 215 = .ok (.lshr, 1) := by decide +kernel
theorem dX5_holds_216 : decode cX5_holds 216 = .ok (.lload 8, 2) := by decide +kernel
theorem dX5_holds_218 : decode cX5_holds 218 = .ok (.lor, 1) := by decide +kernel
theorem dX5_holds_219 : decode cX5_holds 219 = .ok (.lstore_n 2, 1) := by decide +kernel
theorem dX5_holds_220 : decode cX5_holds 220 = .ok (.iinc 4 1, 3) := by decide +kernel
theorem dX5_holds_223 : decode cX5_holds 223 = .ok (.goto (-213), 3) := by decide +kernel
theorem dX5_holds_226 : decode cX5_holds 226 = .ok (.lload_n 2, 1) := by decide +kernel
theorem dX5_holds_227 : decode cX5_holds 227 = .ok (.lconst 1, 1) := by decide +kernel
theorem dX5_holds_228 : decode cX5_holds 228 = .ok (.land, 1) := by decide +kernel
theorem dX5_holds_229 : decode cX5_holds 229 = .ok (.lconst 0, 1) := by decide +kernel
theorem dX5_holds_230 : decode cX5_holds 230 = .ok (.lcmp, 1) := by decide +kernel
theorem dX5_holds_231 : decode cX5_holds 231 = .ok (.ifCond .eq 7, 3) := by decide +kernel
theorem dX5_holds_234 : decode cX5_holds 234 = .ok (.iconst 1, 1) := by decide +kernel
theorem dX5_holds_235 : decode cX5_holds 235 = .ok (.goto 4, 3) := by decide +kernel
theorem dX5_holds_238 : decode cX5_holds 238 = .ok (.iconst 0, 1) := by decide +kernel
theorem dX5_holds_239 : decode cX5_holds 239 = .ok (.ireturn, 1) := by decide +kernel
theorem dX6_init_0 : decode cX6_init 0 = .ok (.aload_n 0, 1) := by decide +kernel
theorem dX6_init_1 : decode cX6_init 1 = .ok (.invokespecial 3, 3) := by decide +kernel
theorem dX6_init_4 : decode cX6_init 4 = .ok (.aload_n 0, 1) := by decide +kernel
theorem dX6_init_5 : decode cX6_init 5 = .ok (.bipush 30, 2) := by decide +kernel
theorem dX6_init_7 : decode cX6_init 7 = .ok (.newarray .int, 2) := by decide +kernel
theorem dX6_init_9 : decode cX6_init 9 = .ok (.putfield 9, 3) := by decide +kernel
theorem dX6_init_12 : decode cX6_init 12 = .ok (.aload_n 0, 1) := by decide +kernel
theorem dX6_init_13 : decode cX6_init 13 = .ok (.bipush 10, 2) := by decide +kernel
theorem dX6_init_15 : decode cX6_init 15 = .ok (.newarray .int, 2) := by decide +kernel
theorem dX6_init_17 : decode cX6_init 17 = .ok (.putfield 15, 3) := by decide +kernel
theorem dX6_init_20 : decode cX6_init 20 = .ok (.aload_n 0, 1) := by decide +kernel
theorem dX6_init_21 : decode cX6_init 21 = .ok (.aload_n 1, 1) := by decide +kernel
theorem dX6_init_22 : decode cX6_init 22 = .ok (.putfield 18, 3) := by decide +kernel
theorem dX6_init_25 : decode cX6_init 25 = .ok (.aload_n 0, 1) := by decide +kernel
theorem dX6_init_26 : decode cX6_init 26 = .ok (.aload_n 2, 1) := by decide +kernel
theorem dX6_init_27 : decode cX6_init 27 = .ok (.putfield 22, 3) := by decide +kernel
theorem dX6_init_30 : decode cX6_init 30 = .ok (.return_, 1) := by decide +kernel
theorem dX6_gather_0 : decode cX6_gather 0 = .ok (.aload_n 0, 1) := by decide +kernel
theorem dX6_gather_1 : decode cX6_gather 1 = .ok (.iconst 0, 1) := by decide +kernel
theorem dX6_gather_2 : decode cX6_gather 2 = .ok (.putfield 26, 3) := by decide +kernel
theorem dX6_gather_5 : decode cX6_gather 5 = .ok (.iconst 0, 1) := by decide +kernel
theorem dX6_gather_6 : decode cX6_gather 6 = .ok (.istore_n 3, 1) := by decide +kernel
theorem dX6_gather_7 : decode cX6_gather 7 = .ok (.iload_n 3, 1) := by decide +kernel
theorem dX6_gather_8 : decode cX6_gather 8 = .ok (.aload_n 0, 1) := by decide +kernel
theorem dX6_gather_9 : decode cX6_gather 9 = .ok (.getfield 18, 3) := by decide +kernel
theorem dX6_gather_12 : decode cX6_gather 12 = .ok (.getfield 30, 3) := by decide +kernel
theorem dX6_gather_15 : decode cX6_gather 15 = .ok (.if_icmp .ge 89, 3) := by decide +kernel
theorem dX6_gather_18 : decode cX6_gather 18 = .ok (.aload_n 0, 1) := by decide +kernel
theorem dX6_gather_19 : decode cX6_gather 19 = .ok (.getfield 18, 3) := by decide +kernel
theorem dX6_gather_22 : decode cX6_gather 22 = .ok (.getfield 33, 3) := by decide +kernel
theorem dX6_gather_25 : decode cX6_gather 25 = .ok (.iconst 0, 1) := by decide +kernel
theorem dX6_gather_26 : decode cX6_gather 26 = .ok (.aaload, 1) := by decide +kernel
theorem dX6_gather_27 : decode cX6_gather 27 = .ok (.iload_n 3, 1) := by decide +kernel
theorem dX6_gather_28 : decode cX6_gather 28 = .ok (.iaload, 1) := by decide +kernel
theorem dX6_gather_29 : decode cX6_gather 29 = .ok (.iconst 1, 1) := by decide +kernel
theorem dX6_gather_30 : decode cX6_gather 30 = .ok (.if_icmp .gt 22, 3) := by decide +kernel
theorem dX6_gather_33 : decode cX6_gather 33 = .ok (.aload_n 0, 1) := by decide +kernel
theorem dX6_gather_34 : decode cX6_gather 34 = .ok (.getfield 18, 3) := by decide +kernel
theorem dX6_gather_37 : decode cX6_gather 37 = .ok (.getfield 33, 3) := by decide +kernel
theorem dX6_gather_40 : decode cX6_gather 40 = .ok (.iconst 4, 1) := by decide +kernel
theorem dX6_gather_41 : decode cX6_gather 41 = .ok (.aaload, 1) := by decide +kernel
theorem dX6_gather_42 : decode cX6_gather 42 = .ok (.iload_n 3, 1) := by decide +kernel
theorem dX6_gather_43 : decode cX6_gather 43 = .ok (.iaload, 1) := by decide +kernel
theorem dX6_gather_44 : decode cX6_gather 44 = .ok (.iload_n 1, 1) := by decide +kernel
theorem dX6_gather_45 : decode cX6_gather 45 = .ok (.if_icmp .ne 7, 3) := by decide +kernel
theorem dX6_gather_48 : decode cX6_gather 48 = .ok (.iconst 1, 1) := by decide +kernel
theorem dX6_gather_49 : decode cX6_gather 49 = .ok (.goto 4, 3) := by decide +kernel
theorem dX6_gather_52 : decode cX6_gather 52 = .ok (.iconst 0, 1) := by decide +kernel
theorem dX6_gather_53 : decode cX6_gather 53 = .ok (.istore 4, 2) := by decide +kernel
theorem dX6_gather_55 : decode cX6_gather 55 = .ok (.iload 4, 2) := by decide +kernel
theorem dX6_gather_57 : decode cX6_gather 57 = .ok (.ifCond .eq 41, 3) := by decide +kernel
theorem dX6_gather_60 : decode cX6_gather 60 = .ok (.aload_n 0, 1) := by decide +kernel
theorem dX6_gather_61 : decode cX6_gather 61 = .ok (.iload_n 3, 1) := by decide +kernel
theorem dX6_gather_62 : decode cX6_gather 62 = .ok (.iload_n 2, 1) := by decide +kernel
theorem dX6_gather_63 : decode cX6_gather 63 = .ok (.invokevirtual 37, 3) := by decide +kernel
theorem dX6_gather_66 : decode cX6_gather 66 = .ok (.ifCond .eq 32, 3) := by decide +kernel
theorem dX6_gather_69 : decode cX6_gather 69 = .ok (.aload_n 0, 1) := by decide +kernel
theorem dX6_gather_70 : decode cX6_gather 70 = .ok (.iload_n 3, 1) := by decide +kernel
theorem dX6_gather_71 : decode cX6_gather 71 = .ok (.iload_n 2, 1) := by decide +kernel
theorem dX6_gather_72 : decode cX6_gather 72 = .ok (.invokevirtual 41, 3) := by decide +kernel
theorem dX6_gather_75 : decode cX6_gather 75 = .ok (.ifCond .ne 23, 3) := by decide +kernel
theorem dX6_gather_78 : decode cX6_gather 78 = .ok (.aload_n 0, 1) := by decide +kernel
theorem dX6_gather_79 : decode cX6_gather 79 = .ok (.getfield 9, 3) := by decide +kernel
theorem dX6_gather_82 : decode cX6_gather 82 = .ok (.aload_n 0, 1) := by decide +kernel
theorem dX6_gather_83 : decode cX6_gather 83 = .ok (.getfield 26, 3) := by decide +kernel
theorem dX6_gather_86 : decode cX6_gather 86 = .ok (.iload_n 3, 1) := by decide +kernel
theorem dX6_gather_87 : decode cX6_gather 87 = .ok (.iastore, 1) := by decide +kernel
theorem dX6_gather_88 : decode cX6_gather 88 = .ok (.aload_n 0, 1) := by decide +kernel
theorem dX6_gather_89 : decode cX6_gather 89 = .ok (.dup, 1) := by decide +kernel
theorem dX6_gather_90 : decode cX6_gather 90 = .ok (.getfield 26, 3) := by decide +kernel
theorem dX6_gather_93 : decode cX6_gather 93 = .ok (.iconst 1, 1) := by decide +kernel
theorem dX6_gather_94 : decode cX6_gather 94 = .ok (.iadd, 1) := by decide +kernel
theorem dX6_gather_95 : decode cX6_gather 95 = .ok (.putfield 26, 3) := by decide +kernel
theorem dX6_gather_98 : decode cX6_gather 98 = .ok (.iinc 3 1, 3) := by decide +kernel
theorem dX6_gather_101 : decode cX6_gather 101 = .ok (.goto (-94), 3) := by decide +kernel
theorem dX6_gather_104 : decode cX6_gather 104 = .ok (.return_, 1) := by decide +kernel
theorem dX6_isKnown_0 : decode cX6_isKnown 0 = .ok (.aload_n 0, 1) := by decide +kernel
theorem dX6_isKnown_1 : decode cX6_isKnown 1 = .ok (.getfield 22, 3) := by decide +kernel
theorem dX6_isKnown_4 : decode cX6_isKnown 4 = .ok (.getfield 44, 3) := by decide +kernel
theorem dX6_isKnown_7 : decode cX6_isKnown 7 = .ok (.iload_n 1, 1) := by decide +kernel
theorem dX6_isKnown_8 : decode cX6_isKnown 8 = .ok (.iaload, 1) := by decide +kernel
theorem dX6_isKnown_9 : decode cX6_isKnown 9 = .ok (.iconst (-1), 1) := by decide +kernel
theorem dX6_isKnown_10 : decode cX6_isKnown 10 = .ok (.if_icmp .eq 20, 3) := by decide +kernel
theorem dX6_isKnown_13 : decode cX6_isKnown 13 = .ok (.aload_n 0, 1) := by decide +kernel
theorem dX6_isKnown_14 : decode cX6_isKnown 14 = .ok (.getfield 22, 3) := by decide +kernel
theorem dX6_isKnown_17 : decode cX6_isKnown 17 = .ok (.getfield 44, 3) := by decide +kernel
theorem dX6_isKnown_20 : decode cX6_isKnown 20 = .ok (.iload_n 1, 1) := by decide +kernel
theorem dX6_isKnown_21 : decode cX6_isKnown 21 = .ok (.iaload, 1) := by decide +kernel
theorem dX6_isKnown_22 : decode cX6_isKnown 22 = .ok (.iload_n 2, 1) := by decide +kernel
theorem dX6_isKnown_23 : decode cX6_isKnown 23 = .ok (.if_icmp .gt 7, 3) := by decide +kernel
theorem dX6_isKnown_26 : decode cX6_isKnown 26 = .ok (.iconst 1, 1) := by decide +kernel
theorem dX6_isKnown_27 : decode cX6_isKnown 27 = .ok (.goto 4, 3) := by decide +kernel
theorem dX6_isKnown_30 : decode cX6_isKnown 30 = .ok (.iconst 0, 1) := by decide +kernel
theorem dX6_isKnown_31 : decode cX6_isKnown 31 = .ok (.ireturn, 1) := by decide +kernel
theorem dX6_isUndone_0 : decode cX6_isUndone 0 = .ok (.iload_n 1, 1) := by decide +kernel
theorem dX6_isUndone_1 : decode cX6_isUndone 1 = .ok (.iconst 1, 1) := by decide +kernel
theorem dX6_isUndone_2 : decode cX6_isUndone 2 = .ok (.iadd, 1) := by decide +kernel
theorem dX6_isUndone_3 : decode cX6_isUndone 3 = .ok (.istore_n 3, 1) := by decide +kernel
theorem dX6_isUndone_4 : decode cX6_isUndone 4 = .ok (.iload_n 3, 1) := by decide +kernel
theorem dX6_isUndone_5 : decode cX6_isUndone 5 = .ok (.aload_n 0, 1) := by decide +kernel
theorem dX6_isUndone_6 : decode cX6_isUndone 6 = .ok (.getfield 18, 3) := by decide +kernel
theorem dX6_isUndone_9 : decode cX6_isUndone 9 = .ok (.getfield 30, 3) := by decide +kernel
theorem dX6_isUndone_12 : decode cX6_isUndone 12 = .ok (.if_icmp .ge 36, 3) := by decide +kernel
theorem dX6_isUndone_15 : decode cX6_isUndone 15 = .ok (.aload_n 0, 1) := by decide +kernel
theorem dX6_isUndone_16 : decode cX6_isUndone 16 = .ok (.getfield 18, 3) := by decide +kernel
theorem dX6_isUndone_19 : decode cX6_isUndone 19 = .ok (.getfield 33, 3) := by decide +kernel
theorem dX6_isUndone_22 : decode cX6_isUndone 22 = .ok (.bipush 8, 2) := by decide +kernel
theorem dX6_isUndone_24 : decode cX6_isUndone 24 = .ok (.aaload, 1) := by decide +kernel
theorem dX6_isUndone_25 : decode cX6_isUndone 25 = .ok (.iload_n 3, 1) := by decide +kernel
theorem dX6_isUndone_26 : decode cX6_isUndone 26 = .ok (.iaload, 1) := by decide +kernel
theorem dX6_isUndone_27 : decode cX6_isUndone 27 = .ok (.iload_n 1, 1) := by decide +kernel
theorem dX6_isUndone_28 : decode cX6_isUndone 28 = .ok (.if_icmp .ne 14, 3) := by decide +kernel
theorem dX6_isUndone_31 : decode cX6_isUndone 31 = .ok (.aload_n 0, 1) := by decide +kernel
theorem dX6_isUndone_32 : decode cX6_isUndone 32 = .ok (.iload_n 3, 1) := by decide +kernel
theorem dX6_isUndone_33 : decode cX6_isUndone 33 = .ok (.iload_n 2, 1) := by decide +kernel
theorem dX6_isUndone_34 : decode cX6_isUndone 34 = .ok (.invokevirtual 37, 3) := by decide +kernel
theorem dX6_isUndone_37 : decode cX6_isUndone 37 = .ok (.ifCond .eq 5, 3) := by decide +kernel
theorem dX6_isUndone_40 : decode cX6_isUndone 40 = .ok (.iconst 1, 1) := by decide +kernel
theorem dX6_isUndone_41 : decode cX6_isUndone 41 = .ok (.ireturn, 1) := by decide +kernel
theorem dX6_isUndone_42 : decode cX6_isUndone 42 = .ok (.iinc 3 1, 3) := by decide +kernel
theorem dX6_isUndone_45 : decode cX6_isUndone 45 = .ok (.goto (-41), 3) := by decide +kernel
theorem dX6_isUndone_48 : decode cX6_isUndone 48 = .ok (.iconst 0, 1) := by decide +kernel
theorem dX6_isUndone_49 : decode cX6_isUndone 49 = .ok (.ireturn, 1) := by decide +kernel
theorem dX6_mouthsAt_0 : decode cX6_mouthsAt 0 = .ok (.iconst 0, 1) := by decide +kernel
theorem dX6_mouthsAt_1 : decode cX6_mouthsAt 1 = .ok (.istore_n 2, 1) := by decide +kernel
theorem dX6_mouthsAt_2 : decode cX6_mouthsAt 2 = .ok (.iconst 0, 1) := by decide +kernel
theorem dX6_mouthsAt_3 : decode cX6_mouthsAt 3 = .ok (.istore_n 3, 1) := by decide +kernel
theorem dX6_mouthsAt_4 : decode cX6_mouthsAt 4 = .ok (.iload_n 3, 1) := by decide +kernel
theorem dX6_mouthsAt_5 : decode cX6_mouthsAt 5 = .ok (.aload_n 0, 1) := by decide +kernel
theorem dX6_mouthsAt_6 : decode cX6_mouthsAt 6 = .ok (.getfield 26, 3) := by decide +kernel
theorem dX6_mouthsAt_9 : decode cX6_mouthsAt 9 = .ok (.if_icmp .ge 55, 3) := by decide +kernel
theorem dX6_mouthsAt_12 : decode cX6_mouthsAt 12 = .ok (.iload_n 1, 1) := by decide +kernel
theorem dX6_mouthsAt_13 : decode cX6_mouthsAt 13 = .ok (.iconst (-1), 1) := by decide +kernel
theorem dX6_mouthsAt_14 : decode cX6_mouthsAt 14 = .ok (.if_icmp .eq 23, 3) := by decide +kernel
theorem dX6_mouthsAt_17 : decode cX6_mouthsAt 17 = .ok (.aload_n 0, 1) := by decide +kernel
theorem dX6_mouthsAt_18 : decode cX6_mouthsAt 18 = .ok (.getfield 18, 3) := by decide +kernel
theorem dX6_mouthsAt_21 : decode cX6_mouthsAt 21 = .ok (.getfield 33, 3) := by decide +kernel
theorem dX6_mouthsAt_24 : decode cX6_mouthsAt 24 = .ok (.iconst 5, 1) := by decide +kernel
theorem dX6_mouthsAt_25 : decode cX6_mouthsAt 25 = .ok (.aaload, 1) := by decide +kernel
theorem dX6_mouthsAt_26 : decode cX6_mouthsAt 26 = .ok (.aload_n 0, 1) := by decide +kernel
theorem dX6_mouthsAt_27 : decode cX6_mouthsAt 27 = .ok (.getfield 9, 3) := by decide +kernel
theorem dX6_mouthsAt_30 : decode cX6_mouthsAt 30 = .ok (.iload_n 3, 1) := by decide +kernel
theorem dX6_mouthsAt_31 : decode cX6_mouthsAt 31 = .ok (.iaload, 1) := by decide +kernel
theorem dX6_mouthsAt_32 : decode cX6_mouthsAt 32 = .ok (.iaload, 1) := by decide +kernel
theorem dX6_mouthsAt_33 : decode cX6_mouthsAt 33 = .ok (.iload_n 1, 1) := by decide +kernel
theorem dX6_mouthsAt_34 : decode cX6_mouthsAt 34 = .ok (.if_icmp .ne 24, 3) := by decide +kernel
theorem dX6_mouthsAt_37 : decode cX6_mouthsAt 37 = .ok (.iload_n 2, 1) := by decide +kernel
theorem dX6_mouthsAt_38 : decode cX6_mouthsAt 38 = .ok (.iconst 1, 1) := by decide +kernel
theorem dX6_mouthsAt_39 : decode cX6_mouthsAt 39 = .ok (.aload_n 0, 1) := by decide +kernel
theorem dX6_mouthsAt_40 : decode cX6_mouthsAt 40 = .ok (.getfield 18, 3) := by decide +kernel
theorem dX6_mouthsAt_43 : decode cX6_mouthsAt 43 = .ok (.getfield 33, 3) := by decide +kernel
theorem dX6_mouthsAt_46 : decode cX6_mouthsAt 46 = .ok (.iconst 1, 1) := by decide +kernel
theorem dX6_mouthsAt_47 : decode cX6_mouthsAt 47 = .ok (.aaload, 1) := by decide +kernel
theorem dX6_mouthsAt_48 : decode cX6_mouthsAt 48 = .ok (.aload_n 0, 1) := by decide +kernel
theorem dX6_mouthsAt_49 : decode cX6_mouthsAt 49 = .ok (.getfield 9, 3) := by decide +kernel
theorem dX6_mouthsAt_52 : decode cX6_mouthsAt 52 = .ok (.iload_n 3, 1) := by decide +kernel
theorem dX6_mouthsAt_53 : decode cX6_mouthsAt 53 = .ok (.iaload, 1) := by decide +kernel
theorem dX6_mouthsAt_54 : decode cX6_mouthsAt 54 = .ok (.iaload, 1) := by decide +kernel
theorem dX6_mouthsAt_55 : decode cX6_mouthsAt 55 = .ok (.ishl, 1) := by decide +kernel
theorem dX6_mouthsAt_56 : decode cX6_mouthsAt 56 = .ok (.ior, 1) := by decide +kernel
theorem dX6_mouthsAt_57 : decode cX6_mouthsAt 57 = .ok (.istore_n 2, 1) := by decide +kernel
theorem dX6_mouthsAt_58 : decode cX6_mouthsAt 58 = .ok (.iinc 3 1, 3) := by decide +kernel
theorem dX6_mouthsAt_61 : decode cX6_mouthsAt 61 = .ok (.goto (-57), 3) := by decide +kernel
theorem dX6_mouthsAt_64 : decode cX6_mouthsAt 64 = .ok (.iload_n 2, 1) := by decide +kernel
theorem dX6_mouthsAt_65 : decode cX6_mouthsAt 65 = .ok (.ireturn, 1) := by decide +kernel
theorem dX6_placesLeft_0 : decode cX6_placesLeft 0 = .ok (.iconst 0, 1) := by decide +kernel
theorem dX6_placesLeft_1 : decode cX6_placesLeft 1 = .ok (.istore_n 3, 1) := by decide +kernel
theorem dX6_placesLeft_2 : decode cX6_placesLeft 2 = .ok (.iconst 0, 1) := by decide +kernel
theorem dX6_placesLeft_3 : decode cX6_placesLeft 3 = .ok (.istore 4, 2) := by decide +kernel
theorem dX6_placesLeft_5 : decode cX6_placesLeft 5 = .ok (.iload 4, 2) := by decide +kernel
theorem dX6_placesLeft_7 : decode cX6_placesLeft 7 = .ok (.bipush 16, 2) := by decide +kernel
theorem dX6_placesLeft_9 : decode cX6_placesLeft 9 = .ok (.if_icmp .ge 76, 3) := by decide +kernel
theorem dX6_placesLeft_12 : decode cX6_placesLeft 12 = .ok (.iconst 1, 1) := by decide +kernel
theorem dX6_placesLeft_13 : decode cX6_placesLeft 13 = .ok (.istore 5, 2) := by decide +kernel
theorem dX6_placesLeft_15 : decode cX6_placesLeft 15 = .ok (.iconst 0, 1) := by decide +kernel
theorem dX6_placesLeft_16 : decode cX6_placesLeft 16 = .ok (.istore 6, 2) := by decide +kernel
theorem dX6_placesLeft_18 : decode cX6_placesLeft 18 = .ok (.iload 6, 2) := by decide +kernel
theorem dX6_placesLeft_20 : decode cX6_placesLeft 20 = .ok (.aload_n 0, 1) := by decide +kernel
theorem dX6_placesLeft_21 : decode cX6_placesLeft 21 = .ok (.getfield 26, 3) := by decide +kernel
theorem dX6_placesLeft_24 : decode cX6_placesLeft 24 = .ok (.if_icmp .ge 39, 3) := by decide +kernel
theorem dX6_placesLeft_27 : decode cX6_placesLeft 27 = .ok (.iload 5, 2) := by decide +kernel
theorem dX6_placesLeft_29 : decode cX6_placesLeft 29 = .ok (.ifCond .eq 34, 3) := by decide +kernel
theorem dX6_placesLeft_32 : decode cX6_placesLeft 32 = .ok (.aload_n 0, 1) := by decide +kernel
theorem dX6_placesLeft_33 : decode cX6_placesLeft 33 = .ok (.aload_n 0, 1) := by decide +kernel
theorem dX6_placesLeft_34 : decode cX6_placesLeft 34 = .ok (.getfield 9, 3) := by decide +kernel
theorem dX6_placesLeft_37 : decode cX6_placesLeft 37 = .ok (.iload 6, 2) := by decide +kernel
theorem dX6_placesLeft_39 : decode cX6_placesLeft 39 = .ok (.iaload, 1) := by decide +kernel
theorem dX6_placesLeft_40 : decode cX6_placesLeft 40 = .ok (.iload 4, 2) := by decide +kernel
theorem dX6_placesLeft_42 : decode cX6_placesLeft 42 = .ok (.iload_n 1, 1) := by decide +kernel
theorem dX6_placesLeft_43 : decode cX6_placesLeft 43 = .ok (.iload_n 2, 1) := by decide +kernel
theorem dX6_placesLeft_44 : decode cX6_placesLeft 44 = .ok (.invokevirtual 49, 3) := by decide +kernel
theorem dX6_placesLeft_47 : decode cX6_placesLeft 47 = .ok (.ifCond .ne 7, 3) := by decide +kernel
theorem dX6_placesLeft_50 : decode cX6_placesLeft 50 = .ok (.iconst 1, 1) := by decide +kernel
theorem dX6_placesLeft_51 : decode cX6_placesLeft 51 = .ok (.goto 4, 3) := by decide +kernel
theorem dX6_placesLeft_54 : decode cX6_placesLeft 54 = .ok (.iconst 0, 1) := by decide +kernel
theorem dX6_placesLeft_55 : decode cX6_placesLeft 55 = .ok (.istore 5, 2) := by decide +kernel
theorem dX6_placesLeft_57 : decode cX6_placesLeft 57 = .ok (.iinc 6 1, 3) := by decide +kernel
theorem dX6_placesLeft_60 : decode cX6_placesLeft 60 = .ok (.goto (-42), 3) := by decide +kernel
theorem dX6_placesLeft_63 : decode cX6_placesLeft 63 = .ok (.iload_n 3, 1) := by decide +kernel
theorem dX6_placesLeft_64 : decode cX6_placesLeft 64 = .ok (.iload 5, 2) := by decide +kernel
theorem dX6_placesLeft_66 : decode cX6_placesLeft 66 = .ok (.ifCond .eq 10, 3) := by decide +kernel
theorem dX6_placesLeft_69 : decode cX6_placesLeft 69 = .ok (.iconst 1, 1) := by decide +kernel
theorem dX6_placesLeft_70 : decode cX6_placesLeft 70 = .ok (.iload 4, 2) := by decide +kernel
theorem dX6_placesLeft_72 : decode cX6_placesLeft 72 = .ok (.ishl, 1) := by decide +kernel
theorem dX6_placesLeft_73 : decode cX6_placesLeft 73 = .ok (.goto 4, 3) := by decide +kernel
theorem dX6_placesLeft_76 : decode cX6_placesLeft 76 = .ok (.iconst 0, 1) := by decide +kernel
theorem dX6_placesLeft_77 : decode cX6_placesLeft 77 = .ok (.ior, 1) := by decide +kernel
theorem dX6_placesLeft_78 : decode cX6_placesLeft 78 = .ok (.istore_n 3, 1) := by decide +kernel
theorem dX6_placesLeft_79 : decode cX6_placesLeft 79 = .ok (.iinc 4 1, 3) := by decide +kernel
theorem dX6_placesLeft_82 : decode cX6_placesLeft 82 = .ok (.goto (-77), 3) := by decide +kernel
theorem dX6_placesLeft_85 : decode cX6_placesLeft 85 = .ok (.iload_n 3, 1) := by decide +kernel
theorem dX6_placesLeft_86 : decode cX6_placesLeft 86 = .ok (.ireturn, 1) := by decide +kernel
theorem dX6_isTooFar_0 : decode cX6_isTooFar 0 = .ok (.aload_n 0, 1) := by decide +kernel
theorem dX6_isTooFar_1 : decode cX6_isTooFar 1 = .ok (.getfield 18, 3) := by decide +kernel
theorem dX6_isTooFar_4 : decode cX6_isTooFar 4 = .ok (.getfield 33, 3) := by decide +kernel
theorem dX6_isTooFar_7 : decode cX6_isTooFar 7 = .ok (.bipush 6, 2) := by decide +kernel
theorem dX6_isTooFar_9 : decode cX6_isTooFar 9 = .ok (.aaload, 1) := by decide +kernel
theorem dX6_isTooFar_10 : decode cX6_isTooFar 10 = .ok (.iload_n 1, 1) := by decide +kernel
theorem dX6_isTooFar_11 : decode cX6_isTooFar 11 = .ok (.iaload, 1) := by decide +kernel
theorem dX6_isTooFar_12 : decode cX6_isTooFar 12 = .ok (.iload_n 3, 1) := by decide +kernel
theorem dX6_isTooFar_13 : decode cX6_isTooFar 13 = .ok (.isub, 1) := by decide +kernel
theorem dX6_isTooFar_14 : decode cX6_isTooFar 14 = .ok (.invokestatic 53, 3) := by decide +kernel
theorem dX6_isTooFar_17 : decode cX6_isTooFar 17 = .ok (.istore 5, 2) := by decide +kernel
theorem dX6_isTooFar_19 : decode cX6_isTooFar 19 = .ok (.aload_n 0, 1) := by decide +kernel
theorem dX6_isTooFar_20 : decode cX6_isTooFar 20 = .ok (.getfield 18, 3) := by decide +kernel
theorem dX6_isTooFar_23 : decode cX6_isTooFar 23 = .ok (.getfield 33, 3) := by decide +kernel
theorem dX6_isTooFar_26 : decode cX6_isTooFar 26 = .ok (.iconst 5, 1) := by decide +kernel
theorem dX6_isTooFar_27 : decode cX6_isTooFar 27 = .ok (.aaload, 1) := by decide +kernel
theorem dX6_isTooFar_28 : decode cX6_isTooFar 28 = .ok (.iload_n 1, 1) := by decide +kernel
theorem dX6_isTooFar_29 : decode cX6_isTooFar 29 = .ok (.iaload, 1) := by decide +kernel
theorem dX6_isTooFar_30 : decode cX6_isTooFar 30 = .ok (.iload_n 2, 1) := by decide +kernel
theorem dX6_isTooFar_31 : decode cX6_isTooFar 31 = .ok (.invokestatic 59, 3) := by decide +kernel
theorem dX6_isTooFar_34 : decode cX6_isTooFar 34 = .ok (.iload 4, 2) := by decide +kernel
theorem dX6_isTooFar_36 : decode cX6_isTooFar 36 = .ok (.iload 5, 2) := by decide +kernel
theorem dX6_isTooFar_38 : decode cX6_isTooFar 38 = .ok (.imul, 1) := by decide +kernel
theorem dX6_isTooFar_39 : decode cX6_isTooFar 39 = .ok (.if_icmp .le 7, 3) := by decide +kernel
theorem dX6_isTooFar_42 : decode cX6_isTooFar 42 = .ok (.iconst 1, 1) := by decide +kernel
theorem dX6_isTooFar_43 : decode cX6_isTooFar 43 = .ok (.goto 4, 3) := by decide +kernel
theorem dX6_isTooFar_46 : decode cX6_isTooFar 46 = .ok (.iconst 0, 1) := by decide +kernel
theorem dX6_isTooFar_47 : decode cX6_isTooFar 47 = .ok (.ireturn, 1) := by decide +kernel
theorem dX6_isAgainst_0 : decode cX6_isAgainst 0 = .ok (.aload_n 0, 1) := by decide +kernel
theorem dX6_isAgainst_1 : decode cX6_isAgainst 1 = .ok (.getfield 9, 3) := by decide +kernel
theorem dX6_isAgainst_4 : decode cX6_isAgainst 4 = .ok (.iload_n 2, 1) := by decide +kernel
theorem dX6_isAgainst_5 : decode cX6_isAgainst 5 = .ok (.iaload, 1) := by decide +kernel
theorem dX6_isAgainst_6 : decode cX6_isAgainst 6 = .ok (.istore 4, 2) := by decide +kernel
theorem dX6_isAgainst_8 : decode cX6_isAgainst 8 = .ok (.aload_n 0, 1) := by decide +kernel
theorem dX6_isAgainst_9 : decode cX6_isAgainst 9 = .ok (.aload_n 0, 1) := by decide +kernel
theorem dX6_isAgainst_10 : decode cX6_isAgainst 10 = .ok (.getfield 9, 3) := by decide +kernel
theorem dX6_isAgainst_13 : decode cX6_isAgainst 13 = .ok (.iload_n 1, 1) := by decide +kernel
theorem dX6_isAgainst_14 : decode cX6_isAgainst 14 = .ok (.iaload, 1) := by decide +kernel
theorem dX6_isAgainst_15 : decode cX6_isAgainst 15 = .ok (.aload_n 0, 1) := by decide +kernel
theorem dX6_isAgainst_16 : decode cX6_isAgainst 16 = .ok (.getfield 18, 3) := by decide +kernel
theorem dX6_isAgainst_19 : decode cX6_isAgainst 19 = .ok (.getfield 33, 3) := by decide +kernel
theorem dX6_isAgainst_22 : decode cX6_isAgainst 22 = .ok (.iconst 5, 1) := by decide +kernel
theorem dX6_isAgainst_23 : decode cX6_isAgainst 23 = .ok (.aaload, 1) := by decide +kernel
theorem dX6_isAgainst_24 : decode cX6_isAgainst 24 = .ok (.iload 4, 2) := by decide +kernel
theorem dX6_isAgainst_26 : decode cX6_isAgainst 26 = .ok (.iaload, 1) := by decide +kernel
theorem dX6_isAgainst_27 : decode cX6_isAgainst 27 = .ok (.aload_n 0, 1) := by decide +kernel
theorem dX6_isAgainst_28 : decode cX6_isAgainst 28 = .ok (.getfield 18, 3) := by decide +kernel
theorem dX6_isAgainst_31 : decode cX6_isAgainst 31 = .ok (.getfield 33, 3) := by decide +kernel
theorem dX6_isAgainst_34 : decode cX6_isAgainst 34 = .ok (.bipush 6, 2) := by decide +kernel
theorem dX6_isAgainst_36 : decode cX6_isAgainst 36 = .ok (.aaload, 1) := by decide +kernel
theorem dX6_isAgainst_37 : decode cX6_isAgainst 37 = .ok (.iload 4, 2) := by decide +kernel
theorem dX6_isAgainst_39 : decode cX6_isAgainst 39 = .ok (.iaload, 1) := by decide +kernel
theorem dX6_isAgainst_40 : decode cX6_isAgainst 40 = .ok (.iload_n 3, 1) := by decide +kernel
theorem dX6_isAgainst_41 : decode cX6_isAgainst 41 = .ok (.invokevirtual 49, 3) := by decide +kernel
theorem dX6_isAgainst_44 : decode cX6_isAgainst 44 = .ok (.ireturn, 1) := by decide +kernel
theorem dX6_anyAgainst_0 : decode cX6_anyAgainst 0 = .ok (.iconst 0, 1) := by decide +kernel
theorem dX6_anyAgainst_1 : decode cX6_anyAgainst 1 = .ok (.istore_n 2, 1) := by decide +kernel
theorem dX6_anyAgainst_2 : decode cX6_anyAgainst 2 = .ok (.iload_n 2, 1) := by decide +kernel
theorem dX6_anyAgainst_3 : decode cX6_anyAgainst 3 = .ok (.aload_n 0, 1) := by decide +kernel
theorem dX6_anyAgainst_4 : decode cX6_anyAgainst 4 = .ok (.getfield 26, 3) := by decide +kernel
theorem dX6_anyAgainst_7 : decode cX6_anyAgainst 7 = .ok (.if_icmp .ge 39, 3) := by decide +kernel
theorem dX6_anyAgainst_10 : decode cX6_anyAgainst 10 = .ok (.iload_n 2, 1) := by decide +kernel
theorem dX6_anyAgainst_11 : decode cX6_anyAgainst 11 = .ok (.iconst 1, 1) := by decide +kernel
theorem dX6_anyAgainst_12 : decode cX6_anyAgainst 12 = .ok (.iadd, 1) := by decide +kernel
theorem dX6_anyAgainst_13 : decode cX6_anyAgainst 13 = .ok (.istore_n 3, 1) := by decide +kernel
theorem dX6_anyAgainst_14 : decode cX6_anyAgainst 14 = .ok (.iload_n 3, 1) := by decide +kernel
theorem dX6_anyAgainst_15 : decode cX6_anyAgainst 15 = .ok (.aload_n 0, 1) := by decide +kernel
theorem dX6_anyAgainst_16 : decode cX6_anyAgainst 16 = .ok (.getfield 26, 3) := by decide +kernel
theorem dX6_anyAgainst_19 : decode cX6_anyAgainst 19 = .ok (.if_icmp .ge 21, 3) := by decide +kernel
theorem dX6_anyAgainst_22 : decode cX6_anyAgainst 22 = .ok (.aload_n 0, 1) := by decide +kernel
theorem dX6_anyAgainst_23 : decode cX6_anyAgainst 23 = .ok (.iload_n 2, 1) := by decide +kernel
theorem dX6_anyAgainst_24 : decode cX6_anyAgainst 24 = .ok (.iload_n 3, 1) := by decide +kernel
theorem dX6_anyAgainst_25 : decode cX6_anyAgainst 25 = .ok (.iload_n 1, 1) := by decide +kernel
theorem dX6_anyAgainst_26 : decode cX6_anyAgainst 26 = .ok (.invokevirtual 63, 3) := by decide +kernel
theorem dX6_anyAgainst_29 : decode cX6_anyAgainst 29 = .ok (.ifCond .eq 5, 3) := by decide +kernel
theorem dX6_anyAgainst_32 : decode cX6_anyAgainst 32 = .ok (.iconst 1, 1) := by decide +kernel
theorem dX6_anyAgainst_33 : decode cX6_anyAgainst 33 = .ok (.ireturn, 1) := by decide +kernel
theorem dX6_anyAgainst_34 : decode cX6_anyAgainst 34 = .ok (.iinc 3 1, 3) := by decide +kernel
theorem dX6_anyAgainst_37 : decode cX6_anyAgainst 37 = .ok (.goto (-23), 3) := by decide +kernel
theorem dX6_anyAgainst_40 : decode cX6_anyAgainst 40 = .ok (.iinc 2 1, 3) := by decide +kernel
theorem dX6_anyAgainst_43 : decode cX6_anyAgainst 43 = .ok (.goto (-41), 3) := by decide +kernel
theorem dX6_anyAgainst_46 : decode cX6_anyAgainst 46 = .ok (.iconst 0, 1) := by decide +kernel
theorem dX6_anyAgainst_47 : decode cX6_anyAgainst 47 = .ok (.ireturn, 1) := by decide +kernel
theorem dX6_fewestWrong_0 : decode cX6_fewestWrong 0 = .ok (.aload_n 0, 1) := by decide +kernel
theorem dX6_fewestWrong_1 : decode cX6_fewestWrong 1 = .ok (.getfield 26, 3) := by decide +kernel
theorem dX6_fewestWrong_4 : decode cX6_fewestWrong 4 = .ok (.bipush 10, 2) := by decide +kernel
