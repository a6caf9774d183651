theorem dX10_ask_45 : decode cX10_ask 45 = .ok (.aload_n 0, 1) := by decide +kernel
theorem dX10_ask_46 : decode cX10_ask 46 = .ok (.getfield 19, 3) := by decide +kernel
theorem dX10_ask_49 : decode cX10_ask 49 = .ok (.getfield 29, 3) := by decide +kernel
theorem dX10_ask_52 : decode cX10_ask 52 = .ok (.iload_n 2, 1) := by decide +kernel
theorem dX10_ask_53 : decode cX10_ask 53 = .ok (.invokevirtual 291, 3) := by decide +kernel
theorem dX10_ask_56 : decode cX10_ask 56 = .ok (.ifCond .ne 5, 3) := by decide +kernel
theorem dX10_ask_59 : decode cX10_ask 59 = .ok (.iconst 0, 1) := by decide +kernel
theorem dX10_ask_60 : decode cX10_ask 60 = .ok (.ireturn, 1) := by decide +kernel
theorem dX10_ask_61 : decode cX10_ask 61 = .ok (.aload_n 0, 1) := by decide +kernel
theorem dX10_ask_62 : decode cX10_ask 62 = .ok (.getfield 48, 3) := by decide +kernel
theorem dX10_ask_65 : decode cX10_ask 65 = .ok (.aload_n 0, 1) := by decide +kernel
theorem dX10_ask_66 : decode cX10_ask 66 = .ok (.getfield 19, 3) := by decide +kernel
theorem dX10_ask_69 : decode cX10_ask 69 = .ok (.getfield 42, 3) := by decide +kernel
theorem dX10_ask_72 : decode cX10_ask 72 = .ok (.getfield 93, 3) := by decide +kernel
theorem dX10_ask_75 : decode cX10_ask 75 = .ok (.aload_n 0, 1) := by decide +kernel
theorem dX10_ask_76 : decode cX10_ask 76 = .ok (.getfield 19, 3) := by decide +kernel
theorem dX10_ask_79 : decode cX10_ask 79 = .ok (.getfield 213, 3) := by decide +kernel
theorem dX10_ask_82 : decode cX10_ask 82 = .ok (.invokevirtual 216, 3) := by decide +kernel
theorem dX10_ask_85 : decode cX10_ask 85 = .ok (.ireturn, 1) := by decide +kernel
theorem dX10_far_0 : decode cX10_far 0 = .ok (.aload_n 0, 1) := by decide +kernel
theorem dX10_far_1 : decode cX10_far 1 = .ok (.iload_n 1, 1) := by decide +kernel
theorem dX10_far_2 : decode cX10_far 2 = .ok (.invokevirtual 141, 3) := by decide +kernel
theorem dX10_far_5 : decode cX10_far 5 = .ok (.iload_n 2, 1) := by decide +kernel
theorem dX10_far_6 : decode cX10_far 6 = .ok (.aload_n 0, 1) := by decide +kernel
theorem dX10_far_7 : decode cX10_far 7 = .ok (.getfield 19, 3) := by decide +kernel
theorem dX10_far_10 : decode cX10_far 10 = .ok (.getfield 42, 3) := by decide +kernel
theorem dX10_far_13 : decode cX10_far 13 = .ok (.getfield 93, 3) := by decide +kernel
theorem dX10_far_16 : decode cX10_far 16 = .ok (.invokestatic 295, 3) := by decide +kernel
theorem dX10_far_19 : decode cX10_far 19 = .ok (.istore_n 3, 1) := by decide +kernel
theorem dX10_far_20 : decode cX10_far 20 = .ok (.iload_n 3, 1) := by decide +kernel
theorem dX10_far_21 : decode cX10_far 21 = .ok (.iconst 0, 1) := by decide +kernel
theorem dX10_far_22 : decode cX10_far 22 = .ok (.sipush 400, 3) := by decide +kernel
theorem dX10_far_25 : decode cX10_far 25 = .ok (.invokestatic 67, 3) := by decide +kernel
theorem dX10_far_28 : decode cX10_far 28 = .ok (.iconst 0, 1) := by decide +kernel
theorem dX10_far_29 : decode cX10_far 29 = .ok (.istore 4, 2) := by decide +kernel
theorem dX10_far_31 : decode cX10_far 31 = .ok (.iconst 0, 1) := by decide +kernel
theorem dX10_far_32 : decode cX10_far 32 = .ok (.istore 5, 2) := by decide +kernel
theorem dX10_far_34 : decode cX10_far 34 = .ok (.iload 5, 2) := by decide +kernel
theorem dX10_far_36 : decode cX10_far 36 = .ok (.iconst 4, 1) := by decide +kernel
theorem dX10_far_37 : decode cX10_far 37 = .ok (.if_icmp .ge 43, 3) := by decide +kernel
theorem dX10_far_40 : decode cX10_far 40 = .ok (.iload 5, 2) := by decide +kernel
theorem dX10_far_42 : decode cX10_far 42 = .ok (.ifCond .eq 19, 3) := by decide +kernel
theorem dX10_far_45 : decode cX10_far 45 = .ok (.aload_n 0, 1) := by decide +kernel
theorem dX10_far_46 : decode cX10_far 46 = .ok (.getfield 19, 3) := by decide +kernel
theorem dX10_far_49 : decode cX10_far 49 = .ok (.getfield 96, 3) := by decide +kernel
theorem dX10_far_52 : decode cX10_far 52 = .ok (.getfield 300, 3) := by decide +kernel
theorem dX10_far_55 : decode cX10_far 55 = .ok (.iload 5, 2) := by decide +kernel
theorem dX10_far_57 : decode cX10_far 57 = .ok (.iaload, 1) := by decide +kernel
theorem dX10_far_58 : decode cX10_far 58 = .ok (.ifCond .le 16, 3) := by decide +kernel
theorem dX10_far_61 : decode cX10_far 61 = .ok (.iload 4, 2) := by decide +kernel
theorem dX10_far_63 : decode cX10_far 63 = .ok (.aload_n 0, 1) := by decide +kernel
theorem dX10_far_64 : decode cX10_far 64 = .ok (.iload 5, 2) := by decide +kernel
theorem dX10_far_66 : decode cX10_far 66 = .ok (.iload_n 1, 1) := by decide +kernel
theorem dX10_far_67 : decode cX10_far 67 = .ok (.iload_n 3, 1) := by decide +kernel
theorem dX10_far_68 : decode cX10_far 68 = .ok (.invokevirtual 303, 3) := by decide +kernel
theorem dX10_far_71 : decode cX10_far 71 = .ok (.iadd, 1) := by decide +kernel
theorem dX10_far_72 : decode cX10_far 72 = .ok (.istore 4, 2) := by decide +kernel
theorem dX10_far_74 : decode cX10_far 74 = .ok (.iinc 5 1, 3) := by decide +kernel
theorem dX10_far_77 : decode cX10_far 77 = .ok (.goto (-43), 3) := by decide +kernel
theorem dX10_far_80 : decode cX10_far 80 = .ok (.iload 4, 2) := by decide +kernel
theorem dX10_far_82 : decode cX10_far 82 = .ok (.ireturn, 1) := by decide +kernel
theorem dX10_would_0 : decode cX10_would 0 = .ok (.iload_n 1, 1) := by decide +kernel
theorem dX10_would_1 : decode cX10_would 1 = .ok (.ifCond .lt 17, 3) := by decide +kernel
theorem dX10_would_4 : decode cX10_would 4 = .ok (.iload_n 1, 1) := by decide +kernel
theorem dX10_would_5 : decode cX10_would 5 = .ok (.aload_n 0, 1) := by decide +kernel
theorem dX10_would_6 : decode cX10_would 6 = .ok (.getfield 19, 3) := by decide +kernel
theorem dX10_would_9 : decode cX10_would 9 = .ok (.getfield 25, 3) := by decide +kernel
theorem dX10_would_12 : decode cX10_would 12 = .ok (.getfield 126, 3) := by decide +kernel
theorem dX10_would_15 : decode cX10_would 15 = .ok (.if_icmp .lt 11, 3) := by decide +kernel
theorem dX10_would_18 : decode cX10_would 18 = .ok (.aload_n 0, 1) := by decide +kernel
theorem dX10_would_19 : decode cX10_would 19 = .ok (.getfield 10, 3) := by decide +kernel
theorem dX10_would_22 : decode cX10_would 22 = .ok (.iconst 0, 1) := by decide +kernel
theorem dX10_would_23 : decode cX10_would 23 = .ok (.putfield 60, 3) := by decide +kernel
theorem dX10_would_26 : decode cX10_would 26 = .ok (.aload_n 0, 1) := by decide +kernel
theorem dX10_would_27 : decode cX10_would 27 = .ok (.iload_n 1, 1) := by decide +kernel
theorem dX10_would_28 : decode cX10_would 28 = .ok (.invokevirtual 141, 3) := by decide +kernel
theorem dX10_would_31 : decode cX10_would 31 = .ok (.aload_n 0, 1) := by decide +kernel
theorem dX10_would_32 : decode cX10_would 32 = .ok (.getfield 10, 3) := by decide +kernel
theorem dX10_would_35 : decode cX10_would 35 = .ok (.invokevirtual 103, 3) := by decide +kernel
theorem dX10_would_38 : decode cX10_would 38 = .ok (.invokestatic 107, 3) := by decide +kernel
theorem dX10_would_41 : decode cX10_would 41 = .ok (.aload_n 0, 1) := by decide +kernel
theorem dX10_would_42 : decode cX10_would 42 = .ok (.aload_n 0, 1) := by decide +kernel
theorem dX10_would_43 : decode cX10_would 43 = .ok (.getfield 10, 3) := by decide +kernel
theorem dX10_would_46 : decode cX10_would 46 = .ok (.getfield 111, 3) := by decide +kernel
theorem dX10_would_49 : decode cX10_would 49 = .ok (.invokevirtual 306, 3) := by decide +kernel
theorem dX10_would_52 : decode cX10_would 52 = .ok (.iconst 0, 1) := by decide +kernel
theorem dX10_would_53 : decode cX10_would 53 = .ok (.istore_n 2, 1) := by decide +kernel
theorem dX10_would_54 : decode cX10_would 54 = .ok (.iload_n 2, 1) := by decide +kernel
theorem dX10_would_55 : decode cX10_would 55 = .ok (.aload_n 0, 1) := by decide +kernel
theorem dX10_would_56 : decode cX10_would 56 = .ok (.getfield 19, 3) := by decide +kernel
theorem dX10_would_59 : decode cX10_would 59 = .ok (.getfield 42, 3) := by decide +kernel
theorem dX10_would_62 : decode cX10_would 62 = .ok (.getfield 93, 3) := by decide +kernel
theorem dX10_would_65 : decode cX10_would 65 = .ok (.if_icmp .ge 44, 3) := by decide +kernel
theorem dX10_would_68 : decode cX10_would 68 = .ok (.aload_n 0, 1) := by decide +kernel
theorem dX10_would_69 : decode cX10_would 69 = .ok (.getfield 36, 3) := by decide +kernel
theorem dX10_would_72 : decode cX10_would 72 = .ok (.getfield 188, 3) := by decide +kernel
theorem dX10_would_75 : decode cX10_would 75 = .ok (.iload_n 1, 1) := by decide +kernel
theorem dX10_would_76 : decode cX10_would 76 = .ok (.iaload, 1) := by decide +kernel
theorem dX10_would_77 : decode cX10_would 77 = .ok (.iconst (-1), 1) := by decide +kernel
theorem dX10_would_78 : decode cX10_would 78 = .ok (.if_icmp .ne 31, 3) := by decide +kernel
theorem dX10_would_81 : decode cX10_would 81 = .ok (.aload_n 0, 1) := by decide +kernel
theorem dX10_would_82 : decode cX10_would 82 = .ok (.getfield 36, 3) := by decide +kernel
theorem dX10_would_85 : decode cX10_would 85 = .ok (.aload_n 0, 1) := by decide +kernel
theorem dX10_would_86 : decode cX10_would 86 = .ok (.getfield 19, 3) := by decide +kernel
theorem dX10_would_89 : decode cX10_would 89 = .ok (.getfield 96, 3) := by decide +kernel
theorem dX10_would_92 : decode cX10_would 92 = .ok (.iconst 0, 1) := by decide +kernel
theorem dX10_would_93 : decode cX10_would 93 = .ok (.invokevirtual 309, 3) := by decide +kernel
theorem dX10_would_96 : decode cX10_would 96 = .ok (.aload_n 0, 1) := by decide +kernel
theorem dX10_would_97 : decode cX10_would 97 = .ok (.getfield 36, 3) := by decide +kernel
theorem dX10_would_100 : decode cX10_would 100 = .ok (.invokevirtual 313, 3) := by decide +kernel
theorem dX10_would_103 : decode cX10_would 103 = .ok (.iinc 2 1, 3) := by decide +kernel
theorem dX10_would_106 : decode cX10_would 106 = .ok (.goto (-52), 3) := by decide +kernel
theorem dX10_would_109 : decode cX10_would 109 = .ok (.aload_n 0, 1) := by decide +kernel
theorem dX10_would_110 : decode cX10_would 110 = .ok (.getfield 36, 3) := by decide +kernel
theorem dX10_would_113 : decode cX10_would 113 = .ok (.getfield 188, 3) := by decide +kernel
theorem dX10_would_116 : decode cX10_would 116 = .ok (.iload_n 1, 1) := by decide +kernel
theorem dX10_would_117 : decode cX10_would 117 = .ok (.iaload, 1) := by decide +kernel
theorem dX10_would_118 : decode cX10_would 118 = .ok (.ireturn, 1) := by decide +kernel
theorem dX10_tear_0 : decode cX10_tear 0 = .ok (.iload_n 1, 1) := by decide +kernel
theorem dX10_tear_1 : decode cX10_tear 1 = .ok (.aload_n 0, 1) := by decide +kernel
theorem dX10_tear_2 : decode cX10_tear 2 = .ok (.getfield 19, 3) := by decide +kernel
theorem dX10_tear_5 : decode cX10_tear 5 = .ok (.getfield 316, 3) := by decide +kernel
theorem dX10_tear_8 : decode cX10_tear 8 = .ok (.getfield 320, 3) := by decide +kernel
theorem dX10_tear_11 : decode cX10_tear 11 = .ok (.invokestatic 154, 3) := by decide +kernel
theorem dX10_tear_14 : decode cX10_tear 14 = .ok (.aload_n 0, 1) := by decide +kernel
theorem dX10_tear_15 : decode cX10_tear 15 = .ok (.getfield 19, 3) := by decide +kernel
theorem dX10_tear_18 : decode cX10_tear 18 = .ok (.getfield 316, 3) := by decide +kernel
theorem dX10_tear_21 : decode cX10_tear 21 = .ok (.getfield 323, 3) := by decide +kernel
theorem dX10_tear_24 : decode cX10_tear 24 = .ok (.iload_n 1, 1) := by decide +kernel
theorem dX10_tear_25 : decode cX10_tear 25 = .ok (.dup2, 1) := by decide +kernel
theorem dX10_tear_26 : decode cX10_tear 26 = .ok (.iaload, 1) := by decide +kernel
theorem dX10_tear_27 : decode cX10_tear 27 = .ok (.iload_n 2, 1) := by decide +kernel
theorem dX10_tear_28 : decode cX10_tear 28 = .ok (.ixor, 1) := by decide +kernel
theorem dX10_tear_29 : decode cX10_tear 29 = .ok (.iastore, 1) := by decide +kernel
theorem dX10_tear_30 : decode cX10_tear 30 = .ok (.aload_n 0, 1) := by decide +kernel
theorem dX10_tear_31 : decode cX10_tear 31 = .ok (.getfield 19, 3) := by decide +kernel
theorem dX10_tear_34 : decode cX10_tear 34 = .ok (.getfield 316, 3) := by decide +kernel
theorem dX10_tear_37 : decode cX10_tear 37 = .ok (.getfield 323, 3) := by decide +kernel
theorem dX10_tear_40 : decode cX10_tear 40 = .ok (.iload_n 1, 1) := by decide +kernel
theorem dX10_tear_41 : decode cX10_tear 41 = .ok (.iaload, 1) := by decide +kernel
theorem dX10_tear_42 : decode cX10_tear 42 = .ok (.ireturn, 1) := by decide +kernel
theorem dX10_check_0 : decode cX10_check 0 = .ok (.aload_n 0, 1) := by decide +kernel
theorem dX10_check_1 : decode cX10_check 1 = .ok (.getfield 19, 3) := by decide +kernel
theorem dX10_check_4 : decode cX10_check 4 = .ok (.getfield 316, 3) := by decide +kernel
theorem dX10_check_7 : decode cX10_check 7 = .ok (.invokevirtual 326, 3) := by decide +kernel
theorem dX10_check_10 : decode cX10_check 10 = .ok (.ireturn, 1) := by decide +kernel
theorem dX10_image_0 : decode cX10_image 0 = .ok (.aload_n 0, 1) := by decide +kernel
theorem dX10_image_1 : decode cX10_image 1 = .ok (.getfield 329, 3) := by decide +kernel
theorem dX10_image_4 : decode cX10_image 4 = .ok (.ifnonnull 14, 3) := by decide +kernel
theorem dX10_image_7 : decode cX10_image 7 = .ok (.aload_n 0, 1) := by decide +kernel
theorem dX10_image_8 : decode cX10_image 8 = .ok (.new 16, 3) := by decide +kernel
theorem dX10_image_11 : decode cX10_image 11 = .ok (.dup, 1) := by decide +kernel
theorem dX10_image_12 : decode cX10_image 12 = .ok (.invokespecial 18, 3) := by decide +kernel
theorem dX10_image_15 : decode cX10_image 15 = .ok (.putfield 329, 3) := by decide +kernel
theorem dX10_image_18 : decode cX10_image 18 = .ok (.aload_n 0, 1) := by decide +kernel
theorem dX10_image_19 : decode cX10_image 19 = .ok (.getfield 329, 3) := by decide +kernel
theorem dX10_image_22 : decode cX10_image 22 = .ok (.aload_n 0, 1) := by decide +kernel
theorem dX10_image_23 : decode cX10_image 23 = .ok (.getfield 19, 3) := by decide +kernel
theorem dX10_image_26 : decode cX10_image 26 = .ok (.invokevirtual 332, 3) := by decide +kernel
theorem dX10_image_29 : decode cX10_image 29 = .ok (.return_, 1) := by decide +kernel
theorem dX10_back_0 : decode cX10_back 0 = .ok (.aload_n 0, 1) := by decide +kernel
theorem dX10_back_1 : decode cX10_back 1 = .ok (.getfield 329, 3) := by decide +kernel
theorem dX10_back_4 : decode cX10_back 4 = .ok (.ifnonnull 5, 3) := by decide +kernel
theorem dX10_back_7 : decode cX10_back 7 = .ok (.iconst 0, 1) := by decide +kernel
theorem dX10_back_8 : decode cX10_back 8 = .ok (.ireturn, 1) := by decide +kernel
theorem dX10_back_9 : decode cX10_back 9 = .ok (.aload_n 0, 1) := by decide +kernel
theorem dX10_back_10 : decode cX10_back 10 = .ok (.getfield 19, 3) := by decide +kernel
theorem dX10_back_13 : decode cX10_back 13 = .ok (.aload_n 0, 1) := by decide +kernel
theorem dX10_back_14 : decode cX10_back 14 = .ok (.getfield 329, 3) := by decide +kernel
theorem dX10_back_17 : decode cX10_back 17 = .ok (.invokevirtual 332, 3) := by decide +kernel
theorem dX10_back_20 : decode cX10_back 20 = .ok (.iconst 1, 1) := by decide +kernel
theorem dX10_back_21 : decode cX10_back 21 = .ok (.ireturn, 1) := by decide +kernel
theorem dX10_count_0 : decode cX10_count 0 = .ok (.iload_n 1, 1) := by decide +kernel
theorem dX10_count_1 : decode cX10_count 1 = .ok (.tableswitch 199 0 11 #[63, 74, 85, 96, 107, 119, 131, 144, 155, 166, 177, 188], 63) := by decide +kernel
theorem dX10_count_64 : decode cX10_count 64 = .ok (.aload_n 0, 1) := by decide +kernel
theorem dX10_count_65 : decode cX10_count 65 = .ok (.getfield 19, 3) := by decide +kernel
theorem dX10_count_68 : decode cX10_count 68 = .ok (.getfield 42, 3) := by decide +kernel
theorem dX10_count_71 : decode cX10_count 71 = .ok (.getfield 93, 3) := by decide +kernel
theorem dX10_count_74 : decode cX10_count 74 = .ok (.ireturn, 1) := by decide +kernel
theorem dX10_count_75 : decode cX10_count 75 = .ok (.aload_n 0, 1) := by decide +kernel
theorem dX10_count_76 : decode cX10_count 76 = .ok (.getfield 19, 3) := by decide +kernel
theorem dX10_count_79 : decode cX10_count 79 = .ok (.getfield 42, 3) := by decide +kernel
theorem dX10_count_82 : decode cX10_count 82 = .ok (.getfield 71, 3) := by decide +kernel
theorem dX10_count_85 : decode cX10_count 85 = .ok (.ireturn, 1) := by decide +kernel
theorem dX10_count_86 : decode cX10_count 86 = .ok (.aload_n 0, 1) := by decide +kernel
theorem dX10_count_87 : decode cX10_count 87 = .ok (.getfield 19, 3) := by decide +kernel
theorem dX10_count_90 : decode cX10_count 90 = .ok (.getfield 25, 3) := by decide +kernel
theorem dX10_count_93 : decode cX10_count 93 = .ok (.getfield 126, 3) := by decide +kernel
theorem dX10_count_96 : decode cX10_count 96 = .ok (.ireturn, 1) := by decide +kernel
theorem dX10_count_97 : decode cX10_count 97 = .ok (.aload_n 0, 1) := by decide +kernel
theorem dX10_count_98 : decode cX10_count 98 = .ok (.getfield 19, 3) := by decide +kernel
theorem dX10_count_101 : decode cX10_count 101 = .ok (.getfield 29, 3) := by decide +kernel
theorem dX10_count_104 : decode cX10_count 104 = .ok (.getfield 120, 3) := by decide +kernel
theorem dX10_count_107 : decode cX10_count 107 = .ok (.ireturn, 1) := by decide +kernel
theorem dX10_count_108 : decode cX10_count 108 = .ok (.aload_n 0, 1) := by decide +kernel
theorem dX10_count_109 : decode cX10_count 109 = .ok (.getfield 19, 3) := by decide +kernel
theorem dX10_count_112 : decode cX10_count 112 = .ok (.getfield 42, 3) := by decide +kernel
theorem dX10_count_115 : decode cX10_count 115 = .ok (.iconst 2, 1) := by decide +kernel
theorem dX10_count_116 : decode cX10_count 116 = .ok (.invokevirtual 335, 3) := by decide +kernel
theorem dX10_count_119 : decode cX10_count 119 = .ok (.ireturn, 1) := by decide +kernel
theorem dX10_count_120 : decode cX10_count 120 = .ok (.aload_n 0, 1) := by decide +kernel
theorem dX10_count_121 : decode cX10_count 121 = .ok (.getfield 19, 3) := by decide +kernel
theorem dX10_count_124 : decode cX10_count 124 = .ok (.getfield 42, 3) := by decide +kernel
theorem dX10_count_127 : decode cX10_count 127 = .ok (.iconst 5, 1) := by decide +kernel
theorem dX10_count_128 : decode cX10_count 128 = .ok (.invokevirtual 335, 3) := by decide +kernel
theorem dX10_count_131 : decode cX10_count 131 = .ok (.ireturn, 1) := by decide +kernel
theorem dX10_count_132 : decode cX10_count 132 = .ok (.aload_n 0, 1) := by decide +kernel
theorem dX10_count_133 : decode cX10_count 133 = .ok (.getfield 19, 3) := by decide +kernel
theorem dX10_count_136 : decode cX10_count 136 = .ok (.getfield 42, 3) := by decide +kernel
theorem dX10_count_139 : decode cX10_count 139 = .ok (.bipush 7, 2) := by decide +kernel
theorem dX10_count_141 : decode cX10_count 141 = .ok (.invokevirtual 335, 3) := by decide +kernel
theorem dX10_count_144 : decode cX10_count 144 = .ok (.ireturn, 1) := by decide +kernel
theorem dX10_count_145 : decode cX10_count 145 = .ok (.aload_n 0, 1) := by decide +kernel
theorem dX10_count_146 : decode cX10_count 146 = .ok (.getfield 19, 3) := by decide +kernel
theorem dX10_count_149 : decode cX10_count 149 = .ok (.getfield 42, 3) := by decide +kernel
theorem dX10_count_152 : decode cX10_count 152 = .ok (.invokevirtual 338, 3) := by decide +kernel
theorem dX10_count_155 : decode cX10_count 155 = .ok (.ireturn, 1) := by decide +kernel
theorem dX10_count_156 : decode cX10_count 156 = .ok (.aload_n 0, 1) := by decide +kernel
theorem dX10_count_157 : decode cX10_count 157 = .ok (.getfield 19, 3) := by decide +kernel
theorem dX10_count_160 : decode cX10_count 160 = .ok (.getfield 232, 3) := by decide +kernel
theorem dX10_count_163 : decode cX10_count 163 = .ok (.getfield 253, 3) := by decide +kernel
theorem dX10_count_166 : decode cX10_count 166 = .ok (.ireturn, 1) := by decide +kernel
theorem dX10_count_167 : decode cX10_count 167 = .ok (.aload_n 0, 1) := by decide +kernel
theorem dX10_count_168 : decode cX10_count 168 = .ok (.getfield 19, 3) := by decide +kernel
theorem dX10_count_171 : decode cX10_count 171 = .ok (.getfield 257, 3) := by decide +kernel
theorem dX10_count_174 : decode cX10_count 174 = .ok (.getfield 261, 3) := by decide +kernel
theorem dX10_count_177 : decode cX10_count 177 = .ok (.ireturn, 1) := by decide +kernel
theorem dX10_count_178 : decode cX10_count 178 = .ok (.aload_n 0, 1) := by decide +kernel
theorem dX10_count_179 : decode cX10_count 179 = .ok (.getfield 19, 3) := by decide +kernel
theorem dX10_count_182 : decode cX10_count 182 = .ok (.getfield 257, 3) := by decide +kernel
theorem dX10_count_185 : decode cX10_count 185 = .ok (.getfield 270, 3) := by decide +kernel
theorem dX10_count_188 : decode cX10_count 188 = .ok (.ireturn, 1) := by decide +kernel
theorem dX10_count_189 : decode cX10_count 189 = .ok (.aload_n 0, 1) := by decide +kernel
theorem dX10_count_190 : decode cX10_count 190 = .ok (.getfield 19, 3) := by decide +kernel
theorem dX10_count_193 : decode cX10_count 193 = .ok (.getfield 96, 3) := by decide +kernel
theorem dX10_count_196 : decode cX10_count 196 = .ok (.invokevirtual 341, 3) := by decide +kernel
theorem dX10_count_199 : decode cX10_count 199 = .ok (.ireturn, 1) := by decide +kernel
theorem dX10_count_200 : decode cX10_count 200 = .ok (.iconst (-1), 1) := by decide +kernel
theorem dX10_count_201 : decode cX10_count 201 = .ok (.ireturn, 1) := by decide +kernel
theorem dX10_needIndex_0 : decode cX10_needIndex 0 = .ok (.iload_n 0, 1) := by decide +kernel
theorem dX10_needIndex_1 : decode cX10_needIndex 1 = .ok (.ifCond .lt 8, 3) := by decide +kernel
theorem dX10_needIndex_4 : decode cX10_needIndex 4 = .ok (.iload_n 0, 1) := by decide +kernel
theorem dX10_needIndex_5 : decode cX10_needIndex 5 = .ok (.iload_n 1, 1) := by decide +kernel
theorem dX10_needIndex_6 : decode cX10_needIndex 6 = .ok (.if_icmp .lt 14, 3) := by decide +kernel
theorem dX10_needIndex_9 : decode cX10_needIndex 9 = .ok (.new 344, 3) := by decide +kernel
theorem dX10_needIndex_12 : decode cX10_needIndex 12 = .ok (.dup, 1) := by decide +kernel
theorem dX10_needIndex_13 : decode cX10_needIndex 13 = .ok (.ldc_w 346, 3) := by decide +kernel
theorem dX10_needIndex_16 : decode cX10_needIndex 16 = .ok (.invokespecial 348, 3) := by decide +kernel
theorem dX10_needIndex_19 : decode cX10_needIndex 19 = .ok (.athrow, 1) := by decide +kernel
theorem dX10_needIndex_20 : decode cX10_needIndex 20 = .ok (.return_, 1) := by decide +kernel
theorem dX10_needPlace_0 : decode cX10_needPlace 0 = .ok (.iload_n 0, 1) := by decide +kernel
theorem dX10_needPlace_1 : decode cX10_needPlace 1 = .ok (.bipush 16, 2) := by decide +kernel
theorem dX10_needPlace_3 : decode cX10_needPlace 3 = .ok (.invokestatic 87, 3) := by decide +kernel
theorem dX10_needPlace_6 : decode cX10_needPlace 6 = .ok (.return_, 1) := by decide +kernel
theorem dX10_needPhone_0 : decode cX10_needPhone 0 = .ok (.iload_n 1, 1) := by decide +kernel
theorem dX10_needPhone_1 : decode cX10_needPhone 1 = .ok (.aload_n 0, 1) := by decide +kernel
theorem dX10_needPhone_2 : decode cX10_needPhone 2 = .ok (.getfield 19, 3) := by decide +kernel
theorem dX10_needPhone_5 : decode cX10_needPhone 5 = .ok (.getfield 42, 3) := by decide +kernel
theorem dX10_needPhone_8 : decode cX10_needPhone 8 = .ok (.getfield 71, 3) := by decide +kernel
theorem dX10_needPhone_11 : decode cX10_needPhone 11 = .ok (.invokestatic 87, 3) := by decide +kernel
theorem dX10_needPhone_14 : decode cX10_needPhone 14 = .ok (.return_, 1) := by decide +kernel
theorem dX10_needWord_0 : decode cX10_needWord 0 = .ok (.iload_n 1, 1) := by decide +kernel
theorem dX10_needWord_1 : decode cX10_needWord 1 = .ok (.aload_n 0, 1) := by decide +kernel
theorem dX10_needWord_2 : decode cX10_needWord 2 = .ok (.getfield 19, 3) := by decide +kernel
theorem dX10_needWord_5 : decode cX10_needWord 5 = .ok (.getfield 25, 3) := by decide +kernel
theorem dX10_needWord_8 : decode cX10_needWord 8 = .ok (.getfield 126, 3) := by decide +kernel
theorem dX10_needWord_11 : decode cX10_needWord 11 = .ok (.invokestatic 87, 3) := by decide +kernel
theorem dX10_needWord_14 : decode cX10_needWord 14 = .ok (.return_, 1) := by decide +kernel
theorem dX10_needWithin_0 : decode cX10_needWithin 0 = .ok (.iload_n 0, 1) := by decide +kernel
theorem dX10_needWithin_1 : decode cX10_needWithin 1 = .ok (.iload_n 1, 1) := by decide +kernel
theorem dX10_needWithin_2 : decode cX10_needWithin 2 = .ok (.if_icmp .lt 8, 3) := by decide +kernel
theorem dX10_needWithin_5 : decode cX10_needWithin 5 = .ok (.iload_n 0, 1) := by decide +kernel
theorem dX10_needWithin_6 : decode cX10_needWithin 6 = .ok (.iload_n 2, 1) := by decide +kernel
theorem dX10_needWithin_7 : decode cX10_needWithin 7 = .ok (.if_icmp .le 14, 3) := by decide +kernel
theorem dX10_needWithin_10 : decode cX10_needWithin 10 = .ok (.new 351, 3) := by decide +kernel
theorem dX10_needWithin_13 : decode cX10_needWithin 13 = .ok (.dup, 1) := by decide +kernel
theorem dX10_needWithin_14 : decode cX10_needWithin 14 = .ok (.ldc_w 353, 3) := by decide +kernel
theorem dX10_needWithin_17 : decode cX10_needWithin 17 = .ok (.invokespecial 355, 3) := by decide +kernel
theorem dX10_needWithin_20 : decode cX10_needWithin 20 = .ok (.athrow, 1) := by decide +kernel
theorem dX10_needWithin_21 : decode cX10_needWithin 21 = .ok (.return_, 1) := by decide +kernel
theorem dX10_needSpace_0 : decode cX10_needSpace 0 = .ok (.iload_n 0, 1) := by decide +kernel
theorem dX10_needSpace_1 : decode cX10_needSpace 1 = .ok (.iload_n 1, 1) := by decide +kernel
theorem dX10_needSpace_2 : decode cX10_needSpace 2 = .ok (.if_icmp .lt 14, 3) := by decide +kernel
theorem dX10_needSpace_5 : decode cX10_needSpace 5 = .ok (.new 356, 3) := by decide +kernel
theorem dX10_needSpace_8 : decode cX10_needSpace 8 = .ok (.dup, 1) := by decide +kernel
theorem dX10_needSpace_9 : decode cX10_needSpace 9 = .ok (.ldc_w 358, 3) := by decide +kernel
theorem dX10_needSpace_12 : decode cX10_needSpace 12 = .ok (.invokespecial 360, 3) := by decide +kernel
theorem dX10_needSpace_15 : decode cX10_needSpace 15 = .ok (.athrow, 1) := by decide +kernel
theorem dX10_needSpace_16 : decode cX10_needSpace 16 = .ok (.return_, 1) := by decide +kernel
theorem dX10_needWhat_0 : decode cX10_needWhat 0 = .ok (.iload_n 0, 1) := by decide +kernel
theorem dX10_needWhat_1 : decode cX10_needWhat 1 = .ok (.ifCond .lt 8, 3) := by decide +kernel
theorem dX10_needWhat_4 : decode cX10_needWhat 4 = .ok (.iload_n 0, 1) := by decide +kernel
theorem dX10_needWhat_5 : decode cX10_needWhat 5 = .ok (.iload_n 1, 1) := by decide +kernel
theorem dX10_needWhat_6 : decode cX10_needWhat 6 = .ok (.if_icmp .lt 14, 3) := by decide +kernel
theorem dX10_needWhat_9 : decode cX10_needWhat 9 = .ok (.new 361, 3) := by decide +kernel
theorem dX10_needWhat_12 : decode cX10_needWhat 12 = .ok (.dup, 1) := by decide +kernel
theorem dX10_needWhat_13 : decode cX10_needWhat 13 = .ok (.ldc_w 346, 3) := by decide +kernel
theorem dX10_needWhat_16 : decode cX10_needWhat 16 = .ok (.invokespecial 363, 3) := by decide +kernel
theorem dX10_needWhat_19 : decode cX10_needWhat 19 = .ok (.athrow, 1) := by decide +kernel
theorem dX10_needWhat_20 : decode cX10_needWhat 20 = .ok (.return_, 1) := by decide +kernel
theorem dX10_needTickZero_0 : decode cX10_needTickZero 0 = .ok (.aload_n 0, 1) := by decide +kernel
theorem dX10_needTickZero_1 : decode cX10_needTickZero 1 = .ok (.getfield 19, 3) := by decide +kernel
theorem dX10_needTickZero_4 : decode cX10_needTickZero 4 = .ok (.getfield 42, 3) := by decide +kernel
theorem dX10_needTickZero_7 : decode cX10_needTickZero 7 = .ok (.getfield 93, 3) := by decide +kernel
theorem dX10_needTickZero_10 : decode cX10_needTickZero 10 = .ok (.ifCond .le 14, 3) := by decide +kernel
theorem dX10_needTickZero_13 : decode cX10_needTickZero 13 = .ok (.new 364, 3) := by decide +kernel
theorem dX10_needTickZero_16 : decode cX10_needTickZero 16 = .ok (.dup, 1) := by decide +kernel
theorem dX10_needTickZero_17 : decode cX10_needTickZero 17 = .ok (.ldc_w 366, 3) := by decide +kernel
theorem dX10_needTickZero_20 : decode cX10_needTickZero 20 = .ok (.invokespecial 368, 3) := by decide +kernel
theorem dX10_needTickZero_23 : decode cX10_needTickZero 23 = .ok (.athrow, 1) := by decide +kernel
theorem dX10_needTickZero_24 : decode cX10_needTickZero 24 = .ok (.return_, 1) := by decide +kernel
theorem dX10_needGood_0 : decode cX10_needGood 0 = .ok (.iload_n 0, 1) := by decide +kernel
theorem dX10_needGood_1 : decode cX10_needGood 1 = .ok (.ifCond .ne 14, 3) := by decide +kernel
theorem dX10_needGood_4 : decode cX10_needGood 4 = .ok (.new 351, 3) := by decide +kernel
theorem dX10_needGood_7 : decode cX10_needGood 7 = .ok (.dup, 1) := by decide +kernel
theorem dX10_needGood_8 : decode cX10_needGood 8 = .ok (.ldc_w 369, 3) := by decide +kernel
theorem dX10_needGood_11 : decode cX10_needGood 11 = .ok (.invokespecial 355, 3) := by decide +kernel
theorem dX10_needGood_14 : decode cX10_needGood 14 = .ok (.athrow, 1) := by decide +kernel
theorem dX10_needGood_15 : decode cX10_needGood 15 = .ok (.return_, 1) := by decide +kernel
theorem dX10_beginTrial_0 : decode cX10_beginTrial 0 = .ok (.aload_n 0, 1) := by decide +kernel
theorem dX10_beginTrial_1 : decode cX10_beginTrial 1 = .ok (.getfield 36, 3) := by decide +kernel
theorem dX10_beginTrial_4 : decode cX10_beginTrial 4 = .ok (.aload_n 0, 1) := by decide +kernel
theorem dX10_beginTrial_5 : decode cX10_beginTrial 5 = .ok (.getfield 19, 3) := by decide +kernel
theorem dX10_beginTrial_8 : decode cX10_beginTrial 8 = .ok (.getfield 42, 3) := by decide +kernel
theorem dX10_beginTrial_11 : decode cX10_beginTrial 11 = .ok (.getfield 93, 3) := by decide +kernel
theorem dX10_beginTrial_14 : decode cX10_beginTrial 14 = .ok (.ifCond .ne 13, 3) := by decide +kernel
theorem dX10_beginTrial_17 : decode cX10_beginTrial 17 = .ok (.aload_n 0, 1) := by decide +kernel
theorem dX10_beginTrial_18 : decode cX10_beginTrial 18 = .ok (.getfield 19, 3) := by decide +kernel
theorem dX10_beginTrial_21 : decode cX10_beginTrial 21 = .ok (.getfield 42, 3) := by decide +kernel
theorem dX10_beginTrial_24 : decode cX10_beginTrial 24 = .ok (.goto 10, 3) := by decide +kernel
theorem dX10_beginTrial_27 : decode cX10_beginTrial 27 = .ok (.aload_n 0, 1) := by decide +kernel
theorem dX10_beginTrial_28 : decode cX10_beginTrial 28 = .ok (.getfield 19, 3) := by decide +kernel
theorem dX10_beginTrial_31 : decode cX10_beginTrial 31 = .ok (.getfield 371, 3) := by decide +kernel
theorem dX10_beginTrial_34 : decode cX10_beginTrial 34 = .ok (.invokevirtual 374, 3) := by decide +kernel
theorem dX10_beginTrial_37 : decode cX10_beginTrial 37 = .ok (.aload_n 0, 1) := by decide +kernel
theorem dX10_beginTrial_38 : decode cX10_beginTrial 38 = .ok (.getfield 36, 3) := by decide +kernel
theorem dX10_beginTrial_41 : decode cX10_beginTrial 41 = .ok (.aload_n 1, 1) := by decide +kernel
theorem dX10_beginTrial_42 : decode cX10_beginTrial 42 = .ok (.putfield 377, 3) := by decide +kernel
theorem dX10_beginTrial_45 : decode cX10_beginTrial 45 = .ok (.return_, 1) := by decide +kernel
theorem dX10_spreadOn_0 : decode cX10_spreadOn 0 = .ok (.aload_n 0, 1) := by decide +kernel
theorem dX10_spreadOn_1 : decode cX10_spreadOn 1 = .ok (.aload_n 0, 1) := by decide +kernel
theorem dX10_spreadOn_2 : decode cX10_spreadOn 2 = .ok (.getfield 19, 3) := by decide +kernel
theorem dX10_spreadOn_5 : decode cX10_spreadOn 5 = .ok (.getfield 29, 3) := by decide +kernel
theorem dX10_spreadOn_8 : decode cX10_spreadOn 8 = .ok (.invokevirtual 306, 3) := by decide +kernel
theorem dX10_spreadOn_11 : decode cX10_spreadOn 11 = .ok (.iconst 0, 1) := by decide +kernel
theorem dX10_spreadOn_12 : decode cX10_spreadOn 12 = .ok (.istore 4, 2) := by decide +kernel
theorem dX10_spreadOn_14 : decode cX10_spreadOn 14 = .ok (.iload 4, 2) := by decide +kernel
theorem dX10_spreadOn_16 : decode cX10_spreadOn 16 = .ok (.iload_n 3, 1) := by decide +kernel
theorem dX10_spreadOn_17 : decode cX10_spreadOn 17 = .ok (.if_icmp .ge 31, 3) := by decide +kernel
theorem dX10_spreadOn_20 : decode cX10_spreadOn 20 = .ok (.aload_n 0, 1) := by decide +kernel
theorem dX10_spreadOn_21 : decode cX10_spreadOn 21 = .ok (.getfield 36, 3) := by decide +kernel
theorem dX10_spreadOn_24 : decode cX10_spreadOn 24 = .ok (.aload_n 0, 1) := by decide +kernel
theorem dX10_spreadOn_25 : decode cX10_spreadOn 25 = .ok (.getfield 19, 3) := by decide +kernel
theorem dX10_spreadOn_28 : decode cX10_spreadOn 28 = .ok (.getfield 96, 3) := by decide +kernel
theorem dX10_spreadOn_31 : decode cX10_spreadOn 31 = .ok (.iload_n 1, 1) := by decide +kernel
theorem dX10_spreadOn_32 : decode cX10_spreadOn 32 = .ok (.invokevirtual 309, 3) := by decide +kernel
theorem dX10_spreadOn_35 : decode cX10_spreadOn 35 = .ok (.aload_n 0, 1) := by decide +kernel
theorem dX10_spreadOn_36 : decode cX10_spreadOn 36 = .ok (.getfield 36, 3) := by decide +kernel
theorem dX10_spreadOn_39 : decode cX10_spreadOn 39 = .ok (.invokevirtual 313, 3) := by decide +kernel
theorem dX10_spreadOn_42 : decode cX10_spreadOn 42 = .ok (.iinc 4 1, 3) := by decide +kernel
theorem dX10_spreadOn_45 : decode cX10_spreadOn 45 = .ok (.goto (-31), 3) := by decide +kernel
theorem dX10_spreadOn_48 : decode cX10_spreadOn 48 = .ok (.aload_n 0, 1) := by decide +kernel
theorem dX10_spreadOn_49 : decode cX10_spreadOn 49 = .ok (.getfield 36, 3) := by decide +kernel
theorem dX10_spreadOn_52 : decode cX10_spreadOn 52 = .ok (.getfield 181, 3) := by decide +kernel
theorem dX10_spreadOn_55 : decode cX10_spreadOn 55 = .ok (.iload_n 2, 1) := by decide +kernel
theorem dX10_spreadOn_56 : decode cX10_spreadOn 56 = .ok (.iaload, 1) := by decide +kernel
theorem dX10_spreadOn_57 : decode cX10_spreadOn 57 = .ok (.ireturn, 1) := by decide +kernel
theorem dX10_steps_0 : decode cX10_steps 0 = .ok (.iload_n 0, 1) := by decide +kernel
theorem dX10_steps_1 : decode cX10_steps 1 = .ok (.iconst 4, 1) := by decide +kernel
theorem dX10_steps_2 : decode cX10_steps 2 = .ok (.irem, 1) := by decide +kernel
theorem dX10_steps_3 : decode cX10_steps 3 = .ok (.iload_n 1, 1) := by decide +kernel
theorem dX10_steps_4 : decode cX10_steps 4 = .ok (.iconst 4, 1) := by decide +kernel
theorem dX10_steps_5 : decode cX10_steps 5 = .ok (.irem, 1) := by decide +kernel
theorem dX10_steps_6 : decode cX10_steps 6 = .ok (.isub, 1) := by decide +kernel
theorem dX10_steps_7 : decode cX10_steps 7 = .ok (.invokestatic 378, 3) := by decide +kernel
theorem dX10_steps_10 : decode cX10_steps 10 = .ok (.iload_n 0, 1) := by decide +kernel
theorem dX10_steps_11 : decode cX10_steps 11 = .ok (.iconst 4, 1) := by decide +kernel
theorem dX10_steps_12 : decode cX10_steps 12 = .ok (.idiv, 1) := by decide +kernel
theorem dX10_steps_13 : decode cX10_steps 13 = .ok (.iload_n 1, 1) := by decide +kernel
theorem dX10_steps_14 : decode cX10_steps 14 = .ok (.iconst 4, 1) := by decide +kernel
theorem dX10_steps_15 : decode cX10_steps 15 = .ok (.idiv, 1) := by decide +kernel
theorem dX10_steps_16 : decode cX10_steps 16 = .ok (.isub, 1) := by decide +kernel
theorem dX10_steps_17 : decode cX10_steps 17 = .ok (.invokestatic 378, 3) := by decide +kernel
theorem dX10_steps_20 : decode cX10_steps 20 = .ok (.iadd, 1) := by decide +kernel
theorem dX10_steps_21 : decode cX10_steps 21 = .ok (.ireturn, 1) := by decide +kernel
theorem dX10_copyRow_0 : decode cX10_copyRow 0 = .ok (.aload_n 0, 1) := by decide +kernel
theorem dX10_copyRow_1 : decode cX10_copyRow 1 = .ok (.iconst 0, 1) := by decide +kernel
theorem dX10_copyRow_2 : decode cX10_copyRow 2 = .ok (.aload_n 1, 1) := by decide +kernel
theorem dX10_copyRow_3 : decode cX10_copyRow 3 = .ok (.iconst 0, 1) := by decide +kernel
theorem dX10_copyRow_4 : decode cX10_copyRow 4 = .ok (.aload_n 0, 1) := by decide +kernel
theorem dX10_copyRow_5 : decode cX10_copyRow 5 = .ok (.arraylength, 1) := by decide +kernel
theorem dX10_copyRow_6 : decode cX10_copyRow 6 = .ok (.aload_n 1, 1) := by decide +kernel
theorem dX10_copyRow_7 : decode cX10_copyRow 7 = .ok (.arraylength, 1) := by decide +kernel
theorem dX10_copyRow_8 : decode cX10_copyRow 8 = .ok (.invokestatic 295, 3) := by decide +kernel
theorem dX10_copyRow_11 : decode cX10_copyRow 11 = .ok (.invokestatic 381, 3) := by decide +kernel
theorem dX10_copyRow_14 : decode cX10_copyRow 14 = .ok (.return_, 1) := by decide +kernel
theorem dX10_copyRows_0 : decode cX10_copyRows 0 = .ok (.iconst 0, 1) := by decide +kernel
theorem dX10_copyRows_1 : decode cX10_copyRows 1 = .ok (.istore_n 2, 1) := by decide +kernel
theorem dX10_copyRows_2 : decode cX10_copyRows 2 = .ok (.iload_n 2, 1) := by decide +kernel
theorem dX10_copyRows_3 : decode cX10_copyRows 3 = .ok (.aload_n 0, 1) := by decide +kernel
theorem dX10_copyRows_4 : decode cX10_copyRows 4 = .ok (.arraylength, 1) := by decide +kernel
theorem dX10_copyRows_5 : decode cX10_copyRows 5 = .ok (.if_icmp .ge 24, 3) := by decide +kernel
theorem dX10_copyRows_8 : decode cX10_copyRows 8 = .ok (.iload_n 2, 1) := by decide +kernel
theorem dX10_copyRows_9 : decode cX10_copyRows 9 = .ok (.aload_n 1, 1) := by decide +kernel
theorem dX10_copyRows_10 : decode cX10_copyRows 10 = .ok (.arraylength, 1) := by decide +kernel
theorem dX10_copyRows_11 : decode cX10_copyRows 11 = .ok (.if_icmp .ge 18, 3) := by decide +kernel
theorem dX10_copyRows_14 : decode cX10_copyRows 14 = .ok (.aload_n 0, 1) := by decide +kernel
theorem dX10_copyRows_15 : decode cX10_copyRows 15 = .ok (.iload_n 2, 1) := by decide +kernel
theorem dX10_copyRows_16 : decode cX10_copyRows 16 = .ok (.aaload, 1) := by decide +kernel
theorem dX10_copyRows_17 : decode cX10_copyRows 17 = .ok (.aload_n 1, 1) := by decide +kernel
theorem dX10_copyRows_18 : decode cX10_copyRows 18 = .ok (.iload_n 2, 1) := by decide +kernel
theorem dX10_copyRows_19 : decode cX10_copyRows 19 = .ok (.aaload, 1) := by decide +kernel
theorem dX10_copyRows_20 : decode cX10_copyRows 20 = .ok (.invokestatic 387, 3) := by decide +kernel
theorem dX10_copyRows_23 : decode cX10_copyRows 23 = .ok (.iinc 2 1, 3) := by decide +kernel
theorem dX10_copyRows_26 : decode cX10_copyRows 26 = .ok (.goto (-24), 3) := by decide +kernel
theorem dX10_copyRows_29 : decode cX10_copyRows 29 = .ok (.return_, 1) := by decide +kernel
theorem dX11_thrown_0 : decode cX11_thrown 0 = .ok (.aload_n 0, 1) := by decide +kernel
theorem dX11_thrown_1 : decode cX11_thrown 1 = .ok (.getfield 3, 3) := by decide +kernel
theorem dX11_thrown_4 : decode cX11_thrown 4 = .ok (.ireturn, 1) := by decide +kernel
theorem dX11_throwsIf_0 : decode cX11_throwsIf 0 = .ok (.iload_n 1, 1) := by decide +kernel
theorem dX11_throwsIf_1 : decode cX11_throwsIf 1 = .ok (.ifCond .eq 8, 3) := by decide +kernel
theorem dX11_throwsIf_4 : decode cX11_throwsIf 4 = .ok (.aload_n 0, 1) := by decide +kernel
theorem dX11_throwsIf_5 : decode cX11_throwsIf 5 = .ok (.iload_n 2, 1) := by decide +kernel
theorem dX11_throwsIf_6 : decode cX11_throwsIf 6 = .ok (.putfield 3, 3) := by decide +kernel
theorem dX11_throwsIf_9 : decode cX11_throwsIf 9 = .ok (.iload_n 1, 1) := by decide +kernel
theorem dX11_throwsIf_10 : decode cX11_throwsIf 10 = .ok (.ireturn, 1) := by decide +kernel
theorem dX11_in_0 : decode cX11_in 0 = .ok (.iload_n 0, 1) := by decide +kernel
theorem dX11_in_1 : decode cX11_in 1 = .ok (.iload_n 1, 1) := by decide +kernel
theorem dX11_in_2 : decode cX11_in 2 = .ok (.if_icmp .lt 12, 3) := by decide +kernel
theorem dX11_in_5 : decode cX11_in 5 = .ok (.iload_n 0, 1) := by decide +kernel
theorem dX11_in_6 : decode cX11_in 6 = .ok (.iload_n 2, 1) := by decide +kernel
theorem dX11_in_7 : decode cX11_in 7 = .ok (.if_icmp .gt 7, 3) := by decide +kernel
theorem dX11_in_10 : decode cX11_in 10 = .ok (.iconst 1, 1) := by decide +kernel
theorem dX11_in_11 : decode cX11_in 11 = .ok (.goto 4, 3) := by decide +kernel
theorem dX11_in_14 : decode cX11_in 14 = .ok (.iconst 0, 1) := by decide +kernel
theorem dX11_in_15 : decode cX11_in 15 = .ok (.ireturn, 1) := by decide +kernel
theorem dX11_init_0 : decode cX11_init 0 = .ok (.aload_n 0, 1) := by decide +kernel
theorem dX11_init_1 : decode cX11_init 1 = .ok (.invokespecial 7, 3) := by decide +kernel
theorem dX11_init_4 : decode cX11_init 4 = .ok (.aload_n 0, 1) := by decide +kernel
theorem dX11_init_5 : decode cX11_init 5 = .ok (.sipush 2301, 3) := by decide +kernel
theorem dX11_init_8 : decode cX11_init 8 = .ok (.newarray .int, 2) := by decide +kernel
theorem dX11_init_10 : decode cX11_init 10 = .ok (.putfield 13, 3) := by decide +kernel
theorem dX11_init_13 : decode cX11_init 13 = .ok (.aload_n 0, 1) := by decide +kernel
theorem dX11_init_14 : decode cX11_init 14 = .ok (.sipush 2301, 3) := by decide +kernel
theorem dX11_init_17 : decode cX11_init 17 = .ok (.newarray .int, 2) := by decide +kernel
theorem dX11_init_19 : decode cX11_init 19 = .ok (.putfield 17, 3) := by decide +kernel
theorem dX11_init_22 : decode cX11_init 22 = .ok (.aload_n 0, 1) := by decide +kernel
theorem dX11_init_23 : decode cX11_init 23 = .ok (.sipush 5921, 3) := by decide +kernel
theorem dX11_init_26 : decode cX11_init 26 = .ok (.newarray .int, 2) := by decide +kernel
theorem dX11_init_28 : decode cX11_init 28 = .ok (.putfield 20, 3) := by decide +kernel
theorem dX11_init_31 : decode cX11_init 31 = .ok (.aload_n 0, 1) := by decide +kernel
theorem dX11_init_32 : decode cX11_init 32 = .ok (.sipush 7381, 3) := by decide +kernel
theorem dX11_init_35 : decode cX11_init 35 = .ok (.newarray .int, 2) := by decide +kernel
theorem dX11_init_37 : decode cX11_init 37 = .ok (.putfield 23, 3) := by decide +kernel
theorem dX11_init_40 : decode cX11_init 40 = .ok (.aload_n 0, 1) := by decide +kernel
theorem dX11_init_41 : decode cX11_init 41 = .ok (.sipush 400, 3) := by decide +kernel
theorem dX11_init_44 : decode cX11_init 44 = .ok (.newarray .byte, 2) := by decide +kernel
theorem dX11_init_46 : decode cX11_init 46 = .ok (.putfield 26, 3) := by decide +kernel
theorem dX11_init_49 : decode cX11_init 49 = .ok (.aload_n 0, 1) := by decide +kernel
theorem dX11_init_50 : decode cX11_init 50 = .ok (.iconst (-1), 1) := by decide +kernel
theorem dX11_init_51 : decode cX11_init 51 = .ok (.putfield 30, 3) := by decide +kernel
theorem dX11_init_54 : decode cX11_init 54 = .ok (.aload_n 0, 1) := by decide +kernel
theorem dX11_init_55 : decode cX11_init 55 = .ok (.iconst 5, 1) := by decide +kernel
theorem dX11_init_56 : decode cX11_init 56 = .ok (.newarray .int, 2) := by decide +kernel
theorem dX11_init_58 : decode cX11_init 58 = .ok (.putfield 33, 3) := by decide +kernel
theorem dX11_init_61 : decode cX11_init 61 = .ok (.aload_n 0, 1) := by decide +kernel
theorem dX11_init_62 : decode cX11_init 62 = .ok (.bipush 7, 2) := by decide +kernel
theorem dX11_init_64 : decode cX11_init 64 = .ok (.newarray .boolean, 2) := by decide +kernel
theorem dX11_init_66 : decode cX11_init 66 = .ok (.putfield 36, 3) := by decide +kernel
theorem dX11_init_69 : decode cX11_init 69 = .ok (.aload_n 0, 1) := by decide +kernel
theorem dX11_init_70 : decode cX11_init 70 = .ok (.iconst 5, 1) := by decide +kernel
theorem dX11_init_71 : decode cX11_init 71 = .ok (.newarray .int, 2) := by decide +kernel
theorem dX11_init_73 : decode cX11_init 73 = .ok (.putfield 40, 3) := by decide +kernel
theorem dX11_init_76 : decode cX11_init 76 = .ok (.aload_n 0, 1) := by decide +kernel
theorem dX11_init_77 : decode cX11_init 77 = .ok (.sipush 400, 3) := by decide +kernel
theorem dX11_init_80 : decode cX11_init 80 = .ok (.newarray .boolean, 2) := by decide +kernel
theorem dX11_init_82 : decode cX11_init 82 = .ok (.putfield 43, 3) := by decide +kernel
theorem dX11_init_85 : decode cX11_init 85 = .ok (.aload_n 0, 1) := by decide +kernel
theorem dX11_init_86 : decode cX11_init 86 = .ok (.bipush 60, 2) := by decide +kernel
theorem dX11_init_88 : decode cX11_init 88 = .ok (.newarray .boolean, 2) := by decide +kernel
theorem dX11_init_90 : decode cX11_init 90 = .ok (.putfield 46, 3) := by decide +kernel
theorem dX11_init_93 : decode cX11_init 93 = .ok (.aload_n 0, 1) := by decide +kernel
theorem dX11_init_94 : decode cX11_init 94 = .ok (.bipush 30, 2) := by decide +kernel
theorem dX11_init_96 : decode cX11_init 96 = .ok (.newarray .int, 2) := by decide +kernel
theorem dX11_init_98 : decode cX11_init 98 = .ok (.putfield 49, 3) := by decide +kernel
theorem dX11_init_101 : decode cX11_init 101 = .ok (.aload_n 0, 1) := by decide +kernel
theorem dX11_init_102 : decode cX11_init 102 = .ok (.bipush 7, 2) := by decide +kernel
theorem dX11_init_104 : decode cX11_init 104 = .ok (.newarray .int, 2) := by decide +kernel
theorem dX11_init_106 : decode cX11_init 106 = .ok (.putfield 52, 3) := by decide +kernel
theorem dX11_init_109 : decode cX11_init 109 = .ok (.aload_n 0, 1) := by decide +kernel
theorem dX11_init_110 : decode cX11_init 110 = .ok (.bipush 7, 2) := by decide +kernel
theorem dX11_init_112 : decode cX11_init 112 = .ok (.newarray .int, 2) := by decide +kernel
theorem dX11_init_114 : decode cX11_init 114 = .ok (.putfield 55, 3) := by decide +kernel
theorem dX11_init_117 : decode cX11_init 117 = .ok (.aload_n 0, 1) := by decide +kernel
theorem dX11_init_118 : decode cX11_init 118 = .ok (.iconst 4, 1) := by decide +kernel
theorem dX11_init_119 : decode cX11_init 119 = .ok (.newarray .int, 2) := by decide +kernel
theorem dX11_init_121 : decode cX11_init 121 = .ok (.putfield 58, 3) := by decide +kernel
theorem dX11_init_124 : decode cX11_init 124 = .ok (.aload_n 0, 1) := by decide +kernel
theorem dX11_init_125 : decode cX11_init 125 = .ok (.iconst 4, 1) := by decide +kernel
theorem dX11_init_126 : decode cX11_init 126 = .ok (.newarray .int, 2) := by decide +kernel
theorem dX11_init_128 : decode cX11_init 128 = .ok (.putfield 61, 3) := by decide +kernel
theorem dX11_init_131 : decode cX11_init 131 = .ok (.aload_n 0, 1) := by decide +kernel
theorem dX11_init_132 : decode cX11_init 132 = .ok (.getfield 20, 3) := by decide +kernel
theorem dX11_init_135 : decode cX11_init 135 = .ok (.bipush 6, 2) := by decide +kernel
theorem dX11_init_137 : decode cX11_init 137 = .ok (.iconst 1, 1) := by decide +kernel
theorem dX11_init_138 : decode cX11_init 138 = .ok (.iastore, 1) := by decide +kernel
theorem dX11_init_139 : decode cX11_init 139 = .ok (.aload_n 0, 1) := by decide +kernel
theorem dX11_init_140 : decode cX11_init 140 = .ok (.getfield 20, 3) := by decide +kernel
theorem dX11_init_143 : decode cX11_init 143 = .ok (.bipush 7, 2) := by decide +kernel
theorem dX11_init_145 : decode cX11_init 145 = .ok (.bipush 10, 2) := by decide +kernel
theorem dX11_init_147 : decode cX11_init 147 = .ok (.iastore, 1) := by decide +kernel
theorem dX11_init_148 : decode cX11_init 148 = .ok (.return_, 1) := by decide +kernel
theorem dX11_tick_0 : decode cX11_tick 0 = .ok (.aload_n 0, 1) := by decide +kernel
theorem dX11_tick_1 : decode cX11_tick 1 = .ok (.getfield 13, 3) := by decide +kernel
theorem dX11_tick_4 : decode cX11_tick 4 = .ok (.iconst 0, 1) := by decide +kernel
theorem dX11_tick_5 : decode cX11_tick 5 = .ok (.iaload, 1) := by decide +kernel
theorem dX11_tick_6 : decode cX11_tick 6 = .ok (.ireturn, 1) := by decide +kernel
theorem dX11_phones_0 : decode cX11_phones 0 = .ok (.aload_n 0, 1) := by decide +kernel
theorem dX11_phones_1 : decode cX11_phones 1 = .ok (.getfield 20, 3) := by decide +kernel
theorem dX11_phones_4 : decode cX11_phones 4 = .ok (.iconst 0, 1) := by decide +kernel
theorem dX11_phones_5 : decode cX11_phones 5 = .ok (.iaload, 1) := by decide +kernel
theorem dX11_phones_6 : decode cX11_phones 6 = .ok (.ireturn, 1) := by decide +kernel
theorem dX11_words_0 : decode cX11_words 0 = .ok (.aload_n 0, 1) := by decide +kernel
theorem dX11_words_1 : decode cX11_words 1 = .ok (.getfield 20, 3) := by decide +kernel
theorem dX11_words_4 : decode cX11_words 4 = .ok (.iconst 1, 1) := by decide +kernel
theorem dX11_words_5 : decode cX11_words 5 = .ok (.iaload, 1) := by decide +kernel
theorem dX11_words_6 : decode cX11_words 6 = .ok (.ireturn, 1) := by decide +kernel
theorem dX11_noPhone_0 : decode cX11_noPhone 0 = .ok (.iload_n 1, 1) := by decide +kernel
theorem dX11_noPhone_1 : decode cX11_noPhone 1 = .ok (.iconst 0, 1) := by decide +kernel
theorem dX11_noPhone_2 : decode cX11_noPhone 2 = .ok (.aload_n 0, 1) := by decide +kernel
theorem dX11_noPhone_3 : decode cX11_noPhone 3 = .ok (.invokevirtual 64, 3) := by decide +kernel
theorem dX11_noPhone_6 : decode cX11_noPhone 6 = .ok (.iconst 1, 1) := by decide +kernel
theorem dX11_noPhone_7 : decode cX11_noPhone 7 = .ok (.isub, 1) := by decide +kernel
theorem dX11_noPhone_8 : decode cX11_noPhone 8 = .ok (.invokestatic 68, 3) := by decide +kernel
theorem dX11_noPhone_11 : decode cX11_noPhone 11 = .ok (.ifCond .ne 7, 3) := by decide +kernel
theorem dX11_noPhone_14 : decode cX11_noPhone 14 = .ok (.iconst 1, 1) := by decide +kernel
theorem dX11_noPhone_15 : decode cX11_noPhone 15 = .ok (.goto 4, 3) := by decide +kernel
theorem dX11_noPhone_18 : decode cX11_noPhone 18 = .ok (.iconst 0, 1) := by decide +kernel
theorem dX11_noPhone_19 : decode cX11_noPhone 19 = .ok (.ireturn, 1) := by decide +kernel
theorem dX11_noWord_0 : decode cX11_noWord 0 = .ok (.iload_n 1, 1) := by decide +kernel
theorem dX11_noWord_1 : decode cX11_noWord 1 = .ok (.iconst 0, 1) := by decide +kernel
theorem dX11_noWord_2 : decode cX11_noWord 2 = .ok (.aload_n 0, 1) := by decide +kernel
theorem dX11_noWord_3 : decode cX11_noWord 3 = .ok (.invokevirtual 72, 3) := by decide +kernel
theorem dX11_noWord_6 : decode cX11_noWord 6 = .ok (.iconst 1, 1) := by decide +kernel
theorem dX11_noWord_7 : decode cX11_noWord 7 = .ok (.isub, 1) := by decide +kernel
theorem dX11_noWord_8 : decode cX11_noWord 8 = .ok (.invokestatic 68, 3) := by decide +kernel
theorem dX11_noWord_11 : decode cX11_noWord 11 = .ok (.ifCond .ne 7, 3) := by decide +kernel
theorem dX11_noWord_14 : decode cX11_noWord 14 = .ok (.iconst 1, 1) := by decide +kernel
theorem dX11_noWord_15 : decode cX11_noWord 15 = .ok (.goto 4, 3) := by decide +kernel
theorem dX11_noWord_18 : decode cX11_noWord 18 = .ok (.iconst 0, 1) := by decide +kernel
theorem dX11_noWord_19 : decode cX11_noWord 19 = .ok (.ireturn, 1) := by decide +kernel
theorem dX11_noPlace_0 : decode cX11_noPlace 0 = .ok (.iload_n 0, 1) := by decide +kernel
theorem dX11_noPlace_1 : decode cX11_noPlace 1 = .ok (.iconst 0, 1) := by decide +kernel
theorem dX11_noPlace_2 : decode cX11_noPlace 2 = .ok (.bipush 15, 2) := by decide +kernel
theorem dX11_noPlace_4 : decode cX11_noPlace 4 = .ok (.invokestatic 68, 3) := by decide +kernel
theorem dX11_noPlace_7 : decode cX11_noPlace 7 = .ok (.ifCond .ne 7, 3) := by decide +kernel
theorem dX11_noPlace_10 : decode cX11_noPlace 10 = .ok (.iconst 1, 1) := by decide +kernel
theorem dX11_noPlace_11 : decode cX11_noPlace 11 = .ok (.goto 4, 3) := by decide +kernel
theorem dX11_noPlace_14 : decode cX11_noPlace 14 = .ok (.iconst 0, 1) := by decide +kernel
theorem dX11_noPlace_15 : decode cX11_noPlace 15 = .ok (.ireturn, 1) := by decide +kernel
theorem dX11_noPerson_0 : decode cX11_noPerson 0 = .ok (.iload_n 0, 1) := by decide +kernel
theorem dX11_noPerson_1 : decode cX11_noPerson 1 = .ok (.iconst 0, 1) := by decide +kernel
theorem dX11_noPerson_2 : decode cX11_noPerson 2 = .ok (.bipush 15, 2) := by decide +kernel
theorem dX11_noPerson_4 : decode cX11_noPerson 4 = .ok (.invokestatic 68, 3) := by decide +kernel
theorem dX11_noPerson_7 : decode cX11_noPerson 7 = .ok (.ifCond .ne 7, 3) := by decide +kernel
theorem dX11_noPerson_10 : decode cX11_noPerson 10 = .ok (.iconst 1, 1) := by decide +kernel
theorem dX11_noPerson_11 : decode cX11_noPerson 11 = .ok (.goto 4, 3) := by decide +kernel
theorem dX11_noPerson_14 : decode cX11_noPerson 14 = .ok (.iconst 0, 1) := by decide +kernel
theorem dX11_noPerson_15 : decode cX11_noPerson 15 = .ok (.ireturn, 1) := by decide +kernel
theorem dX11_between_0 : decode cX11_between 0 = .ok (.iload_n 0, 1) := by decide +kernel
theorem dX11_between_1 : decode cX11_between 1 = .ok (.iconst 4, 1) := by decide +kernel
theorem dX11_between_2 : decode cX11_between 2 = .ok (.irem, 1) := by decide +kernel
theorem dX11_between_3 : decode cX11_between 3 = .ok (.iload_n 1, 1) := by decide +kernel
theorem dX11_between_4 : decode cX11_between 4 = .ok (.iconst 4, 1) := by decide +kernel
theorem dX11_between_5 : decode cX11_between 5 = .ok (.irem, 1) := by decide +kernel
theorem dX11_between_6 : decode cX11_between 6 = .ok (.isub, 1) := by decide +kernel
theorem dX11_between_7 : decode cX11_between 7 = .ok (.invokestatic 75, 3) := by decide +kernel
theorem dX11_between_10 : decode cX11_between 10 = .ok (.iload_n 0, 1) := by decide +kernel
theorem dX11_between_11 : decode cX11_between 11 = .ok (.iconst 4, 1) := by decide +kernel
theorem dX11_between_12 : decode cX11_between 12 = .ok (.idiv, 1) := by decide +kernel
theorem dX11_between_13 : decode cX11_between 13 = .ok (.iload_n 1, 1) := by decide +kernel
theorem dX11_between_14 : decode cX11_between 14 = .ok (.iconst 4, 1) := by decide +kernel
theorem dX11_between_15 : decode cX11_between 15 = .ok (.idiv, 1) := by decide +kernel
theorem dX11_between_16 : decode cX11_between 16 = .ok (.isub, 1) := by decide +kernel
theorem dX11_between_17 : decode cX11_between 17 = .ok (.invokestatic 75, 3) := by decide +kernel
theorem dX11_between_20 : decode cX11_between 20 = .ok (.iadd, 1) := by decide +kernel
theorem dX11_between_21 : decode cX11_between 21 = .ok (.ireturn, 1) := by decide +kernel
theorem dX11_image_0 : decode cX11_image 0 = .ok (.aload_n 0, 1) := by decide +kernel
theorem dX11_image_1 : decode cX11_image 1 = .ok (.iconst 0, 1) := by decide +kernel
theorem dX11_image_2 : decode cX11_image 2 = .ok (.putfield 3, 3) := by decide +kernel
theorem dX11_image_5 : decode cX11_image 5 = .ok (.iconst 0, 1) := by decide +kernel
theorem dX11_image_6 : decode cX11_image 6 = .ok (.istore_n 1, 1) := by decide +kernel
theorem dX11_image_7 : decode cX11_image 7 = .ok (.iload_n 1, 1) := by decide +kernel
theorem dX11_image_8 : decode cX11_image 8 = .ok (.sipush 5080, 3) := by decide +kernel
theorem dX11_image_11 : decode cX11_image 11 = .ok (.if_icmp .ge 21, 3) := by decide +kernel
theorem dX11_image_14 : decode cX11_image 14 = .ok (.aload_n 0, 1) := by decide +kernel
theorem dX11_image_15 : decode cX11_image 15 = .ok (.getfield 23, 3) := by decide +kernel
theorem dX11_image_18 : decode cX11_image 18 = .ok (.iload_n 1, 1) := by decide +kernel
theorem dX11_image_19 : decode cX11_image 19 = .ok (.aload_n 0, 1) := by decide +kernel
theorem dX11_image_20 : decode cX11_image 20 = .ok (.getfield 20, 3) := by decide +kernel
theorem dX11_image_23 : decode cX11_image 23 = .ok (.iload_n 1, 1) := by decide +kernel
theorem dX11_image_24 : decode cX11_image 24 = .ok (.iaload, 1) := by decide +kernel
theorem dX11_image_25 : decode cX11_image 25 = .ok (.iastore, 1) := by decide +kernel
theorem dX11_image_26 : decode cX11_image 26 = .ok (.iinc 1 1, 3) := by decide +kernel
theorem dX11_image_29 : decode cX11_image 29 = .ok (.goto (-22), 3) := by decide +kernel
theorem dX11_image_32 : decode cX11_image 32 = .ok (.iconst 0, 1) := by decide +kernel
theorem dX11_image_33 : decode cX11_image 33 = .ok (.istore_n 1, 1) := by decide +kernel
theorem dX11_image_34 : decode cX11_image 34 = .ok (.iload_n 1, 1) := by decide +kernel
theorem dX11_image_35 : decode cX11_image 35 = .ok (.sipush 2301, 3) := by decide +kernel
theorem dX11_image_38 : decode cX11_image 38 = .ok (.if_icmp .ge 25, 3) := by decide +kernel
theorem dX11_image_41 : decode cX11_image 41 = .ok (.aload_n 0, 1) := by decide +kernel
theorem dX11_image_42 : decode cX11_image 42 = .ok (.getfield 23, 3) := by decide +kernel
theorem dX11_image_45 : decode cX11_image 45 = .ok (.sipush 5080, 3) := by decide +kernel
theorem dX11_image_48 : decode cX11_image 48 = .ok (.iload_n 1, 1) := by decide +kernel
theorem dX11_image_49 : decode cX11_image 49 = .ok (.iadd, 1) := by decide +kernel
theorem dX11_image_50 : decode cX11_image 50 = .ok (.aload_n 0, 1) := by decide +kernel
theorem dX11_image_51 : decode cX11_image 51 = .ok (.getfield 13, 3) := by decide +kernel
theorem dX11_image_54 : decode cX11_image 54 = .ok (.iload_n 1, 1) := by decide +kernel
theorem dX11_image_55 : decode cX11_image 55 = .ok (.iaload, 1) := by decide +kernel
theorem dX11_image_56 : decode cX11_image 56 = .ok (.iastore, 1) := by decide +kernel
theorem dX11_image_57 : decode cX11_image 57 = .ok (.iinc 1 1, 3) := by decide +kernel
theorem dX11_image_60 : decode cX11_image 60 = .ok (.goto (-26), 3) := by decide +kernel
theorem dX11_image_63 : decode cX11_image 63 = .ok (.aload_n 0, 1) := by decide +kernel
theorem dX11_image_64 : decode cX11_image 64 = .ok (.iconst 1, 1) := by decide +kernel
theorem dX11_image_65 : decode cX11_image 65 = .ok (.putfield 81, 3) := by decide +kernel
theorem dX11_image_68 : decode cX11_image 68 = .ok (.return_, 1) := by decide +kernel
theorem dX11_back_0 : decode cX11_back 0 = .ok (.aload_n 0, 1) := by decide +kernel
theorem dX11_back_1 : decode cX11_back 1 = .ok (.iconst 0, 1) := by decide +kernel
theorem dX11_back_2 : decode cX11_back 2 = .ok (.putfield 3, 3) := by decide +kernel
theorem dX11_back_5 : decode cX11_back 5 = .ok (.aload_n 0, 1) := by decide +kernel
theorem dX11_back_6 : decode cX11_back 6 = .ok (.getfield 81, 3) := by decide +kernel
theorem dX11_back_9 : decode cX11_back 9 = .ok (.ifCond .ne 5, 3) := by decide +kernel
theorem dX11_back_12 : decode cX11_back 12 = .ok (.iconst 0, 1) := by decide +kernel
theorem dX11_back_13 : decode cX11_back 13 = .ok (.ireturn, 1) := by decide +kernel
theorem dX11_back_14 : decode cX11_back 14 = .ok (.iconst 0, 1) := by decide +kernel
theorem dX11_back_15 : decode cX11_back 15 = .ok (.istore_n 1, 1) := by decide +kernel
theorem dX11_back_16 : decode cX11_back 16 = .ok (.iload_n 1, 1) := by decide +kernel
theorem dX11_back_17 : decode cX11_back 17 = .ok (.sipush 5080, 3) := by decide +kernel
theorem dX11_back_20 : decode cX11_back 20 = .ok (.if_icmp .ge 21, 3) := by decide +kernel
theorem dX11_back_23 : decode cX11_back 23 = .ok (.aload_n 0, 1) := by decide +kernel
theorem dX11_back_24 : decode cX11_back 24 = .ok (.getfield 20, 3) := by decide +kernel
theorem dX11_back_27 : decode cX11_back 27 = .ok (.iload_n 1, 1) := by decide +kernel
theorem dX11_back_28 : decode cX11_back 28 = .ok (.aload_n 0, 1) := by decide +kernel
theorem dX11_back_29 : decode cX11_back 29 = .ok (.getfield 23, 3) := by decide +kernel
theorem dX11_back_32 : decode cX11_back 32 = .ok (.iload_n 1, 1) := by decide +kernel
theorem dX11_back_33 : decode cX11_back 33 = .ok (.iaload, 1) := by decide +kernel
theorem dX11_back_34 : decode cX11_back 34 = .ok (.iastore, 1) := by decide +kernel
theorem dX11_back_35 : decode cX11_back 35 = .ok (.iinc 1 1, 3) := by decide +kernel
theorem dX11_back_38 : decode cX11_back 38 = .ok (.goto (-22), 3) := by decide +kernel
theorem dX11_back_41 : decode cX11_back 41 = .ok (.iconst 0, 1) := by decide +kernel
theorem dX11_back_42 : decode cX11_back 42 = .ok (.istore_n 1, 1) := by decide +kernel
theorem dX11_back_43 : decode cX11_back 43 = .ok (.iload_n 1, 1) := by decide +kernel
theorem dX11_back_44 : decode cX11_back 44 = .ok (.sipush 2301, 3) := by decide +kernel
theorem dX11_back_47 : decode cX11_back 47 = .ok (.if_icmp .ge 25, 3) := by decide +kernel
theorem dX11_back_50 : decode cX11_back 50 = .ok (.aload_n 0, 1) := by decide +kernel
theorem dX11_back_51 : decode cX11_back 51 = .ok (.getfield 13, 3) := by decide +kernel
theorem dX11_back_54 : decode cX11_back 54 = .ok (.iload_n 1, 1) := by decide +kernel
theorem dX11_back_55 : decode cX11_back 55 = .ok (.aload_n 0, 1) := by decide +kernel
theorem dX11_back_56 : decode cX11_back 56 = .ok (.getfield 23, 3) := by decide +kernel
theorem dX11_back_59 : decode cX11_back 59 = .ok (.sipush 5080, 3) := by decide +kernel
theorem dX11_back_62 : decode cX11_back 62 = .ok (.iload_n 1, 1) := by decide +kernel
theorem dX11_back_63 : decode cX11_back 63 = .ok (.iadd, 1) := by decide +kernel
theorem dX11_back_64 : decode cX11_back 64 = .ok (.iaload, 1) := by decide +kernel
theorem dX11_back_65 : decode cX11_back 65 = .ok (.iastore, 1) := by decide +kernel
theorem dX11_back_66 : decode cX11_back 66 = .ok (.iinc 1 1, 3) := by decide +kernel
theorem dX11_back_69 : decode cX11_back 69 = .ok (.goto (-26), 3) := by decide +kernel
theorem dX11_back_72 : decode cX11_back 72 = .ok (.iconst 1, 1) := by decide +kernel
theorem dX11_back_73 : decode cX11_back 73 = .ok (.ireturn, 1) := by decide +kernel
theorem dX11_phoneAt_0 : decode cX11_phoneAt 0 = .ok (.iconst 1, 1) := by decide +kernel
theorem dX11_phoneAt_1 : decode cX11_phoneAt 1 = .ok (.iconst 5, 1) := by decide +kernel
theorem dX11_phoneAt_2 : decode cX11_phoneAt 2 = .ok (.iload_n 0, 1) := by decide +kernel
theorem dX11_phoneAt_3 : decode cX11_phoneAt 3 = .ok (.imul, 1) := by decide +kernel
theorem dX11_phoneAt_4 : decode cX11_phoneAt 4 = .ok (.iadd, 1) := by decide +kernel
theorem dX11_phoneAt_5 : decode cX11_phoneAt 5 = .ok (.iload_n 1, 1) := by decide +kernel
theorem dX11_phoneAt_6 : decode cX11_phoneAt 6 = .ok (.iadd, 1) := by decide +kernel
theorem dX11_phoneAt_7 : decode cX11_phoneAt 7 = .ok (.ireturn, 1) := by decide +kernel
theorem dX11_copyAt_0 : decode cX11_copyAt 0 = .ok (.bipush 51, 2) := by decide +kernel
theorem dX11_copyAt_2 : decode cX11_copyAt 2 = .ok (.bipush 7, 2) := by decide +kernel
theorem dX11_copyAt_4 : decode cX11_copyAt 4 = .ok (.bipush 30, 2) := by decide +kernel
theorem dX11_copyAt_6 : decode cX11_copyAt 6 = .ok (.iload_n 0, 1) := by decide +kernel
theorem dX11_copyAt_7 : decode cX11_copyAt 7 = .ok (.imul, 1) := by decide +kernel
theorem dX11_copyAt_8 : decode cX11_copyAt 8 = .ok (.iload_n 1, 1) := by decide +kernel
theorem dX11_copyAt_9 : decode cX11_copyAt 9 = .ok (.iadd, 1) := by decide +kernel
theorem dX11_copyAt_10 : decode cX11_copyAt 10 = .ok (.imul, 1) := by decide +kernel
theorem dX11_copyAt_11 : decode cX11_copyAt 11 = .ok (.iadd, 1) := by decide +kernel
theorem dX11_copyAt_12 : decode cX11_copyAt 12 = .ok (.iload_n 2, 1) := by decide +kernel
theorem dX11_copyAt_13 : decode cX11_copyAt 13 = .ok (.iadd, 1) := by decide +kernel
theorem dX11_copyAt_14 : decode cX11_copyAt 14 = .ok (.ireturn, 1) := by decide +kernel
theorem dX11_hadAt_0 : decode cX11_hadAt 0 = .ok (.sipush 2151, 3) := by decide +kernel
theorem dX11_hadAt_3 : decode cX11_hadAt 3 = .ok (.iconst 5, 1) := by decide +kernel
theorem dX11_hadAt_4 : decode cX11_hadAt 4 = .ok (.iload_n 0, 1) := by decide +kernel
theorem dX11_hadAt_5 : decode cX11_hadAt 5 = .ok (.imul, 1) := by decide +kernel
theorem dX11_hadAt_6 : decode cX11_hadAt 6 = .ok (.iadd, 1) := by decide +kernel
theorem dX11_hadAt_7 : decode cX11_hadAt 7 = .ok (.iload_n 1, 1) := by decide +kernel
theorem dX11_hadAt_8 : decode cX11_hadAt 8 = .ok (.iadd, 1) := by decide +kernel
theorem dX11_hadAt_9 : decode cX11_hadAt 9 = .ok (.ireturn, 1) := by decide +kernel
theorem dX11_toldOf_0 : decode cX11_toldOf 0 = .ok (.aload_n 0, 1) := by decide +kernel
theorem dX11_toldOf_1 : decode cX11_toldOf 1 = .ok (.getfield 20, 3) := by decide +kernel
theorem dX11_toldOf_4 : decode cX11_toldOf 4 = .ok (.bipush 11, 2) := by decide +kernel
theorem dX11_toldOf_6 : decode cX11_toldOf 6 = .ok (.iconst 3, 1) := by decide +kernel
theorem dX11_toldOf_7 : decode cX11_toldOf 7 = .ok (.iload_n 1, 1) := by decide +kernel
theorem dX11_toldOf_8 : decode cX11_toldOf 8 = .ok (.imul, 1) := by decide +kernel
theorem dX11_toldOf_9 : decode cX11_toldOf 9 = .ok (.iadd, 1) := by decide +kernel
theorem dX11_toldOf_10 : decode cX11_toldOf 10 = .ok (.iload_n 2, 1) := by decide +kernel
theorem dX11_toldOf_11 : decode cX11_toldOf 11 = .ok (.iadd, 1) := by decide +kernel
theorem dX11_toldOf_12 : decode cX11_toldOf 12 = .ok (.iaload, 1) := by decide +kernel
theorem dX11_toldOf_13 : decode cX11_toldOf 13 = .ok (.ireturn, 1) := by decide +kernel
theorem dX11_of_0 : decode cX11_of 0 = .ok (.aload_n 0, 1) := by decide +kernel
theorem dX11_of_1 : decode cX11_of 1 = .ok (.getfield 20, 3) := by decide +kernel
theorem dX11_of_4 : decode cX11_of 4 = .ok (.sipush 761, 3) := by decide +kernel
theorem dX11_of_7 : decode cX11_of 7 = .ok (.bipush 10, 2) := by decide +kernel
theorem dX11_of_9 : decode cX11_of 9 = .ok (.iload_n 1, 1) := by decide +kernel
theorem dX11_of_10 : decode cX11_of 10 = .ok (.imul, 1) := by decide +kernel
theorem dX11_of_11 : decode cX11_of 11 = .ok (.iadd, 1) := by decide +kernel
theorem dX11_of_12 : decode cX11_of 12 = .ok (.iload_n 2, 1) := by decide +kernel
theorem dX11_of_13 : decode cX11_of 13 = .ok (.iadd, 1) := by decide +kernel
theorem dX11_of_14 : decode cX11_of 14 = .ok (.iaload, 1) := by decide +kernel
theorem dX11_of_15 : decode cX11_of 15 = .ok (.ireturn, 1) := by decide +kernel
theorem dX11_has_0 : decode cX11_has 0 = .ok (.aload_n 0, 1) := by decide +kernel
theorem dX11_has_1 : decode cX11_has 1 = .ok (.getfield 13, 3) := by decide +kernel
theorem dX11_has_4 : decode cX11_has 4 = .ok (.iload_n 1, 1) := by decide +kernel
theorem dX11_has_5 : decode cX11_has 5 = .ok (.iload_n 2, 1) := by decide +kernel
theorem dX11_has_6 : decode cX11_has 6 = .ok (.iconst 0, 1) := by decide +kernel
theorem dX11_has_7 : decode cX11_has 7 = .ok (.invokestatic 85, 3) := by decide +kernel
theorem dX11_has_10 : decode cX11_has 10 = .ok (.iaload, 1) := by decide +kernel
theorem dX11_has_11 : decode cX11_has 11 = .ok (.iconst 1, 1) := by decide +kernel
theorem dX11_has_12 : decode cX11_has 12 = .ok (.if_icmp .ne 7, 3) := by decide +kernel
theorem dX11_has_15 : decode cX11_has 15 = .ok (.iconst 1, 1) := by decide +kernel
theorem dX11_has_16 : decode cX11_has 16 = .ok (.goto 4, 3) := by decide +kernel
theorem dX11_has_19 : decode cX11_has 19 = .ok (.iconst 0, 1) := by decide +kernel
theorem dX11_has_20 : decode cX11_has 20 = .ok (.ireturn, 1) := by decide +kernel
theorem dX11_phone_0 : decode cX11_phone 0 = .ok (.aload_n 0, 1) := by decide +kernel
theorem dX11_phone_1 : decode cX11_phone 1 = .ok (.iconst 0, 1) := by decide +kernel
theorem dX11_phone_2 : decode cX11_phone 2 = .ok (.putfield 3, 3) := by decide +kernel
theorem dX11_phone_5 : decode cX11_phone 5 = .ok (.aload_n 0, 1) := by decide +kernel
theorem dX11_phone_6 : decode cX11_phone 6 = .ok (.iload_n 1, 1) := by decide +kernel
theorem dX11_phone_7 : decode cX11_phone 7 = .ok (.invokestatic 89, 3) := by decide +kernel
theorem dX11_phone_10 : decode cX11_phone 10 = .ok (.iconst 1, 1) := by decide +kernel
theorem dX11_phone_11 : decode cX11_phone 11 = .ok (.invokevirtual 93, 3) := by decide +kernel
theorem dX11_phone_14 : decode cX11_phone 14 = .ok (.ifCond .ne 90, 3) := by decide +kernel
theorem dX11_phone_17 : decode cX11_phone 17 = .ok (.aload_n 0, 1) := by decide +kernel
theorem dX11_phone_18 : decode cX11_phone 18 = .ok (.iload_n 2, 1) := by decide +kernel
theorem dX11_phone_19 : decode cX11_phone 19 = .ok (.iconst 0, 1) := by decide +kernel
theorem dX11_phone_20 : decode cX11_phone 20 = .ok (.sipush 1000, 3) := by decide +kernel
theorem dX11_phone_23 : decode cX11_phone 23 = .ok (.invokestatic 68, 3) := by decide +kernel
theorem dX11_phone_26 : decode cX11_phone 26 = .ok (.ifCond .eq 24, 3) := by decide +kernel
theorem dX11_phone_29 : decode cX11_phone 29 = .ok (.iload_n 3, 1) := by decide +kernel
theorem dX11_phone_30 : decode cX11_phone 30 = .ok (.iconst 1, 1) := by decide +kernel
theorem dX11_phone_31 : decode cX11_phone 31 = .ok (.bipush 12, 2) := by decide +kernel
theorem dX11_phone_33 : decode cX11_phone 33 = .ok (.invokestatic 68, 3) := by decide +kernel
theorem dX11_phone_36 : decode cX11_phone 36 = .ok (.ifCond .eq 14, 3) := by decide +kernel
theorem dX11_phone_39 : decode cX11_phone 39 = .ok (.iload 4, 2) := by decide +kernel
theorem dX11_phone_41 : decode cX11_phone 41 = .ok (.iconst 0, 1) := by decide +kernel
theorem dX11_phone_42 : decode cX11_phone 42 = .ok (.bipush 9, 2) := by decide +kernel
theorem dX11_phone_44 : decode cX11_phone 44 = .ok (.invokestatic 68, 3) := by decide +kernel
theorem dX11_phone_47 : decode cX11_phone 47 = .ok (.ifCond .ne 7, 3) := by decide +kernel
theorem dX11_phone_50 : decode cX11_phone 50 = .ok (.iconst 1, 1) := by decide +kernel
theorem dX11_phone_51 : decode cX11_phone 51 = .ok (.goto 4, 3) := by decide +kernel
theorem dX11_phone_54 : decode cX11_phone 54 = .ok (.iconst 0, 1) := by decide +kernel
theorem dX11_phone_55 : decode cX11_phone 55 = .ok (.iconst 2, 1) := by decide +kernel
theorem dX11_phone_56 : decode cX11_phone 56 = .ok (.invokevirtual 93, 3) := by decide +kernel
theorem dX11_phone_59 : decode cX11_phone 59 = .ok (.ifCond .ne 45, 3) := by decide +kernel
theorem dX11_phone_62 : decode cX11_phone 62 = .ok (.aload_n 0, 1) := by decide +kernel
theorem dX11_phone_63 : decode cX11_phone 63 = .ok (.aload_n 0, 1) := by decide +kernel
theorem dX11_phone_64 : decode cX11_phone 64 = .ok (.invokevirtual 64, 3) := by decide +kernel
theorem dX11_phone_67 : decode cX11_phone 67 = .ok (.bipush 10, 2) := by decide +kernel
theorem dX11_phone_69 : decode cX11_phone 69 = .ok (.if_icmp .ne 7, 3) := by decide +kernel
theorem dX11_phone_72 : decode cX11_phone 72 = .ok (.iconst 1, 1) := by decide +kernel
theorem dX11_phone_73 : decode cX11_phone 73 = .ok (.goto 4, 3) := by decide +kernel
theorem dX11_phone_76 : decode cX11_phone 76 = .ok (.iconst 0, 1) := by decide +kernel
theorem dX11_phone_77 : decode cX11_phone 77 = .ok (.iconst 3, 1) := by decide +kernel
theorem dX11_phone_78 : decode cX11_phone 78 = .ok (.invokevirtual 93, 3) := by decide +kernel
theorem dX11_phone_81 : decode cX11_phone 81 = .ok (.ifCond .ne 23, 3) := by decide +kernel
theorem dX11_phone_84 : decode cX11_phone 84 = .ok (.aload_n 0, 1) := by decide +kernel
theorem dX11_phone_85 : decode cX11_phone 85 = .ok (.aload_n 0, 1) := by decide +kernel
theorem dX11_phone_86 : decode cX11_phone 86 = .ok (.invokevirtual 97, 3) := by decide +kernel
theorem dX11_phone_89 : decode cX11_phone 89 = .ok (.ifCond .le 7, 3) := by decide +kernel
theorem dX11_phone_92 : decode cX11_phone 92 = .ok (.iconst 1, 1) := by decide +kernel
theorem dX11_phone_93 : decode cX11_phone 93 = .ok (.goto 4, 3) := by decide +kernel
theorem dX11_phone_96 : decode cX11_phone 96 = .ok (.iconst 0, 1) := by decide +kernel
theorem dX11_phone_97 : decode cX11_phone 97 = .ok (.iconst 4, 1) := by decide +kernel
theorem dX11_phone_98 : decode cX11_phone 98 = .ok (.invokevirtual 93, 3) := by decide +kernel
theorem dX11_phone_101 : decode cX11_phone 101 = .ok (.ifCond .eq 5, 3) := by decide +kernel
theorem dX11_phone_104 : decode cX11_phone 104 = .ok (.iconst 0, 1) := by decide +kernel
theorem dX11_phone_105 : decode cX11_phone 105 = .ok (.ireturn, 1) := by decide +kernel
theorem dX11_phone_106 : decode cX11_phone 106 = .ok (.aload_n 0, 1) := by decide +kernel
theorem dX11_phone_107 : decode cX11_phone 107 = .ok (.invokevirtual 64, 3) := by decide +kernel
theorem dX11_phone_110 : decode cX11_phone 110 = .ok (.istore 5, 2) := by decide +kernel
theorem dX11_phone_112 : decode cX11_phone 112 = .ok (.aload_n 0, 1) := by decide +kernel
theorem dX11_phone_113 : decode cX11_phone 113 = .ok (.getfield 20, 3) := by decide +kernel
theorem dX11_phone_116 : decode cX11_phone 116 = .ok (.iconst 0, 1) := by decide +kernel
theorem dX11_phone_117 : decode cX11_phone 117 = .ok (.dup2, 1) := by decide +kernel
theorem dX11_phone_118 : decode cX11_phone 118 = .ok (.iaload, 1) := by decide +kernel
theorem dX11_phone_119 : decode cX11_phone 119 = .ok (.iconst 1, 1) := by decide +kernel
theorem dX11_phone_120 : decode cX11_phone 120 = .ok (.iadd, 1) := by decide +kernel
theorem dX11_phone_121 : decode cX11_phone 121 = .ok (.iastore, 1) := by decide +kernel
theorem dX11_phone_122 : decode cX11_phone 122 = .ok (.aload_n 0, 1) := by decide +kernel
theorem dX11_phone_123 : decode cX11_phone 123 = .ok (.getfield 20, 3) := by decide +kernel
theorem dX11_phone_126 : decode cX11_phone 126 = .ok (.bipush 11, 2) := by decide +kernel
theorem dX11_phone_128 : decode cX11_phone 128 = .ok (.iconst 3, 1) := by decide +kernel
theorem dX11_phone_129 : decode cX11_phone 129 = .ok (.iload 5, 2) := by decide +kernel
theorem dX11_phone_131 : decode cX11_phone 131 = .ok (.imul, 1) := by decide +kernel
theorem dX11_phone_132 : decode cX11_phone 132 = .ok (.iadd, 1) := by decide +kernel
theorem dX11_phone_133 : decode cX11_phone 133 = .ok (.iload_n 1, 1) := by decide +kernel
theorem dX11_phone_134 : decode cX11_phone 134 = .ok (.iastore, 1) := by decide +kernel
theorem dX11_phone_135 : decode cX11_phone 135 = .ok (.aload_n 0, 1) := by decide +kernel
theorem dX11_phone_136 : decode cX11_phone 136 = .ok (.getfield 20, 3) := by decide +kernel
theorem dX11_phone_139 : decode cX11_phone 139 = .ok (.bipush 11, 2) := by decide +kernel
theorem dX11_phone_141 : decode cX11_phone 141 = .ok (.iconst 3, 1) := by decide +kernel
theorem dX11_phone_142 : decode cX11_phone 142 = .ok (.iload 5, 2) := by decide +kernel
theorem dX11_phone_144 : decode cX11_phone 144 = .ok (.imul, 1) := by decide +kernel
theorem dX11_phone_145 : decode cX11_phone 145 = .ok (.iadd, 1) := by decide +kernel
theorem dX11_phone_146 : decode cX11_phone 146 = .ok (.iconst 1, 1) := by decide +kernel
theorem dX11_phone_147 : decode cX11_phone 147 = .ok (.iadd, 1) := by decide +kernel
theorem dX11_phone_148 : decode cX11_phone 148 = .ok (.iload_n 3, 1) := by decide +kernel
theorem dX11_phone_149 : decode cX11_phone 149 = .ok (.iastore, 1) := by decide +kernel
theorem dX11_phone_150 : decode cX11_phone 150 = .ok (.aload_n 0, 1) := by decide +kernel
theorem dX11_phone_151 : decode cX11_phone 151 = .ok (.getfield 20, 3) := by decide +kernel
theorem dX11_phone_154 : decode cX11_phone 154 = .ok (.bipush 11, 2) := by decide +kernel
theorem dX11_phone_156 : decode cX11_phone 156 = .ok (.iconst 3, 1) := by decide +kernel
theorem dX11_phone_157 : decode cX11_phone 157 = .ok (.iload 5, 2) := by decide +kernel
theorem dX11_phone_159 : decode cX11_phone 159 = .ok (.imul, 1) := by decide +kernel
theorem dX11_phone_160 : decode cX11_phone 160 = .ok (.iadd, 1) := by decide +kernel
theorem dX11_phone_161 : decode cX11_phone 161 = .ok (.iconst 2, 1) := by decide +kernel
theorem dX11_phone_162 : decode cX11_phone 162 = .ok (.iadd, 1) := by decide +kernel
theorem dX11_phone_163 : decode cX11_phone 163 = .ok (.iload 4, 2) := by decide +kernel
theorem dX11_phone_165 : decode cX11_phone 165 = .ok (.iastore, 1) := by decide +kernel
theorem dX11_phone_166 : decode cX11_phone 166 = .ok (.iconst 0, 1) := by decide +kernel
theorem dX11_phone_167 : decode cX11_phone 167 = .ok (.istore 6, 2) := by decide +kernel
theorem dX11_phone_169 : decode cX11_phone 169 = .ok (.iload 6, 2) := by decide +kernel
theorem dX11_phone_171 : decode cX11_phone 171 = .ok (.iconst 5, 1) := by decide +kernel
theorem dX11_phone_172 : decode cX11_phone 172 = .ok (.if_icmp .ge 22, 3) := by decide +kernel
theorem dX11_phone_175 : decode cX11_phone 175 = .ok (.aload_n 0, 1) := by decide +kernel
theorem dX11_phone_176 : decode cX11_phone 176 = .ok (.getfield 13, 3) := by decide +kernel
theorem dX11_phone_179 : decode cX11_phone 179 = .ok (.iload 5, 2) := by decide +kernel
theorem dX11_phone_181 : decode cX11_phone 181 = .ok (.iload 6, 2) := by decide +kernel
theorem dX11_phone_183 : decode cX11_phone 183 = .ok (.invokestatic 100, 3) := by decide +kernel
theorem dX11_phone_186 : decode cX11_phone 186 = .ok (.iconst 0, 1) := by decide +kernel
theorem dX11_phone_187 : decode cX11_phone 187 = .ok (.iastore, 1) := by decide +kernel
theorem dX11_phone_188 : decode cX11_phone 188 = .ok (.iinc 6 1, 3) := by decide +kernel
theorem dX11_phone_191 : decode cX11_phone 191 = .ok (.goto (-22), 3) := by decide +kernel
theorem dX11_phone_194 : decode cX11_phone 194 = .ok (.aload_n 0, 1) := by decide +kernel
theorem dX11_phone_195 : decode cX11_phone 195 = .ok (.getfield 13, 3) := by decide +kernel
theorem dX11_phone_198 : decode cX11_phone 198 = .ok (.iload 5, 2) := by decide +kernel
theorem dX11_phone_200 : decode cX11_phone 200 = .ok (.iconst 0, 1) := by decide +kernel
theorem dX11_phone_201 : decode cX11_phone 201 = .ok (.invokestatic 100, 3) := by decide +kernel
theorem dX11_phone_204 : decode cX11_phone 204 = .ok (.iload_n 1, 1) := by decide +kernel
theorem dX11_phone_205 : decode cX11_phone 205 = .ok (.iastore, 1) := by decide +kernel
theorem dX11_phone_206 : decode cX11_phone 206 = .ok (.aload_n 0, 1) := by decide +kernel
theorem dX11_phone_207 : decode cX11_phone 207 = .ok (.getfield 13, 3) := by decide +kernel
theorem dX11_phone_210 : decode cX11_phone 210 = .ok (.iload 5, 2) := by decide +kernel
theorem dX11_phone_212 : decode cX11_phone 212 = .ok (.iconst 1, 1) := by decide +kernel
theorem dX11_phone_213 : decode cX11_phone 213 = .ok (.invokestatic 100, 3) := by decide +kernel
theorem dX11_phone_216 : decode cX11_phone 216 = .ok (.iload_n 2, 1) := by decide +kernel
theorem dX11_phone_217 : decode cX11_phone 217 = .ok (.iastore, 1) := by decide +kernel
theorem dX11_phone_218 : decode cX11_phone 218 = .ok (.iconst 0, 1) := by decide +kernel
theorem dX11_phone_219 : decode cX11_phone 219 = .ok (.istore 6, 2) := by decide +kernel
theorem dX11_phone_221 : decode cX11_phone 221 = .ok (.iload 6, 2) := by decide +kernel
theorem dX11_phone_223 : decode cX11_phone 223 = .ok (.bipush 30, 2) := by decide +kernel
theorem dX11_phone_225 : decode cX11_phone 225 = .ok (.if_icmp .ge 23, 3) := by decide +kernel
theorem dX11_phone_228 : decode cX11_phone 228 = .ok (.aload_n 0, 1) := by decide +kernel
theorem dX11_phone_229 : decode cX11_phone 229 = .ok (.getfield 13, 3) := by decide +kernel
theorem dX11_phone_232 : decode cX11_phone 232 = .ok (.iload 5, 2) := by decide +kernel
theorem dX11_phone_234 : decode cX11_phone 234 = .ok (.iload 6, 2) := by decide +kernel
theorem dX11_phone_236 : decode cX11_phone 236 = .ok (.iconst 0, 1) := by decide +kernel
theorem dX11_phone_237 : decode cX11_phone 237 = .ok (.invokestatic 85, 3) := by decide +kernel
theorem dX11_phone_240 : decode cX11_phone 240 = .ok (.iconst 0, 1) := by decide +kernel
theorem dX11_phone_241 : decode cX11_phone 241 = .ok (.iastore, 1) := by decide +kernel
theorem dX11_phone_242 : decode cX11_phone 242 = .ok (.iinc 6 1, 3) := by decide +kernel
theorem dX11_phone_245 : decode cX11_phone 245 = .ok (.goto (-24), 3) := by decide +kernel
theorem dX11_phone_248 : decode cX11_phone 248 = .ok (.iload 5, 2) := by decide +kernel
theorem dX11_phone_250 : decode cX11_phone 250 = .ok (.ireturn, 1) := by decide +kernel
theorem dX11_move_0 : decode cX11_move 0 = .ok (.aload_n 0, 1) := by decide +kernel
theorem dX11_move_1 : decode cX11_move 1 = .ok (.iconst 0, 1) := by decide +kernel
theorem dX11_move_2 : decode cX11_move 2 = .ok (.putfield 3, 3) := by decide +kernel
theorem dX11_move_5 : decode cX11_move 5 = .ok (.aload_n 0, 1) := by decide +kernel
theorem dX11_move_6 : decode cX11_move 6 = .ok (.iload_n 1, 1) := by decide +kernel
theorem dX11_move_7 : decode cX11_move 7 = .ok (.iconst 0, 1) := by decide +kernel
theorem dX11_move_8 : decode cX11_move 8 = .ok (.iconst 3, 1) := by decide +kernel
theorem dX11_move_9 : decode cX11_move 9 = .ok (.invokestatic 68, 3) := by decide +kernel
theorem dX11_move_12 : decode cX11_move 12 = .ok (.ifCond .eq 19, 3) := by decide +kernel
theorem dX11_move_15 : decode cX11_move 15 = .ok (.aload_n 0, 1) := by decide +kernel
theorem dX11_move_16 : decode cX11_move 16 = .ok (.iload_n 2, 1) := by decide +kernel
theorem dX11_move_17 : decode cX11_move 17 = .ok (.invokevirtual 104, 3) := by decide +kernel
theorem dX11_move_20 : decode cX11_move 20 = .ok (.ifCond .ne 11, 3) := by decide +kernel
theorem dX11_move_23 : decode cX11_move 23 = .ok (.iload 4, 2) := by decide +kernel
theorem dX11_move_25 : decode cX11_move 25 = .ok (.invokestatic 89, 3) := by decide +kernel
theorem dX11_move_28 : decode cX11_move 28 = .ok (.ifCond .eq 7, 3) := by decide +kernel
theorem dX11_move_31 : decode cX11_move 31 = .ok (.iconst 1, 1) := by decide +kernel
theorem dX11_move_32 : decode cX11_move 32 = .ok (.goto 4, 3) := by decide +kernel
theorem dX11_move_35 : decode cX11_move 35 = .ok (.iconst 0, 1) := by decide +kernel
theorem dX11_move_36 : decode cX11_move 36 = .ok (.iconst 1, 1) := by decide +kernel
theorem dX11_move_37 : decode cX11_move 37 = .ok (.invokevirtual 93, 3) := by decide +kernel
theorem dX11_move_40 : decode cX11_move 40 = .ok (.ifCond .ne 32, 3) := by decide +kernel
theorem dX11_move_43 : decode cX11_move 43 = .ok (.aload_n 0, 1) := by decide +kernel
theorem dX11_move_44 : decode cX11_move 44 = .ok (.iload_n 3, 1) := by decide +kernel
theorem dX11_move_45 : decode cX11_move 45 = .ok (.aload_n 0, 1) := by decide +kernel
theorem dX11_move_46 : decode cX11_move 46 = .ok (.invokevirtual 97, 3) := by decide +kernel
theorem dX11_move_49 : decode cX11_move 49 = .ok (.iconst 1, 1) := by decide +kernel
theorem dX11_move_50 : decode cX11_move 50 = .ok (.iadd, 1) := by decide +kernel
theorem dX11_move_51 : decode cX11_move 51 = .ok (.sipush 400, 3) := by decide +kernel
theorem dX11_move_54 : decode cX11_move 54 = .ok (.invokestatic 68, 3) := by decide +kernel
theorem dX11_move_57 : decode cX11_move 57 = .ok (.ifCond .ne 7, 3) := by decide +kernel
theorem dX11_move_60 : decode cX11_move 60 = .ok (.iconst 1, 1) := by decide +kernel
theorem dX11_move_61 : decode cX11_move 61 = .ok (.goto 4, 3) := by decide +kernel
theorem dX11_move_64 : decode cX11_move 64 = .ok (.iconst 0, 1) := by decide +kernel
theorem dX11_move_65 : decode cX11_move 65 = .ok (.iconst 2, 1) := by decide +kernel
theorem dX11_move_66 : decode cX11_move 66 = .ok (.invokevirtual 93, 3) := by decide +kernel
theorem dX11_move_69 : decode cX11_move 69 = .ok (.ifCond .eq 5, 3) := by decide +kernel
theorem dX11_move_72 : decode cX11_move 72 = .ok (.iconst 0, 1) := by decide +kernel
theorem dX11_move_73 : decode cX11_move 73 = .ok (.ireturn, 1) := by decide +kernel
theorem dX11_move_74 : decode cX11_move 74 = .ok (.aload_n 0, 1) := by decide +kernel
theorem dX11_move_75 : decode cX11_move 75 = .ok (.getfield 20, 3) := by decide +kernel
theorem dX11_move_78 : decode cX11_move 78 = .ok (.iconst 2, 1) := by decide +kernel
theorem dX11_move_79 : decode cX11_move 79 = .ok (.iload_n 1, 1) := by decide +kernel
theorem dX11_move_80 : decode cX11_move 80 = .ok (.iadd, 1) := by decide +kernel
theorem dX11_move_81 : decode cX11_move 81 = .ok (.iaload, 1) := by decide +kernel
theorem dX11_move_82 : decode cX11_move 82 = .ok (.istore 5, 2) := by decide +kernel
theorem dX11_move_84 : decode cX11_move 84 = .ok (.iload 5, 2) := by decide +kernel
theorem dX11_move_86 : decode cX11_move 86 = .ok (.bipush 60, 2) := by decide +kernel
theorem dX11_move_88 : decode cX11_move 88 = .ok (.if_icmp .ne 5, 3) := by decide +kernel
theorem dX11_move_91 : decode cX11_move 91 = .ok (.iconst (-1), 1) := by decide +kernel
theorem dX11_move_92 : decode cX11_move 92 = .ok (.ireturn, 1) := by decide +kernel
theorem dX11_move_93 : decode cX11_move 93 = .ok (.bipush 41, 2) := by decide +kernel
theorem dX11_move_95 : decode cX11_move 95 = .ok (.iconst 3, 1) := by decide +kernel
theorem dX11_move_96 : decode cX11_move 96 = .ok (.bipush 60, 2) := by decide +kernel
theorem dX11_move_98 : decode cX11_move 98 = .ok (.iload_n 1, 1) := by decide +kernel
theorem dX11_move_99 : decode cX11_move 99 = .ok (.imul, 1) := by decide +kernel
theorem dX11_move_100 : decode cX11_move 100 = .ok (.iload 5, 2) := by decide +kernel
theorem dX11_move_102 : decode cX11_move 102 = .ok (.iadd, 1) := by decide +kernel
theorem dX11_move_103 : decode cX11_move 103 = .ok (.imul, 1) := by decide +kernel
theorem dX11_move_104 : decode cX11_move 104 = .ok (.iadd, 1) := by decide +kernel
theorem dX11_move_105 : decode cX11_move 105 = .ok (.istore 6, 2) := by decide +kernel
theorem dX11_move_107 : decode cX11_move 107 = .ok (.aload_n 0, 1) := by decide +kernel
theorem dX11_move_108 : decode cX11_move 108 = .ok (.getfield 20, 3) := by decide +kernel
theorem dX11_move_111 : decode cX11_move 111 = .ok (.iload 6, 2) := by decide +kernel
theorem dX11_move_113 : decode cX11_move 113 = .ok (.iload_n 2, 1) := by decide +kernel
theorem dX11_move_114 : decode cX11_move 114 = .ok (.iastore, 1) := by decide +kernel
theorem dX11_move_115 : decode cX11_move 115 = .ok (.aload_n 0, 1) := by decide +kernel
theorem dX11_move_116 : decode cX11_move 116 = .ok (.getfield 20, 3) := by decide +kernel
theorem dX11_move_119 : decode cX11_move 119 = .ok (.iload 6, 2) := by decide +kernel
theorem dX11_move_121 : decode cX11_move 121 = .ok (.iconst 1, 1) := by decide +kernel
theorem dX11_move_122 : decode cX11_move 122 = .ok (.iadd, 1) := by decide +kernel
theorem dX11_move_123 : decode cX11_move 123 = .ok (.iload_n 3, 1) := by decide +kernel
theorem dX11_move_124 : decode cX11_move 124 = .ok (.iastore, 1) := by decide +kernel
theorem dX11_move_125 : decode cX11_move 125 = .ok (.aload_n 0, 1) := by decide +kernel
theorem dX11_move_126 : decode cX11_move 126 = .ok (.getfield 20, 3) := by decide +kernel
theorem dX11_move_129 : decode cX11_move 129 = .ok (.iload 6, 2) := by decide +kernel
theorem dX11_move_131 : decode cX11_move 131 = .ok (.iconst 2, 1) := by decide +kernel
theorem dX11_move_132 : decode cX11_move 132 = .ok (.iadd, 1) := by decide +kernel
theorem dX11_move_133 : decode cX11_move 133 = .ok (.iload 4, 2) := by decide +kernel
theorem dX11_move_135 : decode cX11_move 135 = .ok (.iastore, 1) := by decide +kernel
theorem dX11_move_136 : decode cX11_move 136 = .ok (.aload_n 0, 1) := by decide +kernel
theorem dX11_move_137 : decode cX11_move 137 = .ok (.getfield 20, 3) := by decide +kernel
theorem dX11_move_140 : decode cX11_move 140 = .ok (.iconst 2, 1) := by decide +kernel
theorem dX11_move_141 : decode cX11_move 141 = .ok (.iload_n 1, 1) := by decide +kernel
theorem dX11_move_142 : decode cX11_move 142 = .ok (.iadd, 1) := by decide +kernel
theorem dX11_move_143 : decode cX11_move 143 = .ok (.dup2, 1) := by decide +kernel
theorem dX11_move_144 : decode cX11_move 144 = .ok (.iaload, 1) := by decide +kernel
theorem dX11_move_145 : decode cX11_move 145 = .ok (.iconst 1, 1) := by decide +kernel
theorem dX11_move_146 : decode cX11_move 146 = .ok (.iadd, 1) := by decide +kernel
theorem dX11_move_147 : decode cX11_move 147 = .ok (.iastore, 1) := by decide +kernel
theorem dX11_move_148 : decode cX11_move 148 = .ok (.iload 5, 2) := by decide +kernel
theorem dX11_move_150 : decode cX11_move 150 = .ok (.iconst 1, 1) := by decide +kernel
theorem dX11_move_151 : decode cX11_move 151 = .ok (.iadd, 1) := by decide +kernel
theorem dX11_move_152 : decode cX11_move 152 = .ok (.ireturn, 1) := by decide +kernel
theorem dX11_placeAt_0 : decode cX11_placeAt 0 = .ok (.iconst (-1), 1) := by decide +kernel
theorem dX11_placeAt_1 : decode cX11_placeAt 1 = .ok (.istore_n 3, 1) := by decide +kernel
theorem dX11_placeAt_2 : decode cX11_placeAt 2 = .ok (.iconst 0, 1) := by decide +kernel
theorem dX11_placeAt_3 : decode cX11_placeAt 3 = .ok (.istore 4, 2) := by decide +kernel
theorem dX11_placeAt_5 : decode cX11_placeAt 5 = .ok (.iload 4, 2) := by decide +kernel
theorem dX11_placeAt_7 : decode cX11_placeAt 7 = .ok (.aload_n 0, 1) := by decide +kernel
theorem dX11_placeAt_8 : decode cX11_placeAt 8 = .ok (.getfield 20, 3) := by decide +kernel
theorem dX11_placeAt_11 : decode cX11_placeAt 11 = .ok (.iconst 2, 1) := by decide +kernel
theorem dX11_placeAt_12 : decode cX11_placeAt 12 = .ok (.aload_n 0, 1) := by decide +kernel
theorem dX11_placeAt_13 : decode cX11_placeAt 13 = .ok (.getfield 107, 3) := by decide +kernel
theorem dX11_placeAt_16 : decode cX11_placeAt 16 = .ok (.iadd, 1) := by decide +kernel
theorem dX11_placeAt_17 : decode cX11_placeAt 17 = .ok (.iaload, 1) := by decide +kernel
theorem dX11_placeAt_18 : decode cX11_placeAt 18 = .ok (.if_icmp .ge 77, 3) := by decide +kernel
theorem dX11_placeAt_21 : decode cX11_placeAt 21 = .ok (.bipush 41, 2) := by decide +kernel
theorem dX11_placeAt_23 : decode cX11_placeAt 23 = .ok (.iconst 3, 1) := by decide +kernel
theorem dX11_placeAt_24 : decode cX11_placeAt 24 = .ok (.bipush 60, 2) := by decide +kernel
theorem dX11_placeAt_26 : decode cX11_placeAt 26 = .ok (.aload_n 0, 1) := by decide +kernel
theorem dX11_placeAt_27 : decode cX11_placeAt 27 = .ok (.getfield 107, 3) := by decide +kernel
theorem dX11_placeAt_30 : decode cX11_placeAt 30 = .ok (.imul, 1) := by decide +kernel
theorem dX11_placeAt_31 : decode cX11_placeAt 31 = .ok (.iload 4, 2) := by decide +kernel
theorem dX11_placeAt_33 : decode cX11_placeAt 33 = .ok (.iadd, 1) := by decide +kernel
theorem dX11_placeAt_34 : decode cX11_placeAt 34 = .ok (.imul, 1) := by decide +kernel
theorem dX11_placeAt_35 : decode cX11_placeAt 35 = .ok (.iadd, 1) := by decide +kernel
theorem dX11_placeAt_36 : decode cX11_placeAt 36 = .ok (.istore 5, 2) := by decide +kernel
theorem dX11_placeAt_38 : decode cX11_placeAt 38 = .ok (.aload_n 0, 1) := by decide +kernel
theorem dX11_placeAt_39 : decode cX11_placeAt 39 = .ok (.getfield 20, 3) := by decide +kernel
theorem dX11_placeAt_42 : decode cX11_placeAt 42 = .ok (.iload 5, 2) := by decide +kernel
theorem dX11_placeAt_44 : decode cX11_placeAt 44 = .ok (.iaload, 1) := by decide +kernel
theorem dX11_placeAt_45 : decode cX11_placeAt 45 = .ok (.iload_n 1, 1) := by decide +kernel
theorem dX11_placeAt_46 : decode cX11_placeAt 46 = .ok (.if_icmp .ne 43, 3) := by decide +kernel
theorem dX11_placeAt_49 : decode cX11_placeAt 49 = .ok (.aload_n 0, 1) := by decide +kernel
theorem dX11_placeAt_50 : decode cX11_placeAt 50 = .ok (.getfield 20, 3) := by decide +kernel
theorem dX11_placeAt_53 : decode cX11_placeAt 53 = .ok (.iload 5, 2) := by decide +kernel
theorem dX11_placeAt_55 : decode cX11_placeAt 55 = .ok (.iconst 1, 1) := by decide +kernel
theorem dX11_placeAt_56 : decode cX11_placeAt 56 = .ok (.iadd, 1) := by decide +kernel
theorem dX11_placeAt_57 : decode cX11_placeAt 57 = .ok (.iaload, 1) := by decide +kernel
theorem dX11_placeAt_58 : decode cX11_placeAt 58 = .ok (.iload_n 2, 1) := by decide +kernel
theorem dX11_placeAt_59 : decode cX11_placeAt 59 = .ok (.if_icmp .gt 30, 3) := by decide +kernel
theorem dX11_placeAt_62 : decode cX11_placeAt 62 = .ok (.iload_n 3, 1) := by decide +kernel
theorem dX11_placeAt_63 : decode cX11_placeAt 63 = .ok (.ifCond .lt 23, 3) := by decide +kernel
theorem dX11_placeAt_66 : decode cX11_placeAt 66 = .ok (.aload_n 0, 1) := by decide +kernel
theorem dX11_placeAt_67 : decode cX11_placeAt 67 = .ok (.getfield 20, 3) := by decide +kernel
theorem dX11_placeAt_70 : decode cX11_placeAt 70 = .ok (.iload 5, 2) := by decide +kernel
theorem dX11_placeAt_72 : decode cX11_placeAt 72 = .ok (.iconst 1, 1) := by decide +kernel
theorem dX11_placeAt_73 : decode cX11_placeAt 73 = .ok (.iadd, 1) := by decide +kernel
theorem dX11_placeAt_74 : decode cX11_placeAt 74 = .ok (.iaload, 1) := by decide +kernel
theorem dX11_placeAt_75 : decode cX11_placeAt 75 = .ok (.aload_n 0, 1) := by decide +kernel
theorem dX11_placeAt_76 : decode cX11_placeAt 76 = .ok (.getfield 20, 3) := by decide +kernel
theorem dX11_placeAt_79 : decode cX11_placeAt 79 = .ok (.iload_n 3, 1) := by decide +kernel
theorem dX11_placeAt_80 : decode cX11_placeAt 80 = .ok (.iconst 1, 1) := by decide +kernel
theorem dX11_placeAt_81 : decode cX11_placeAt 81 = .ok (.iadd, 1) := by decide +kernel
theorem dX11_placeAt_82 : decode cX11_placeAt 82 = .ok (.iaload, 1) := by decide +kernel
theorem dX11_placeAt_83 : decode cX11_placeAt 83 = .ok (.if_icmp .lt 6, 3) := by decide +kernel
theorem dX11_placeAt_86 : decode cX11_placeAt 86 = .ok (.iload 5, 2) := by decide +kernel
theorem dX11_placeAt_88 : decode cX11_placeAt 88 = .ok (.istore_n 3, 1) := by decide +kernel
theorem dX11_placeAt_89 : decode cX11_placeAt 89 = .ok (.iinc 4 1, 3) := by decide +kernel
theorem dX11_placeAt_92 : decode cX11_placeAt 92 = .ok (.goto (-87), 3) := by decide +kernel
theorem dX11_placeAt_95 : decode cX11_placeAt 95 = .ok (.iload_n 3, 1) := by decide +kernel
theorem dX11_placeAt_96 : decode cX11_placeAt 96 = .ok (.ifCond .ge 12, 3) := by decide +kernel
theorem dX11_placeAt_99 : decode cX11_placeAt 99 = .ok (.aload_n 0, 1) := by decide +kernel
theorem dX11_placeAt_100 : decode cX11_placeAt 100 = .ok (.iload_n 1, 1) := by decide +kernel
theorem dX11_placeAt_101 : decode cX11_placeAt 101 = .ok (.iconst 0, 1) := by decide +kernel
theorem dX11_placeAt_102 : decode cX11_placeAt 102 = .ok (.invokevirtual 110, 3) := by decide +kernel
theorem dX11_placeAt_105 : decode cX11_placeAt 105 = .ok (.goto 11, 3) := by decide +kernel
theorem dX11_placeAt_108 : decode cX11_placeAt 108 = .ok (.aload_n 0, 1) := by decide +kernel
theorem dX11_placeAt_109 : decode cX11_placeAt 109 = .ok (.getfield 20, 3) := by decide +kernel
theorem dX11_placeAt_112 : decode cX11_placeAt 112 = .ok (.iload_n 3, 1) := by decide +kernel
theorem dX11_placeAt_113 : decode cX11_placeAt 113 = .ok (.iconst 2, 1) := by decide +kernel
theorem dX11_placeAt_114 : decode cX11_placeAt 114 = .ok (.iadd, 1) := by decide +kernel
theorem dX11_placeAt_115 : decode cX11_placeAt 115 = .ok (.iaload, 1) := by decide +kernel
theorem dX11_placeAt_116 : decode cX11_placeAt 116 = .ok (.ireturn, 1) := by decide +kernel
theorem dX11_feed_0 : decode cX11_feed 0 = .ok (.aload_n 0, 1) := by decide +kernel
theorem dX11_feed_1 : decode cX11_feed 1 = .ok (.iconst 0, 1) := by decide +kernel
theorem dX11_feed_2 : decode cX11_feed 2 = .ok (.putfield 3, 3) := by decide +kernel
theorem dX11_feed_5 : decode cX11_feed 5 = .ok (.aload_n 0, 1) := by decide +kernel
theorem dX11_feed_6 : decode cX11_feed 6 = .ok (.getfield 113, 3) := by decide +kernel
theorem dX11_feed_9 : decode cX11_feed 9 = .ok (.bipush 20, 2) := by decide +kernel
theorem dX11_feed_11 : decode cX11_feed 11 = .ok (.iadd, 1) := by decide +kernel
theorem dX11_feed_12 : decode cX11_feed 12 = .ok (.sipush 400, 3) := by decide +kernel
theorem dX11_feed_15 : decode cX11_feed 15 = .ok (.if_icmp .le 5, 3) := by decide +kernel
theorem dX11_feed_18 : decode cX11_feed 18 = .ok (.iconst (-1), 1) := by decide +kernel
theorem dX11_feed_19 : decode cX11_feed 19 = .ok (.ireturn, 1) := by decide +kernel
theorem dX11_feed_20 : decode cX11_feed 20 = .ok (.aload_n 0, 1) := by decide +kernel
theorem dX11_feed_21 : decode cX11_feed 21 = .ok (.getfield 33, 3) := by decide +kernel
theorem dX11_feed_24 : decode cX11_feed 24 = .ok (.iconst 0, 1) := by decide +kernel
theorem dX11_feed_25 : decode cX11_feed 25 = .ok (.iload_n 1, 1) := by decide +kernel
theorem dX11_feed_26 : decode cX11_feed 26 = .ok (.iastore, 1) := by decide +kernel
theorem dX11_feed_27 : decode cX11_feed 27 = .ok (.aload_n 0, 1) := by decide +kernel
theorem dX11_feed_28 : decode cX11_feed 28 = .ok (.getfield 33, 3) := by decide +kernel
theorem dX11_feed_31 : decode cX11_feed 31 = .ok (.iconst 1, 1) := by decide +kernel
theorem dX11_feed_32 : decode cX11_feed 32 = .ok (.iload_n 2, 1) := by decide +kernel
theorem dX11_feed_33 : decode cX11_feed 33 = .ok (.iastore, 1) := by decide +kernel
theorem dX11_feed_34 : decode cX11_feed 34 = .ok (.aload_n 0, 1) := by decide +kernel
theorem dX11_feed_35 : decode cX11_feed 35 = .ok (.getfield 33, 3) := by decide +kernel
theorem dX11_feed_38 : decode cX11_feed 38 = .ok (.iconst 2, 1) := by decide +kernel
theorem dX11_feed_39 : decode cX11_feed 39 = .ok (.iload_n 3, 1) := by decide +kernel
theorem dX11_feed_40 : decode cX11_feed 40 = .ok (.iastore, 1) := by decide +kernel
theorem dX11_feed_41 : decode cX11_feed 41 = .ok (.aload_n 0, 1) := by decide +kernel
theorem dX11_feed_42 : decode cX11_feed 42 = .ok (.getfield 33, 3) := by decide +kernel
theorem dX11_feed_45 : decode cX11_feed 45 = .ok (.iconst 3, 1) := by decide +kernel
theorem dX11_feed_46 : decode cX11_feed 46 = .ok (.iload 4, 2) := by decide +kernel
theorem dX11_feed_48 : decode cX11_feed 48 = .ok (.iastore, 1) := by decide +kernel
theorem dX11_feed_49 : decode cX11_feed 49 = .ok (.aload_n 0, 1) := by decide +kernel
theorem dX11_feed_50 : decode cX11_feed 50 = .ok (.getfield 33, 3) := by decide +kernel
theorem dX11_feed_53 : decode cX11_feed 53 = .ok (.iconst 4, 1) := by decide +kernel
theorem dX11_feed_54 : decode cX11_feed 54 = .ok (.iload 5, 2) := by decide +kernel
theorem dX11_feed_56 : decode cX11_feed 56 = .ok (.iastore, 1) := by decide +kernel
theorem dX11_feed_57 : decode cX11_feed 57 = .ok (.iconst 0, 1) := by decide +kernel
theorem dX11_feed_58 : decode cX11_feed 58 = .ok (.istore 6, 2) := by decide +kernel
theorem dX11_feed_60 : decode cX11_feed 60 = .ok (.iload 6, 2) := by decide +kernel
theorem dX11_feed_62 : decode cX11_feed 62 = .ok (.bipush 20, 2) := by decide +kernel
theorem dX11_feed_64 : decode cX11_feed 64 = .ok (.if_icmp .ge 42, 3) := by decide +kernel
theorem dX11_feed_67 : decode cX11_feed 67 = .ok (.aload_n 0, 1) := by decide +kernel
theorem dX11_feed_68 : decode cX11_feed 68 = .ok (.getfield 26, 3) := by decide +kernel
theorem dX11_feed_71 : decode cX11_feed 71 = .ok (.aload_n 0, 1) := by decide +kernel
theorem dX11_feed_72 : decode cX11_feed 72 = .ok (.getfield 113, 3) := by decide +kernel
theorem dX11_feed_75 : decode cX11_feed 75 = .ok (.iload 6, 2) := by decide +kernel
theorem dX11_feed_77 : decode cX11_feed 77 = .ok (.iadd, 1) := by decide +kernel
theorem dX11_feed_78 : decode cX11_feed 78 = .ok (.aload_n 0, 1) := by decide +kernel
theorem dX11_feed_79 : decode cX11_feed 79 = .ok (.getfield 33, 3) := by decide +kernel
theorem dX11_feed_82 : decode cX11_feed 82 = .ok (.iload 6, 2) := by decide +kernel
theorem dX11_feed_84 : decode cX11_feed 84 = .ok (.iconst 4, 1) := by decide +kernel
theorem dX11_feed_85 : decode cX11_feed 85 = .ok (.idiv, 1) := by decide +kernel
theorem dX11_feed_86 : decode cX11_feed 86 = .ok (.iaload, 1) := by decide +kernel
theorem dX11_feed_87 : decode cX11_feed 87 = .ok (.bipush 24, 2) := by decide +kernel
theorem dX11_feed_89 : decode cX11_feed 89 = .ok (.bipush 8, 2) := by decide +kernel
theorem dX11_feed_91 : decode cX11_feed 91 = .ok (.iload 6, 2) := by decide +kernel
theorem dX11_feed_93 : decode cX11_feed 93 = .ok (.iconst 4, 1) := by decide +kernel
theorem dX11_feed_94 : decode cX11_feed 94 = .ok (.irem, 1) := by decide +kernel
theorem dX11_feed_95 : decode cX11_feed 95 = .ok (.imul, 1) := by decide +kernel
theorem dX11_feed_96 : decode cX11_feed 96 = .ok (.isub, 1) := by decide +kernel
theorem dX11_feed_97 : decode cX11_feed 97 = .ok (.ishr, 1) := by decide +kernel
theorem dX11_feed_98 : decode cX11_feed 98 = .ok (.i2b, 1) := by decide +kernel
theorem dX11_feed_99 : decode cX11_feed 99 = .ok (.bastore, 1) := by decide +kernel
theorem dX11_feed_100 : decode cX11_feed 100 = .ok (.iinc 6 1, 3) := by decide +kernel
theorem dX11_feed_103 : decode cX11_feed 103 = .ok (.goto (-43), 3) := by decide +kernel
theorem dX11_feed_106 : decode cX11_feed 106 = .ok (.aload_n 0, 1) := by decide +kernel
theorem dX11_feed_107 : decode cX11_feed 107 = .ok (.dup, 1) := by decide +kernel
theorem dX11_feed_108 : decode cX11_feed 108 = .ok (.getfield 113, 3) := by decide +kernel
theorem dX11_feed_111 : decode cX11_feed 111 = .ok (.bipush 20, 2) := by decide +kernel
theorem dX11_feed_113 : decode cX11_feed 113 = .ok (.iadd, 1) := by decide +kernel
theorem dX11_feed_114 : decode cX11_feed 114 = .ok (.putfield 113, 3) := by decide +kernel
theorem dX11_feed_117 : decode cX11_feed 117 = .ok (.aload_n 0, 1) := by decide +kernel
theorem dX11_feed_118 : decode cX11_feed 118 = .ok (.getfield 113, 3) := by decide +kernel
theorem dX11_feed_121 : decode cX11_feed 121 = .ok (.ireturn, 1) := by decide +kernel
theorem dX11_end_0 : decode cX11_end 0 = .ok (.aload_n 0, 1) := by decide +kernel
theorem dX11_end_1 : decode cX11_end 1 = .ok (.iconst 0, 1) := by decide +kernel
theorem dX11_end_2 : decode cX11_end 2 = .ok (.putfield 3, 3) := by decide +kernel
theorem dX11_end_5 : decode cX11_end 5 = .ok (.iload_n 1, 1) := by decide +kernel
theorem dX11_end_6 : decode cX11_end 6 = .ok (.ifCond .lt 11, 3) := by decide +kernel
theorem dX11_end_9 : decode cX11_end 9 = .ok (.iload_n 1, 1) := by decide +kernel
theorem dX11_end_10 : decode cX11_end 10 = .ok (.aload_n 0, 1) := by decide +kernel
theorem dX11_end_11 : decode cX11_end 11 = .ok (.getfield 113, 3) := by decide +kernel
theorem dX11_end_14 : decode cX11_end 14 = .ok (.if_icmp .le 5, 3) := by decide +kernel
theorem dX11_end_17 : decode cX11_end 17 = .ok (.iconst 0, 1) := by decide +kernel
theorem dX11_end_18 : decode cX11_end 18 = .ok (.ireturn, 1) := by decide +kernel
theorem dX11_end_19 : decode cX11_end 19 = .ok (.aload_n 0, 1) := by decide +kernel
theorem dX11_end_20 : decode cX11_end 20 = .ok (.iload_n 1, 1) := by decide +kernel
theorem dX11_end_21 : decode cX11_end 21 = .ok (.putfield 113, 3) := by decide +kernel
theorem dX11_end_24 : decode cX11_end 24 = .ok (.iconst 1, 1) := by decide +kernel
theorem dX11_end_25 : decode cX11_end 25 = .ok (.ireturn, 1) := by decide +kernel
theorem dX11_uses_0 : decode cX11_uses 0 = .ok (.aload_n 0, 1) := by decide +kernel
theorem dX11_uses_1 : decode cX11_uses 1 = .ok (.iconst 0, 1) := by decide +kernel
theorem dX11_uses_2 : decode cX11_uses 2 = .ok (.putfield 3, 3) := by decide +kernel
theorem dX11_uses_5 : decode cX11_uses 5 = .ok (.aload_n 0, 1) := by decide +kernel
theorem dX11_uses_6 : decode cX11_uses 6 = .ok (.aload_n 0, 1) := by decide +kernel
theorem dX11_uses_7 : decode cX11_uses 7 = .ok (.getfield 113, 3) := by decide +kernel
theorem dX11_uses_10 : decode cX11_uses 10 = .ok (.putfield 116, 3) := by decide +kernel
theorem dX11_uses_13 : decode cX11_uses 13 = .ok (.aload_n 0, 1) := by decide +kernel
theorem dX11_uses_14 : decode cX11_uses 14 = .ok (.iconst 0, 1) := by decide +kernel
theorem dX11_uses_15 : decode cX11_uses 15 = .ok (.putfield 113, 3) := by decide +kernel
theorem dX11_uses_18 : decode cX11_uses 18 = .ok (.aload_n 0, 1) := by decide +kernel
theorem dX11_uses_19 : decode cX11_uses 19 = .ok (.iconst 0, 1) := by decide +kernel
theorem dX11_uses_20 : decode cX11_uses 20 = .ok (.putfield 119, 3) := by decide +kernel
theorem dX11_uses_23 : decode cX11_uses 23 = .ok (.return_, 1) := by decide +kernel
theorem dX11_isAt_0 : decode cX11_isAt 0 = .ok (.aload_n 0, 1) := by decide +kernel
theorem dX11_isAt_1 : decode cX11_isAt 1 = .ok (.getfield 119, 3) := by decide +kernel
theorem dX11_isAt_4 : decode cX11_isAt 4 = .ok (.aload_n 0, 1) := by decide +kernel
theorem dX11_isAt_5 : decode cX11_isAt 5 = .ok (.getfield 116, 3) := by decide +kernel
theorem dX11_isAt_8 : decode cX11_isAt 8 = .ok (.if_icmp .ge 33, 3) := by decide +kernel
theorem dX11_isAt_11 : decode cX11_isAt 11 = .ok (.aload_n 0, 1) := by decide +kernel
theorem dX11_isAt_12 : decode cX11_isAt 12 = .ok (.getfield 26, 3) := by decide +kernel
theorem dX11_isAt_15 : decode cX11_isAt 15 = .ok (.aload_n 0, 1) := by decide +kernel
theorem dX11_isAt_16 : decode cX11_isAt 16 = .ok (.getfield 119, 3) := by decide +kernel
theorem dX11_isAt_19 : decode cX11_isAt 19 = .ok (.baload, 1) := by decide +kernel
theorem dX11_isAt_20 : decode cX11_isAt 20 = .ok (.iload_n 1, 1) := by decide +kernel
theorem dX11_isAt_21 : decode cX11_isAt 21 = .ok (.if_icmp .lt 20, 3) := by decide +kernel
theorem dX11_isAt_24 : decode cX11_isAt 24 = .ok (.aload_n 0, 1) := by decide +kernel
theorem dX11_isAt_25 : decode cX11_isAt 25 = .ok (.getfield 26, 3) := by decide +kernel
theorem dX11_isAt_28 : decode cX11_isAt 28 = .ok (.aload_n 0, 1) := by decide +kernel
theorem dX11_isAt_29 : decode cX11_isAt 29 = .ok (.getfield 119, 3) := by decide +kernel
theorem dX11_isAt_32 : decode cX11_isAt 32 = .ok (.baload, 1) := by decide +kernel
theorem dX11_isAt_33 : decode cX11_isAt 33 = .ok (.iload_n 2, 1) := by decide +kernel
theorem dX11_isAt_34 : decode cX11_isAt 34 = .ok (.if_icmp .gt 7, 3) := by decide +kernel
theorem dX11_isAt_37 : decode cX11_isAt 37 = .ok (.iconst 1, 1) := by decide +kernel
theorem dX11_isAt_38 : decode cX11_isAt 38 = .ok (.goto 4, 3) := by decide +kernel
theorem dX11_isAt_41 : decode cX11_isAt 41 = .ok (.iconst 0, 1) := by decide +kernel
theorem dX11_isAt_42 : decode cX11_isAt 42 = .ok (.ireturn, 1) := by decide +kernel
theorem dX11_blanks_0 : decode cX11_blanks 0 = .ok (.aload_n 0, 1) := by decide +kernel
theorem dX11_blanks_1 : decode cX11_blanks 1 = .ok (.bipush 32, 2) := by decide +kernel
theorem dX11_blanks_3 : decode cX11_blanks 3 = .ok (.bipush 32, 2) := by decide +kernel
theorem dX11_blanks_5 : decode cX11_blanks 5 = .ok (.invokevirtual 122, 3) := by decide +kernel
theorem dX11_blanks_8 : decode cX11_blanks 8 = .ok (.ifCond .eq 16, 3) := by decide +kernel
theorem dX11_blanks_11 : decode cX11_blanks 11 = .ok (.aload_n 0, 1) := by decide +kernel
theorem dX11_blanks_12 : decode cX11_blanks 12 = .ok (.dup, 1) := by decide +kernel
theorem dX11_blanks_13 : decode cX11_blanks 13 = .ok (.getfield 119, 3) := by decide +kernel
theorem dX11_blanks_16 : decode cX11_blanks 16 = .ok (.iconst 1, 1) := by decide +kernel
theorem dX11_blanks_17 : decode cX11_blanks 17 = .ok (.iadd, 1) := by decide +kernel
theorem dX11_blanks_18 : decode cX11_blanks 18 = .ok (.putfield 119, 3) := by decide +kernel
theorem dX11_blanks_21 : decode cX11_blanks 21 = .ok (.goto (-21), 3) := by decide +kernel
theorem dX11_blanks_24 : decode cX11_blanks 24 = .ok (.aload_n 0, 1) := by decide +kernel
theorem dX11_blanks_25 : decode cX11_blanks 25 = .ok (.aload_n 0, 1) := by decide +kernel
theorem dX11_blanks_26 : decode cX11_blanks 26 = .ok (.getfield 119, 3) := by decide +kernel
theorem dX11_blanks_29 : decode cX11_blanks 29 = .ok (.putfield 126, 3) := by decide +kernel
theorem dX11_blanks_32 : decode cX11_blanks 32 = .ok (.return_, 1) := by decide +kernel
theorem dX11_letters_0 : decode cX11_letters 0 = .ok (.aload_n 0, 1) := by decide +kernel
theorem dX11_letters_1 : decode cX11_letters 1 = .ok (.invokevirtual 129, 3) := by decide +kernel
theorem dX11_letters_4 : decode cX11_letters 4 = .ok (.aload_n 0, 1) := by decide +kernel
theorem dX11_letters_5 : decode cX11_letters 5 = .ok (.bipush 97, 2) := by decide +kernel
theorem dX11_letters_7 : decode cX11_letters 7 = .ok (.bipush 122, 2) := by decide +kernel
theorem dX11_letters_9 : decode cX11_letters 9 = .ok (.invokevirtual 122, 3) := by decide +kernel
theorem dX11_letters_12 : decode cX11_letters 12 = .ok (.ifCond .eq 16, 3) := by decide +kernel
theorem dX11_letters_15 : decode cX11_letters 15 = .ok (.aload_n 0, 1) := by decide +kernel
theorem dX11_letters_16 : decode cX11_letters 16 = .ok (.dup, 1) := by decide +kernel
theorem dX11_letters_17 : decode cX11_letters 17 = .ok (.getfield 119, 3) := by decide +kernel
theorem dX11_letters_20 : decode cX11_letters 20 = .ok (.iconst 1, 1) := by decide +kernel
theorem dX11_letters_21 : decode cX11_letters 21 = .ok (.iadd, 1) := by decide +kernel
theorem dX11_letters_22 : decode cX11_letters 22 = .ok (.putfield 119, 3) := by decide +kernel
theorem dX11_letters_25 : decode cX11_letters 25 = .ok (.goto (-21), 3) := by decide +kernel
theorem dX11_letters_28 : decode cX11_letters 28 = .ok (.return_, 1) := by decide +kernel
theorem dX11_isLetters_0 : decode cX11_isLetters 0 = .ok (.aload_n 0, 1) := by decide +kernel
theorem dX11_isLetters_1 : decode cX11_isLetters 1 = .ok (.getfield 119, 3) := by decide +kernel
theorem dX11_isLetters_4 : decode cX11_isLetters 4 = .ok (.aload_n 0, 1) := by decide +kernel
theorem dX11_isLetters_5 : decode cX11_isLetters 5 = .ok (.getfield 126, 3) := by decide +kernel
theorem dX11_isLetters_8 : decode cX11_isLetters 8 = .ok (.isub, 1) := by decide +kernel
theorem dX11_isLetters_9 : decode cX11_isLetters 9 = .ok (.aload_n 1, 1) := by decide +kernel
theorem dX11_isLetters_10 : decode cX11_isLetters 10 = .ok (.invokevirtual 132, 3) := by decide +kernel
theorem dX11_isLetters_13 : decode cX11_isLetters 13 = .ok (.if_icmp .ne 7, 3) := by decide +kernel
theorem dX11_isLetters_16 : decode cX11_isLetters 16 = .ok (.iconst 1, 1) := by decide +kernel
theorem dX11_isLetters_17 : decode cX11_isLetters 17 = .ok (.goto 4, 3) := by decide +kernel
theorem dX11_isLetters_20 : decode cX11_isLetters 20 = .ok (.iconst 0, 1) := by decide +kernel
theorem dX11_isLetters_21 : decode cX11_isLetters 21 = .ok (.istore_n 2, 1) := by decide +kernel
theorem dX11_isLetters_22 : decode cX11_isLetters 22 = .ok (.iconst 0, 1) := by decide +kernel
theorem dX11_isLetters_23 : decode cX11_isLetters 23 = .ok (.istore_n 3, 1) := by decide +kernel
theorem dX11_isLetters_24 : decode cX11_isLetters 24 = .ok (.iload_n 2, 1) := by decide +kernel
theorem dX11_isLetters_25 : decode cX11_isLetters 25 = .ok (.ifCond .eq 42, 3) := by decide +kernel
theorem dX11_isLetters_28 : decode cX11_isLetters 28 = .ok (.iload_n 3, 1) := by decide +kernel
theorem dX11_isLetters_29 : decode cX11_isLetters 29 = .ok (.aload_n 1, 1) := by decide +kernel
theorem dX11_isLetters_30 : decode cX11_isLetters 30 = .ok (.invokevirtual 132, 3) := by decide +kernel
theorem dX11_isLetters_33 : decode cX11_isLetters 33 = .ok (.if_icmp .ge 34, 3) := by decide +kernel
theorem dX11_isLetters_36 : decode cX11_isLetters 36 = .ok (.aload_n 0, 1) := by decide +kernel
theorem dX11_isLetters_37 : decode cX11_isLetters 37 = .ok (.getfield 26, 3) := by decide +kernel
theorem dX11_isLetters_40 : decode cX11_isLetters 40 = .ok (.aload_n 0, 1) := by decide +kernel
theorem dX11_isLetters_41 : decode cX11_isLetters 41 = .ok (.getfield 126, 3) := by decide +kernel
theorem dX11_isLetters_44 : decode cX11_isLetters 44 = .ok (.iload_n 3, 1) := by decide +kernel
theorem dX11_isLetters_45 : decode cX11_isLetters 45 = .ok (.iadd, 1) := by decide +kernel
theorem dX11_isLetters_46 : decode cX11_isLetters 46 = .ok (.baload, 1) := by decide +kernel
theorem dX11_isLetters_47 : decode cX11_isLetters 47 = .ok (.aload_n 1, 1) := by decide +kernel
theorem dX11_isLetters_48 : decode cX11_isLetters 48 = .ok (.iload_n 3, 1) := by decide +kernel
theorem dX11_isLetters_49 : decode cX11_isLetters 49 = .ok (.invokevirtual 137, 3) := by decide +kernel
theorem dX11_isLetters_52 : decode cX11_isLetters 52 = .ok (.if_icmp .ne 7, 3) := by decide +kernel
theorem dX11_isLetters_55 : decode cX11_isLetters 55 = .ok (.iconst 1, 1) := by decide +kernel
theorem dX11_isLetters_56 : decode cX11_isLetters 56 = .ok (.goto 4, 3) := by decide +kernel
theorem dX11_isLetters_59 : decode cX11_isLetters 59 = .ok (.iconst 0, 1) := by decide +kernel
theorem dX11_isLetters_60 : decode cX11_isLetters 60 = .ok (.istore_n 2, 1) := by decide +kernel
theorem dX11_isLetters_61 : decode cX11_isLetters 61 = .ok (.iinc 3 1, 3) := by decide +kernel
theorem dX11_isLetters_64 : decode cX11_isLetters 64 = .ok (.goto (-40), 3) := by decide +kernel
theorem dX11_isLetters_67 : decode cX11_isLetters 67 = .ok (.iload_n 2, 1) := by decide +kernel
theorem dX11_isLetters_68 : decode cX11_isLetters 68 = .ok (.ireturn, 1) := by decide +kernel
theorem dX11_passes_0 : decode cX11_passes 0 = .ok (.aload_n 0, 1) := by decide +kernel
theorem dX11_passes_1 : decode cX11_passes 1 = .ok (.invokevirtual 141, 3) := by decide +kernel
theorem dX11_passes_4 : decode cX11_passes 4 = .ok (.aload_n 0, 1) := by decide +kernel
theorem dX11_passes_5 : decode cX11_passes 5 = .ok (.aload_n 1, 1) := by decide +kernel
theorem dX11_passes_6 : decode cX11_passes 6 = .ok (.invokevirtual 144, 3) := by decide +kernel
theorem dX11_passes_9 : decode cX11_passes 9 = .ok (.ifCond .eq 5, 3) := by decide +kernel
theorem dX11_passes_12 : decode cX11_passes 12 = .ok (.iconst 1, 1) := by decide +kernel
theorem dX11_passes_13 : decode cX11_passes 13 = .ok (.ireturn, 1) := by decide +kernel
theorem dX11_passes_14 : decode cX11_passes 14 = .ok (.aload_n 0, 1) := by decide +kernel
theorem dX11_passes_15 : decode cX11_passes 15 = .ok (.aload_n 0, 1) := by decide +kernel
theorem dX11_passes_16 : decode cX11_passes 16 = .ok (.getfield 126, 3) := by decide +kernel
theorem dX11_passes_19 : decode cX11_passes 19 = .ok (.putfield 119, 3) := by decide +kernel
theorem dX11_passes_22 : decode cX11_passes 22 = .ok (.iconst 0, 1) := by decide +kernel
theorem dX11_passes_23 : decode cX11_passes 23 = .ok (.ireturn, 1) := by decide +kernel
theorem dX11_sign_0 : decode cX11_sign 0 = .ok (.aload_n 0, 1) := by decide +kernel
theorem dX11_sign_1 : decode cX11_sign 1 = .ok (.invokevirtual 129, 3) := by decide +kernel
theorem dX11_sign_4 : decode cX11_sign 4 = .ok (.aload_n 0, 1) := by decide +kernel
theorem dX11_sign_5 : decode cX11_sign 5 = .ok (.iload_n 1, 1) := by decide +kernel
theorem dX11_sign_6 : decode cX11_sign 6 = .ok (.iload_n 1, 1) := by decide +kernel
theorem dX11_sign_7 : decode cX11_sign 7 = .ok (.invokevirtual 122, 3) := by decide +kernel
theorem dX11_sign_10 : decode cX11_sign 10 = .ok (.ifCond .ne 5, 3) := by decide +kernel
theorem dX11_sign_13 : decode cX11_sign 13 = .ok (.iconst 0, 1) := by decide +kernel
theorem dX11_sign_14 : decode cX11_sign 14 = .ok (.ireturn, 1) := by decide +kernel
theorem dX11_sign_15 : decode cX11_sign 15 = .ok (.aload_n 0, 1) := by decide +kernel
theorem dX11_sign_16 : decode cX11_sign 16 = .ok (.dup, 1) := by decide +kernel
theorem dX11_sign_17 : decode cX11_sign 17 = .ok (.getfield 119, 3) := by decide +kernel
theorem dX11_sign_20 : decode cX11_sign 20 = .ok (.iconst 1, 1) := by decide +kernel
theorem dX11_sign_21 : decode cX11_sign 21 = .ok (.iadd, 1) := by decide +kernel
theorem dX11_sign_22 : decode cX11_sign 22 = .ok (.putfield 119, 3) := by decide +kernel
theorem dX11_sign_25 : decode cX11_sign 25 = .ok (.iconst 1, 1) := by decide +kernel
theorem dX11_sign_26 : decode cX11_sign 26 = .ok (.ireturn, 1) := by decide +kernel
theorem dX11_number_0 : decode cX11_number 0 = .ok (.aload_n 0, 1) := by decide +kernel
theorem dX11_number_1 : decode cX11_number 1 = .ok (.invokevirtual 129, 3) := by decide +kernel
theorem dX11_number_4 : decode cX11_number 4 = .ok (.iconst 0, 1) := by decide +kernel
theorem dX11_number_5 : decode cX11_number 5 = .ok (.istore_n 2, 1) := by decide +kernel
theorem dX11_number_6 : decode cX11_number 6 = .ok (.aload_n 0, 1) := by decide +kernel
theorem dX11_number_7 : decode cX11_number 7 = .ok (.bipush 48, 2) := by decide +kernel
theorem dX11_number_9 : decode cX11_number 9 = .ok (.bipush 57, 2) := by decide +kernel
theorem dX11_number_11 : decode cX11_number 11 = .ok (.invokevirtual 122, 3) := by decide +kernel
theorem dX11_number_14 : decode cX11_number 14 = .ok (.ifCond .eq 51, 3) := by decide +kernel
theorem dX11_number_17 : decode cX11_number 17 = .ok (.aload_n 0, 1) := by decide +kernel
theorem dX11_number_18 : decode cX11_number 18 = .ok (.getfield 119, 3) := by decide +kernel
theorem dX11_number_21 : decode cX11_number 21 = .ok (.aload_n 0, 1) := by decide +kernel
theorem dX11_number_22 : decode cX11_number 22 = .ok (.getfield 126, 3) := by decide +kernel
theorem dX11_number_25 : decode cX11_number 25 = .ok (.isub, 1) := by decide +kernel
theorem dX11_number_26 : decode cX11_number 26 = .ok (.iconst 4, 1) := by decide +kernel
theorem dX11_number_27 : decode cX11_number 27 = .ok (.if_icmp .ge 23, 3) := by decide +kernel
theorem dX11_number_30 : decode cX11_number 30 = .ok (.bipush 10, 2) := by decide +kernel
theorem dX11_number_32 : decode cX11_number 32 = .ok (.iload_n 2, 1) := by decide +kernel
theorem dX11_number_33 : decode cX11_number 33 = .ok (.imul, 1) := by decide +kernel
theorem dX11_number_34 : decode cX11_number 34 = .ok (.aload_n 0, 1) := by decide +kernel
theorem dX11_number_35 : decode cX11_number 35 = .ok (.getfield 26, 3) := by decide +kernel
theorem dX11_number_38 : decode cX11_number 38 = .ok (.aload_n 0, 1) := by decide +kernel
theorem dX11_number_39 : decode cX11_number 39 = .ok (.getfield 119, 3) := by decide +kernel
theorem dX11_number_42 : decode cX11_number 42 = .ok (.baload, 1) := by decide +kernel
theorem dX11_number_43 : decode cX11_number 43 = .ok (.iadd, 1) := by decide +kernel
theorem dX11_number_44 : decode cX11_number 44 = .ok (.bipush 48, 2) := by decide +kernel
theorem dX11_number_46 : decode cX11_number 46 = .ok (.isub, 1) := by decide +kernel
theorem dX11_number_47 : decode cX11_number 47 = .ok (.goto 4, 3) := by decide +kernel
theorem dX11_number_50 : decode cX11_number 50 = .ok (.iload_n 2, 1) := by decide +kernel
theorem dX11_number_51 : decode cX11_number 51 = .ok (.istore_n 2, 1) := by decide +kernel
theorem dX11_number_52 : decode cX11_number 52 = .ok (.aload_n 0, 1) := by decide +kernel
theorem dX11_number_53 : decode cX11_number 53 = .ok (.dup, 1) := by decide +kernel
theorem dX11_number_54 : decode cX11_number 54 = .ok (.getfield 119, 3) := by decide +kernel
theorem dX11_number_57 : decode cX11_number 57 = .ok (.iconst 1, 1) := by decide +kernel
theorem dX11_number_58 : decode cX11_number 58 = .ok (.iadd, 1) := by decide +kernel
theorem dX11_number_59 : decode cX11_number 59 = .ok (.putfield 119, 3) := by decide +kernel
theorem dX11_number_62 : decode cX11_number 62 = .ok (.goto (-56), 3) := by decide +kernel
theorem dX11_number_65 : decode cX11_number 65 = .ok (.aload_n 0, 1) := by decide +kernel
theorem dX11_number_66 : decode cX11_number 66 = .ok (.getfield 119, 3) := by decide +kernel
theorem dX11_number_69 : decode cX11_number 69 = .ok (.aload_n 0, 1) := by decide +kernel
theorem dX11_number_70 : decode cX11_number 70 = .ok (.getfield 126, 3) := by decide +kernel
theorem dX11_number_73 : decode cX11_number 73 = .ok (.if_icmp .eq 21, 3) := by decide +kernel
theorem dX11_number_76 : decode cX11_number 76 = .ok (.aload_n 0, 1) := by decide +kernel
theorem dX11_number_77 : decode cX11_number 77 = .ok (.getfield 119, 3) := by decide +kernel
theorem dX11_number_80 : decode cX11_number 80 = .ok (.aload_n 0, 1) := by decide +kernel
theorem dX11_number_81 : decode cX11_number 81 = .ok (.getfield 126, 3) := by decide +kernel
theorem dX11_number_84 : decode cX11_number 84 = .ok (.isub, 1) := by decide +kernel
theorem dX11_number_85 : decode cX11_number 85 = .ok (.iconst 4, 1) := by decide +kernel
theorem dX11_number_86 : decode cX11_number 86 = .ok (.if_icmp .gt 8, 3) := by decide +kernel
theorem dX11_number_89 : decode cX11_number 89 = .ok (.iload_n 2, 1) := by decide +kernel
theorem dX11_number_90 : decode cX11_number 90 = .ok (.iload_n 1, 1) := by decide +kernel
theorem dX11_number_91 : decode cX11_number 91 = .ok (.if_icmp .le 7, 3) := by decide +kernel
theorem dX11_number_94 : decode cX11_number 94 = .ok (.iconst (-1), 1) := by decide +kernel
theorem dX11_number_95 : decode cX11_number 95 = .ok (.goto 4, 3) := by decide +kernel
theorem dX11_number_98 : decode cX11_number 98 = .ok (.iload_n 2, 1) := by decide +kernel
theorem dX11_number_99 : decode cX11_number 99 = .ok (.ireturn, 1) := by decide +kernel
theorem dX11_fault_0 : decode cX11_fault 0 = .ok (.aload_n 0, 1) := by decide +kernel
theorem dX11_fault_1 : decode cX11_fault 1 = .ok (.iconst 0, 1) := by decide +kernel
theorem dX11_fault_2 : decode cX11_fault 2 = .ok (.putfield 3, 3) := by decide +kernel
theorem dX11_fault_5 : decode cX11_fault 5 = .ok (.aload_n 0, 1) := by decide +kernel
theorem dX11_fault_6 : decode cX11_fault 6 = .ok (.getfield 30, 3) := by decide +kernel
theorem dX11_fault_9 : decode cX11_fault 9 = .ok (.ireturn, 1) := by decide +kernel
theorem dX11_ruleAt_0 : decode cX11_ruleAt 0 = .ok (.sipush 4239, 3) := by decide +kernel
theorem dX11_ruleAt_3 : decode cX11_ruleAt 3 = .ok (.sipush 841, 3) := by decide +kernel
theorem dX11_ruleAt_6 : decode cX11_ruleAt 6 = .ok (.iload_n 0, 1) := by decide +kernel
theorem dX11_ruleAt_7 : decode cX11_ruleAt 7 = .ok (.imul, 1) := by decide +kernel
theorem dX11_ruleAt_8 : decode cX11_ruleAt 8 = .ok (.iadd, 1) := by decide +kernel
theorem dX11_ruleAt_9 : decode cX11_ruleAt 9 = .ok (.ireturn, 1) := by decide +kernel
theorem dX11_lineAt_0 : decode cX11_lineAt 0 = .ok (.iload_n 0, 1) := by decide +kernel
theorem dX11_lineAt_1 : decode cX11_lineAt 1 = .ok (.invokestatic 148, 3) := by decide +kernel
theorem dX11_lineAt_4 : decode cX11_lineAt 4 = .ok (.iconst 1, 1) := by decide +kernel
theorem dX11_lineAt_5 : decode cX11_lineAt 5 = .ok (.iadd, 1) := by decide +kernel
theorem dX11_lineAt_6 : decode cX11_lineAt 6 = .ok (.iconst 4, 1) := by decide +kernel
theorem dX11_lineAt_7 : decode cX11_lineAt 7 = .ok (.iload_n 1, 1) := by decide +kernel
theorem dX11_lineAt_8 : decode cX11_lineAt 8 = .ok (.imul, 1) := by decide +kernel
theorem dX11_lineAt_9 : decode cX11_lineAt 9 = .ok (.iadd, 1) := by decide +kernel
theorem dX11_lineAt_10 : decode cX11_lineAt 10 = .ok (.ireturn, 1) := by decide +kernel
theorem dX11_emits_0 : decode cX11_emits 0 = .ok (.iconst 1, 1) := by decide +kernel
theorem dX11_emits_1 : decode cX11_emits 1 = .ok (.invokestatic 148, 3) := by decide +kernel
theorem dX11_emits_4 : decode cX11_emits 4 = .ok (.bipush 41, 2) := by decide +kernel
theorem dX11_emits_6 : decode cX11_emits 6 = .ok (.iadd, 1) := by decide +kernel
theorem dX11_emits_7 : decode cX11_emits 7 = .ok (.iconst 2, 1) := by decide +kernel
theorem dX11_emits_8 : decode cX11_emits 8 = .ok (.aload_n 0, 1) := by decide +kernel
theorem dX11_emits_9 : decode cX11_emits 9 = .ok (.getfield 151, 3) := by decide +kernel
theorem dX11_emits_12 : decode cX11_emits 12 = .ok (.imul, 1) := by decide +kernel
theorem dX11_emits_13 : decode cX11_emits 13 = .ok (.iadd, 1) := by decide +kernel
theorem dX11_emits_14 : decode cX11_emits 14 = .ok (.istore_n 3, 1) := by decide +kernel
theorem dX11_emits_15 : decode cX11_emits 15 = .ok (.aload_n 0, 1) := by decide +kernel
theorem dX11_emits_16 : decode cX11_emits 16 = .ok (.getfield 20, 3) := by decide +kernel
theorem dX11_emits_19 : decode cX11_emits 19 = .ok (.iload_n 3, 1) := by decide +kernel
theorem dX11_emits_20 : decode cX11_emits 20 = .ok (.iload_n 1, 1) := by decide +kernel
theorem dX11_emits_21 : decode cX11_emits 21 = .ok (.iastore, 1) := by decide +kernel
theorem dX11_emits_22 : decode cX11_emits 22 = .ok (.aload_n 0, 1) := by decide +kernel
theorem dX11_emits_23 : decode cX11_emits 23 = .ok (.getfield 20, 3) := by decide +kernel
theorem dX11_emits_26 : decode cX11_emits 26 = .ok (.iload_n 3, 1) := by decide +kernel
theorem dX11_emits_27 : decode cX11_emits 27 = .ok (.iconst 1, 1) := by decide +kernel
theorem dX11_emits_28 : decode cX11_emits 28 = .ok (.iadd, 1) := by decide +kernel
theorem dX11_emits_29 : decode cX11_emits 29 = .ok (.iload_n 2, 1) := by decide +kernel
theorem dX11_emits_30 : decode cX11_emits 30 = .ok (.iastore, 1) := by decide +kernel
theorem dX11_emits_31 : decode cX11_emits 31 = .ok (.aload_n 0, 1) := by decide +kernel
theorem dX11_emits_32 : decode cX11_emits 32 = .ok (.dup, 1) := by decide +kernel
theorem dX11_emits_33 : decode cX11_emits 33 = .ok (.getfield 151, 3) := by decide +kernel
theorem dX11_emits_36 : decode cX11_emits 36 = .ok (.iconst 1, 1) := by decide +kernel
theorem dX11_emits_37 : decode cX11_emits 37 = .ok (.iadd, 1) := by decide +kernel
theorem dX11_emits_38 : decode cX11_emits 38 = .ok (.putfield 151, 3) := by decide +kernel
theorem dX11_emits_41 : decode cX11_emits 41 = .ok (.return_, 1) := by decide +kernel
theorem dX11_readAtom_0 : decode cX11_readAtom 0 = .ok (.aload_n 0, 1) := by decide +kernel
theorem dX11_readAtom_1 : decode cX11_readAtom 1 = .ok (.bipush 40, 2) := by decide +kernel
theorem dX11_readAtom_3 : decode cX11_readAtom 3 = .ok (.invokevirtual 154, 3) := by decide +kernel
theorem dX11_readAtom_6 : decode cX11_readAtom 6 = .ok (.ifCond .eq 50, 3) := by decide +kernel
theorem dX11_readAtom_9 : decode cX11_readAtom 9 = .ok (.aload_n 0, 1) := by decide +kernel
theorem dX11_readAtom_10 : decode cX11_readAtom 10 = .ok (.getfield 157, 3) := by decide +kernel
theorem dX11_readAtom_13 : decode cX11_readAtom 13 = .ok (.bipush 6, 2) := by decide +kernel
theorem dX11_readAtom_15 : decode cX11_readAtom 15 = .ok (.if_icmp .ne 5, 3) := by decide +kernel
theorem dX11_readAtom_18 : decode cX11_readAtom 18 = .ok (.iconst 0, 1) := by decide +kernel
theorem dX11_readAtom_19 : decode cX11_readAtom 19 = .ok (.ireturn, 1) := by decide +kernel
theorem dX11_readAtom_20 : decode cX11_readAtom 20 = .ok (.aload_n 0, 1) := by decide +kernel
theorem dX11_readAtom_21 : decode cX11_readAtom 21 = .ok (.dup, 1) := by decide +kernel
theorem dX11_readAtom_22 : decode cX11_readAtom 22 = .ok (.getfield 157, 3) := by decide +kernel
theorem dX11_readAtom_25 : decode cX11_readAtom 25 = .ok (.iconst 1, 1) := by decide +kernel
theorem dX11_readAtom_26 : decode cX11_readAtom 26 = .ok (.iadd, 1) := by decide +kernel
theorem dX11_readAtom_27 : decode cX11_readAtom 27 = .ok (.putfield 157, 3) := by decide +kernel
theorem dX11_readAtom_30 : decode cX11_readAtom 30 = .ok (.aload_n 0, 1) := by decide +kernel
theorem dX11_readAtom_31 : decode cX11_readAtom 31 = .ok (.invokevirtual 160, 3) := by decide +kernel
theorem dX11_readAtom_34 : decode cX11_readAtom 34 = .ok (.ifCond .ne 5, 3) := by decide +kernel
theorem dX11_readAtom_37 : decode cX11_readAtom 37 = .ok (.iconst 0, 1) := by decide +kernel
theorem dX11_readAtom_38 : decode cX11_readAtom 38 = .ok (.ireturn, 1) := by decide +kernel
theorem dX11_readAtom_39 : decode cX11_readAtom 39 = .ok (.aload_n 0, 1) := by decide +kernel
theorem dX11_readAtom_40 : decode cX11_readAtom 40 = .ok (.dup, 1) := by decide +kernel
theorem dX11_readAtom_41 : decode cX11_readAtom 41 = .ok (.getfield 157, 3) := by decide +kernel
theorem dX11_readAtom_44 : decode cX11_readAtom 44 = .ok (.iconst 1, 1) := by decide +kernel
theorem dX11_readAtom_45 : decode cX11_readAtom 45 = .ok (.isub, 1) := by decide +kernel
theorem dX11_readAtom_46 : decode cX11_readAtom 46 = .ok (.putfield 157, 3) := by decide +kernel
theorem dX11_readAtom_49 : decode cX11_readAtom 49 = .ok (.aload_n 0, 1) := by decide +kernel
theorem dX11_readAtom_50 : decode cX11_readAtom 50 = .ok (.bipush 41, 2) := by decide +kernel
theorem dX11_readAtom_52 : decode cX11_readAtom 52 = .ok (.invokevirtual 154, 3) := by decide +kernel
theorem dX11_readAtom_55 : decode cX11_readAtom 55 = .ok (.ireturn, 1) := by decide +kernel
theorem dX11_readAtom_56 : decode cX11_readAtom 56 = .ok (.aload_n 0, 1) := by decide +kernel
theorem dX11_readAtom_57 : decode cX11_readAtom 57 = .ok (.ldc 164, 2) := by decide +kernel
theorem dX11_readAtom_59 : decode cX11_readAtom 59 = .ok (.invokevirtual 166, 3) := by decide +kernel
theorem dX11_readAtom_62 : decode cX11_readAtom 62 = .ok (.ifCond .eq 53, 3) := by decide +kernel
theorem dX11_readAtom_65 : decode cX11_readAtom 65 = .ok (.aload_n 0, 1) := by decide +kernel
theorem dX11_readAtom_66 : decode cX11_readAtom 66 = .ok (.getfield 157, 3) := by decide +kernel
theorem dX11_readAtom_69 : decode cX11_readAtom 69 = .ok (.bipush 6, 2) := by decide +kernel
theorem dX11_readAtom_71 : decode cX11_readAtom 71 = .ok (.if_icmp .ne 5, 3) := by decide +kernel
theorem dX11_readAtom_74 : decode cX11_readAtom 74 = .ok (.iconst 0, 1) := by decide +kernel
theorem dX11_readAtom_75 : decode cX11_readAtom 75 = .ok (.ireturn, 1) := by decide +kernel
theorem dX11_readAtom_76 : decode cX11_readAtom 76 = .ok (.aload_n 0, 1) := by decide +kernel
theorem dX11_readAtom_77 : decode cX11_readAtom 77 = .ok (.dup, 1) := by decide +kernel
theorem dX11_readAtom_78 : decode cX11_readAtom 78 = .ok (.getfield 157, 3) := by decide +kernel
theorem dX11_readAtom_81 : decode cX11_readAtom 81 = .ok (.iconst 1, 1) := by decide +kernel
theorem dX11_readAtom_82 : decode cX11_readAtom 82 = .ok (.iadd, 1) := by decide +kernel
theorem dX11_readAtom_83 : decode cX11_readAtom 83 = .ok (.putfield 157, 3) := by decide +kernel
theorem dX11_readAtom_86 : decode cX11_readAtom 86 = .ok (.aload_n 0, 1) := by decide +kernel
theorem dX11_readAtom_87 : decode cX11_readAtom 87 = .ok (.invokevirtual 169, 3) := by decide +kernel
theorem dX11_readAtom_90 : decode cX11_readAtom 90 = .ok (.ifCond .ne 5, 3) := by decide +kernel
theorem dX11_readAtom_93 : decode cX11_readAtom 93 = .ok (.iconst 0, 1) := by decide +kernel
theorem dX11_readAtom_94 : decode cX11_readAtom 94 = .ok (.ireturn, 1) := by decide +kernel
theorem dX11_readAtom_95 : decode cX11_readAtom 95 = .ok (.aload_n 0, 1) := by decide +kernel
theorem dX11_readAtom_96 : decode cX11_readAtom 96 = .ok (.dup, 1) := by decide +kernel
theorem dX11_readAtom_97 : decode cX11_readAtom 97 = .ok (.getfield 157, 3) := by decide +kernel
theorem dX11_readAtom_100 : decode cX11_readAtom 100 = .ok (.iconst 1, 1) := by decide +kernel
theorem dX11_readAtom_101 : decode cX11_readAtom 101 = .ok (.isub, 1) := by decide +kernel
theorem dX11_readAtom_102 : decode cX11_readAtom 102 = .ok (.putfield 157, 3) := by decide +kernel
theorem dX11_readAtom_105 : decode cX11_readAtom 105 = .ok (.aload_n 0, 1) := by decide +kernel
theorem dX11_readAtom_106 : decode cX11_readAtom 106 = .ok (.sipush 300, 3) := by decide +kernel
theorem dX11_readAtom_109 : decode cX11_readAtom 109 = .ok (.iconst 0, 1) := by decide +kernel
theorem dX11_readAtom_110 : decode cX11_readAtom 110 = .ok (.invokevirtual 172, 3) := by decide +kernel
theorem dX11_readAtom_113 : decode cX11_readAtom 113 = .ok (.iconst 1, 1) := by decide +kernel
theorem dX11_readAtom_114 : decode cX11_readAtom 114 = .ok (.ireturn, 1) := by decide +kernel
theorem dX11_readAtom_115 : decode cX11_readAtom 115 = .ok (.aload_n 0, 1) := by decide +kernel
theorem dX11_readAtom_116 : decode cX11_readAtom 116 = .ok (.invokevirtual 141, 3) := by decide +kernel
theorem dX11_readAtom_119 : decode cX11_readAtom 119 = .ok (.aload_n 0, 1) := by decide +kernel
theorem dX11_readAtom_120 : decode cX11_readAtom 120 = .ok (.ldc 176, 2) := by decide +kernel
theorem dX11_readAtom_122 : decode cX11_readAtom 122 = .ok (.invokevirtual 144, 3) := by decide +kernel
theorem dX11_readAtom_125 : decode cX11_readAtom 125 = .ok (.ifCond .eq 7, 3) := by decide +kernel
theorem dX11_readAtom_128 : decode cX11_readAtom 128 = .ok (.iconst 0, 1) := by decide +kernel
theorem dX11_readAtom_129 : decode cX11_readAtom 129 = .ok (.goto 83, 3) := by decide +kernel
theorem dX11_readAtom_132 : decode cX11_readAtom 132 = .ok (.aload_n 0, 1) := by decide +kernel
theorem dX11_readAtom_133 : decode cX11_readAtom 133 = .ok (.ldc 178, 2) := by decide +kernel
theorem dX11_readAtom_135 : decode cX11_readAtom 135 = .ok (.invokevirtual 144, 3) := by decide +kernel
theorem dX11_readAtom_138 : decode cX11_readAtom 138 = .ok (.ifCond .eq 7, 3) := by decide +kernel
theorem dX11_readAtom_141 : decode cX11_readAtom 141 = .ok (.iconst 1, 1) := by decide +kernel
theorem dX11_readAtom_142 : decode cX11_readAtom 142 = .ok (.goto 70, 3) := by decide +kernel
theorem dX11_readAtom_145 : decode cX11_readAtom 145 = .ok (.aload_n 0, 1) := by decide +kernel
theorem dX11_readAtom_146 : decode cX11_readAtom 146 = .ok (.ldc 180, 2) := by decide +kernel
theorem dX11_readAtom_148 : decode cX11_readAtom 148 = .ok (.invokevirtual 144, 3) := by decide +kernel
theorem dX11_readAtom_151 : decode cX11_readAtom 151 = .ok (.ifCond .eq 7, 3) := by decide +kernel
theorem dX11_readAtom_154 : decode cX11_readAtom 154 = .ok (.iconst 2, 1) := by decide +kernel
theorem dX11_readAtom_155 : decode cX11_readAtom 155 = .ok (.goto 57, 3) := by decide +kernel
theorem dX11_readAtom_158 : decode cX11_readAtom 158 = .ok (.aload_n 0, 1) := by decide +kernel
theorem dX11_readAtom_159 : decode cX11_readAtom 159 = .ok (.ldc 182, 2) := by decide +kernel
theorem dX11_readAtom_161 : decode cX11_readAtom 161 = .ok (.invokevirtual 144, 3) := by decide +kernel
theorem dX11_readAtom_164 : decode cX11_readAtom 164 = .ok (.ifCond .eq 7, 3) := by decide +kernel
theorem dX11_readAtom_167 : decode cX11_readAtom 167 = .ok (.iconst 3, 1) := by decide +kernel
theorem dX11_readAtom_168 : decode cX11_readAtom 168 = .ok (.goto 44, 3) := by decide +kernel
theorem dX11_readAtom_171 : decode cX11_readAtom 171 = .ok (.aload_n 0, 1) := by decide +kernel
theorem dX11_readAtom_172 : decode cX11_readAtom 172 = .ok (.ldc 184, 2) := by decide +kernel
theorem dX11_readAtom_174 : decode cX11_readAtom 174 = .ok (.invokevirtual 144, 3) := by decide +kernel
theorem dX11_readAtom_177 : decode cX11_readAtom 177 = .ok (.ifCond .eq 7, 3) := by decide +kernel
theorem dX11_readAtom_180 : decode cX11_readAtom 180 = .ok (.iconst 4, 1) := by decide +kernel
theorem dX11_readAtom_181 : decode cX11_readAtom 181 = .ok (.goto 31, 3) := by decide +kernel
theorem dX11_readAtom_184 : decode cX11_readAtom 184 = .ok (.aload_n 0, 1) := by decide +kernel
theorem dX11_readAtom_185 : decode cX11_readAtom 185 = .ok (.ldc 186, 2) := by decide +kernel
theorem dX11_readAtom_187 : decode cX11_readAtom 187 = .ok (.invokevirtual 144, 3) := by decide +kernel
theorem dX11_readAtom_190 : decode cX11_readAtom 190 = .ok (.ifCond .eq 7, 3) := by decide +kernel
theorem dX11_readAtom_193 : decode cX11_readAtom 193 = .ok (.iconst 5, 1) := by decide +kernel
theorem dX11_readAtom_194 : decode cX11_readAtom 194 = .ok (.goto 18, 3) := by decide +kernel
theorem dX11_readAtom_197 : decode cX11_readAtom 197 = .ok (.aload_n 0, 1) := by decide +kernel
theorem dX11_readAtom_198 : decode cX11_readAtom 198 = .ok (.ldc 188, 2) := by decide +kernel
theorem dX11_readAtom_200 : decode cX11_readAtom 200 = .ok (.invokevirtual 144, 3) := by decide +kernel
theorem dX11_readAtom_203 : decode cX11_readAtom 203 = .ok (.ifCond .eq 8, 3) := by decide +kernel
theorem dX11_readAtom_206 : decode cX11_readAtom 206 = .ok (.bipush 6, 2) := by decide +kernel
theorem dX11_readAtom_208 : decode cX11_readAtom 208 = .ok (.goto 4, 3) := by decide +kernel
theorem dX11_readAtom_211 : decode cX11_readAtom 211 = .ok (.iconst (-1), 1) := by decide +kernel
theorem dX11_readAtom_212 : decode cX11_readAtom 212 = .ok (.istore_n 1, 1) := by decide +kernel
theorem dX11_readAtom_213 : decode cX11_readAtom 213 = .ok (.iload_n 1, 1) := by decide +kernel
theorem dX11_readAtom_214 : decode cX11_readAtom 214 = .ok (.ifCond .lt 11, 3) := by decide +kernel
theorem dX11_readAtom_217 : decode cX11_readAtom 217 = .ok (.aload_n 0, 1) := by decide +kernel
theorem dX11_readAtom_218 : decode cX11_readAtom 218 = .ok (.iload_n 1, 1) := by decide +kernel
theorem dX11_readAtom_219 : decode cX11_readAtom 219 = .ok (.iconst 0, 1) := by decide +kernel
theorem dX11_readAtom_220 : decode cX11_readAtom 220 = .ok (.invokevirtual 172, 3) := by decide +kernel
theorem dX11_readAtom_223 : decode cX11_readAtom 223 = .ok (.iconst 1, 1) := by decide +kernel
theorem dX11_readAtom_224 : decode cX11_readAtom 224 = .ok (.ireturn, 1) := by decide +kernel
theorem dX11_readAtom_225 : decode cX11_readAtom 225 = .ok (.aload_n 0, 1) := by decide +kernel
theorem dX11_readAtom_226 : decode cX11_readAtom 226 = .ok (.ldc 190, 2) := by decide +kernel
theorem dX11_readAtom_228 : decode cX11_readAtom 228 = .ok (.invokevirtual 144, 3) := by decide +kernel
theorem dX11_readAtom_231 : decode cX11_readAtom 231 = .ok (.ifCond .eq 7, 3) := by decide +kernel
theorem dX11_readAtom_234 : decode cX11_readAtom 234 = .ok (.iconst 0, 1) := by decide +kernel
theorem dX11_readAtom_235 : decode cX11_readAtom 235 = .ok (.goto 56, 3) := by decide +kernel
theorem dX11_readAtom_238 : decode cX11_readAtom 238 = .ok (.aload_n 0, 1) := by decide +kernel
theorem dX11_readAtom_239 : decode cX11_readAtom 239 = .ok (.ldc 192, 2) := by decide +kernel
theorem dX11_readAtom_241 : decode cX11_readAtom 241 = .ok (.invokevirtual 144, 3) := by decide +kernel
theorem dX11_readAtom_244 : decode cX11_readAtom 244 = .ok (.ifCond .eq 7, 3) := by decide +kernel
