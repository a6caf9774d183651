theorem dX11_ticks_2 : decode cX11_ticks 2 = .ok (.putfield 3, 3) := by decide +kernel
theorem dX11_ticks_5 : decode cX11_ticks 5 = .ok (.aload_n 0, 1) := by decide +kernel
theorem dX11_ticks_6 : decode cX11_ticks 6 = .ok (.iload_n 1, 1) := by decide +kernel
theorem dX11_ticks_7 : decode cX11_ticks 7 = .ok (.iconst 0, 1) := by decide +kernel
theorem dX11_ticks_8 : decode cX11_ticks 8 = .ok (.bipush 40, 2) := by decide +kernel
theorem dX11_ticks_10 : decode cX11_ticks 10 = .ok (.invokestatic 68, 3) := by decide +kernel
theorem dX11_ticks_13 : decode cX11_ticks 13 = .ok (.ifCond .ne 7, 3) := by decide +kernel
theorem dX11_ticks_16 : decode cX11_ticks 16 = .ok (.iconst 1, 1) := by decide +kernel
theorem dX11_ticks_17 : decode cX11_ticks 17 = .ok (.goto 4, 3) := by decide +kernel
theorem dX11_ticks_20 : decode cX11_ticks 20 = .ok (.iconst 0, 1) := by decide +kernel
theorem dX11_ticks_21 : decode cX11_ticks 21 = .ok (.iconst 1, 1) := by decide +kernel
theorem dX11_ticks_22 : decode cX11_ticks 22 = .ok (.invokevirtual 93, 3) := by decide +kernel
theorem dX11_ticks_25 : decode cX11_ticks 25 = .ok (.ifCond .eq 5, 3) := by decide +kernel
theorem dX11_ticks_28 : decode cX11_ticks 28 = .ok (.iconst 0, 1) := by decide +kernel
theorem dX11_ticks_29 : decode cX11_ticks 29 = .ok (.ireturn, 1) := by decide +kernel
theorem dX11_ticks_30 : decode cX11_ticks 30 = .ok (.iload_n 1, 1) := by decide +kernel
theorem dX11_ticks_31 : decode cX11_ticks 31 = .ok (.ifCond .le 41, 3) := by decide +kernel
theorem dX11_ticks_34 : decode cX11_ticks 34 = .ok (.aload_n 0, 1) := by decide +kernel
theorem dX11_ticks_35 : decode cX11_ticks 35 = .ok (.invokevirtual 97, 3) := by decide +kernel
theorem dX11_ticks_38 : decode cX11_ticks 38 = .ok (.ifCond .ne 34, 3) := by decide +kernel
theorem dX11_ticks_41 : decode cX11_ticks 41 = .ok (.iconst 0, 1) := by decide +kernel
theorem dX11_ticks_42 : decode cX11_ticks 42 = .ok (.istore_n 2, 1) := by decide +kernel
theorem dX11_ticks_43 : decode cX11_ticks 43 = .ok (.iload_n 2, 1) := by decide +kernel
theorem dX11_ticks_44 : decode cX11_ticks 44 = .ok (.sipush 2301, 3) := by decide +kernel
theorem dX11_ticks_47 : decode cX11_ticks 47 = .ok (.if_icmp .ge 25, 3) := by decide +kernel
theorem dX11_ticks_50 : decode cX11_ticks 50 = .ok (.aload_n 0, 1) := by decide +kernel
theorem dX11_ticks_51 : decode cX11_ticks 51 = .ok (.getfield 20, 3) := by decide +kernel
theorem dX11_ticks_54 : decode cX11_ticks 54 = .ok (.sipush 1938, 3) := by decide +kernel
theorem dX11_ticks_57 : decode cX11_ticks 57 = .ok (.iload_n 2, 1) := by decide +kernel
theorem dX11_ticks_58 : decode cX11_ticks 58 = .ok (.iadd, 1) := by decide +kernel
theorem dX11_ticks_59 : decode cX11_ticks 59 = .ok (.aload_n 0, 1) := by decide +kernel
theorem dX11_ticks_60 : decode cX11_ticks 60 = .ok (.getfield 13, 3) := by decide +kernel
theorem dX11_ticks_63 : decode cX11_ticks 63 = .ok (.iload_n 2, 1) := by decide +kernel
theorem dX11_ticks_64 : decode cX11_ticks 64 = .ok (.iaload, 1) := by decide +kernel
theorem dX11_ticks_65 : decode cX11_ticks 65 = .ok (.iastore, 1) := by decide +kernel
theorem dX11_ticks_66 : decode cX11_ticks 66 = .ok (.iinc 2 1, 3) := by decide +kernel
theorem dX11_ticks_69 : decode cX11_ticks 69 = .ok (.goto (-26), 3) := by decide +kernel
theorem dX11_ticks_72 : decode cX11_ticks 72 = .ok (.iconst 0, 1) := by decide +kernel
theorem dX11_ticks_73 : decode cX11_ticks 73 = .ok (.istore_n 2, 1) := by decide +kernel
theorem dX11_ticks_74 : decode cX11_ticks 74 = .ok (.iload_n 2, 1) := by decide +kernel
theorem dX11_ticks_75 : decode cX11_ticks 75 = .ok (.iload_n 1, 1) := by decide +kernel
theorem dX11_ticks_76 : decode cX11_ticks 76 = .ok (.if_icmp .ge 63, 3) := by decide +kernel
theorem dX11_ticks_79 : decode cX11_ticks 79 = .ok (.aload_n 0, 1) := by decide +kernel
theorem dX11_ticks_80 : decode cX11_ticks 80 = .ok (.invokevirtual 97, 3) := by decide +kernel
theorem dX11_ticks_83 : decode cX11_ticks 83 = .ok (.sipush 400, 3) := by decide +kernel
theorem dX11_ticks_86 : decode cX11_ticks 86 = .ok (.if_icmp .ge 53, 3) := by decide +kernel
theorem dX11_ticks_89 : decode cX11_ticks 89 = .ok (.aload_n 0, 1) := by decide +kernel
theorem dX11_ticks_90 : decode cX11_ticks 90 = .ok (.invokevirtual 306, 3) := by decide +kernel
theorem dX11_ticks_93 : decode cX11_ticks 93 = .ok (.aload_n 0, 1) := by decide +kernel
theorem dX11_ticks_94 : decode cX11_ticks 94 = .ok (.getfield 20, 3) := by decide +kernel
theorem dX11_ticks_97 : decode cX11_ticks 97 = .ok (.sipush 1136, 3) := by decide +kernel
theorem dX11_ticks_100 : decode cX11_ticks 100 = .ok (.iconst 2, 1) := by decide +kernel
theorem dX11_ticks_101 : decode cX11_ticks 101 = .ok (.aload_n 0, 1) := by decide +kernel
theorem dX11_ticks_102 : decode cX11_ticks 102 = .ok (.invokevirtual 97, 3) := by decide +kernel
theorem dX11_ticks_105 : decode cX11_ticks 105 = .ok (.imul, 1) := by decide +kernel
theorem dX11_ticks_106 : decode cX11_ticks 106 = .ok (.iadd, 1) := by decide +kernel
theorem dX11_ticks_107 : decode cX11_ticks 107 = .ok (.aload_n 0, 1) := by decide +kernel
theorem dX11_ticks_108 : decode cX11_ticks 108 = .ok (.invokevirtual 309, 3) := by decide +kernel
theorem dX11_ticks_111 : decode cX11_ticks 111 = .ok (.iastore, 1) := by decide +kernel
theorem dX11_ticks_112 : decode cX11_ticks 112 = .ok (.aload_n 0, 1) := by decide +kernel
theorem dX11_ticks_113 : decode cX11_ticks 113 = .ok (.getfield 20, 3) := by decide +kernel
theorem dX11_ticks_116 : decode cX11_ticks 116 = .ok (.sipush 1136, 3) := by decide +kernel
theorem dX11_ticks_119 : decode cX11_ticks 119 = .ok (.iconst 2, 1) := by decide +kernel
theorem dX11_ticks_120 : decode cX11_ticks 120 = .ok (.aload_n 0, 1) := by decide +kernel
theorem dX11_ticks_121 : decode cX11_ticks 121 = .ok (.invokevirtual 97, 3) := by decide +kernel
theorem dX11_ticks_124 : decode cX11_ticks 124 = .ok (.imul, 1) := by decide +kernel
theorem dX11_ticks_125 : decode cX11_ticks 125 = .ok (.iadd, 1) := by decide +kernel
theorem dX11_ticks_126 : decode cX11_ticks 126 = .ok (.iconst 1, 1) := by decide +kernel
theorem dX11_ticks_127 : decode cX11_ticks 127 = .ok (.iadd, 1) := by decide +kernel
theorem dX11_ticks_128 : decode cX11_ticks 128 = .ok (.aload_n 0, 1) := by decide +kernel
theorem dX11_ticks_129 : decode cX11_ticks 129 = .ok (.invokevirtual 309, 3) := by decide +kernel
theorem dX11_ticks_132 : decode cX11_ticks 132 = .ok (.iastore, 1) := by decide +kernel
theorem dX11_ticks_133 : decode cX11_ticks 133 = .ok (.iinc 2 1, 3) := by decide +kernel
theorem dX11_ticks_136 : decode cX11_ticks 136 = .ok (.goto (-62), 3) := by decide +kernel
theorem dX11_ticks_139 : decode cX11_ticks 139 = .ok (.aload_n 0, 1) := by decide +kernel
theorem dX11_ticks_140 : decode cX11_ticks 140 = .ok (.invokevirtual 97, 3) := by decide +kernel
theorem dX11_ticks_143 : decode cX11_ticks 143 = .ok (.ireturn, 1) := by decide +kernel
theorem dX11_begins_0 : decode cX11_begins 0 = .ok (.aload_n 0, 1) := by decide +kernel
theorem dX11_begins_1 : decode cX11_begins 1 = .ok (.invokevirtual 72, 3) := by decide +kernel
theorem dX11_begins_4 : decode cX11_begins 4 = .ok (.istore 4, 2) := by decide +kernel
theorem dX11_begins_6 : decode cX11_begins 6 = .ok (.aload_n 0, 1) := by decide +kernel
theorem dX11_begins_7 : decode cX11_begins 7 = .ok (.getfield 20, 3) := by decide +kernel
theorem dX11_begins_10 : decode cX11_begins 10 = .ok (.iconst 1, 1) := by decide +kernel
theorem dX11_begins_11 : decode cX11_begins 11 = .ok (.dup2, 1) := by decide +kernel
theorem dX11_begins_12 : decode cX11_begins 12 = .ok (.iaload, 1) := by decide +kernel
theorem dX11_begins_13 : decode cX11_begins 13 = .ok (.iconst 1, 1) := by decide +kernel
theorem dX11_begins_14 : decode cX11_begins 14 = .ok (.iadd, 1) := by decide +kernel
theorem dX11_begins_15 : decode cX11_begins 15 = .ok (.iastore, 1) := by decide +kernel
theorem dX11_begins_16 : decode cX11_begins 16 = .ok (.iconst 0, 1) := by decide +kernel
theorem dX11_begins_17 : decode cX11_begins 17 = .ok (.istore 5, 2) := by decide +kernel
theorem dX11_begins_19 : decode cX11_begins 19 = .ok (.iload 5, 2) := by decide +kernel
theorem dX11_begins_21 : decode cX11_begins 21 = .ok (.bipush 10, 2) := by decide +kernel
theorem dX11_begins_23 : decode cX11_begins 23 = .ok (.if_icmp .ge 27, 3) := by decide +kernel
theorem dX11_begins_26 : decode cX11_begins 26 = .ok (.aload_n 0, 1) := by decide +kernel
theorem dX11_begins_27 : decode cX11_begins 27 = .ok (.getfield 20, 3) := by decide +kernel
theorem dX11_begins_30 : decode cX11_begins 30 = .ok (.sipush 761, 3) := by decide +kernel
theorem dX11_begins_33 : decode cX11_begins 33 = .ok (.bipush 10, 2) := by decide +kernel
theorem dX11_begins_35 : decode cX11_begins 35 = .ok (.iload 4, 2) := by decide +kernel
theorem dX11_begins_37 : decode cX11_begins 37 = .ok (.imul, 1) := by decide +kernel
theorem dX11_begins_38 : decode cX11_begins 38 = .ok (.iadd, 1) := by decide +kernel
theorem dX11_begins_39 : decode cX11_begins 39 = .ok (.iload 5, 2) := by decide +kernel
theorem dX11_begins_41 : decode cX11_begins 41 = .ok (.iadd, 1) := by decide +kernel
theorem dX11_begins_42 : decode cX11_begins 42 = .ok (.iconst 0, 1) := by decide +kernel
theorem dX11_begins_43 : decode cX11_begins 43 = .ok (.iastore, 1) := by decide +kernel
theorem dX11_begins_44 : decode cX11_begins 44 = .ok (.iinc 5 1, 3) := by decide +kernel
theorem dX11_begins_47 : decode cX11_begins 47 = .ok (.goto (-28), 3) := by decide +kernel
theorem dX11_begins_50 : decode cX11_begins 50 = .ok (.aload_n 0, 1) := by decide +kernel
theorem dX11_begins_51 : decode cX11_begins 51 = .ok (.getfield 20, 3) := by decide +kernel
theorem dX11_begins_54 : decode cX11_begins 54 = .ok (.sipush 761, 3) := by decide +kernel
theorem dX11_begins_57 : decode cX11_begins 57 = .ok (.bipush 10, 2) := by decide +kernel
theorem dX11_begins_59 : decode cX11_begins 59 = .ok (.iload 4, 2) := by decide +kernel
theorem dX11_begins_61 : decode cX11_begins 61 = .ok (.imul, 1) := by decide +kernel
theorem dX11_begins_62 : decode cX11_begins 62 = .ok (.iadd, 1) := by decide +kernel
theorem dX11_begins_63 : decode cX11_begins 63 = .ok (.iconst 0, 1) := by decide +kernel
theorem dX11_begins_64 : decode cX11_begins 64 = .ok (.iadd, 1) := by decide +kernel
theorem dX11_begins_65 : decode cX11_begins 65 = .ok (.iload_n 2, 1) := by decide +kernel
theorem dX11_begins_66 : decode cX11_begins 66 = .ok (.iastore, 1) := by decide +kernel
theorem dX11_begins_67 : decode cX11_begins 67 = .ok (.aload_n 0, 1) := by decide +kernel
theorem dX11_begins_68 : decode cX11_begins 68 = .ok (.getfield 20, 3) := by decide +kernel
theorem dX11_begins_71 : decode cX11_begins 71 = .ok (.sipush 761, 3) := by decide +kernel
theorem dX11_begins_74 : decode cX11_begins 74 = .ok (.bipush 10, 2) := by decide +kernel
theorem dX11_begins_76 : decode cX11_begins 76 = .ok (.iload 4, 2) := by decide +kernel
theorem dX11_begins_78 : decode cX11_begins 78 = .ok (.imul, 1) := by decide +kernel
theorem dX11_begins_79 : decode cX11_begins 79 = .ok (.iadd, 1) := by decide +kernel
theorem dX11_begins_80 : decode cX11_begins 80 = .ok (.iconst 1, 1) := by decide +kernel
theorem dX11_begins_81 : decode cX11_begins 81 = .ok (.iadd, 1) := by decide +kernel
theorem dX11_begins_82 : decode cX11_begins 82 = .ok (.iload_n 1, 1) := by decide +kernel
theorem dX11_begins_83 : decode cX11_begins 83 = .ok (.iastore, 1) := by decide +kernel
theorem dX11_begins_84 : decode cX11_begins 84 = .ok (.aload_n 0, 1) := by decide +kernel
theorem dX11_begins_85 : decode cX11_begins 85 = .ok (.getfield 20, 3) := by decide +kernel
theorem dX11_begins_88 : decode cX11_begins 88 = .ok (.sipush 761, 3) := by decide +kernel
theorem dX11_begins_91 : decode cX11_begins 91 = .ok (.bipush 10, 2) := by decide +kernel
theorem dX11_begins_93 : decode cX11_begins 93 = .ok (.iload 4, 2) := by decide +kernel
theorem dX11_begins_95 : decode cX11_begins 95 = .ok (.imul, 1) := by decide +kernel
theorem dX11_begins_96 : decode cX11_begins 96 = .ok (.iadd, 1) := by decide +kernel
theorem dX11_begins_97 : decode cX11_begins 97 = .ok (.iconst 2, 1) := by decide +kernel
theorem dX11_begins_98 : decode cX11_begins 98 = .ok (.iadd, 1) := by decide +kernel
theorem dX11_begins_99 : decode cX11_begins 99 = .ok (.aload_n 0, 1) := by decide +kernel
theorem dX11_begins_100 : decode cX11_begins 100 = .ok (.invokevirtual 97, 3) := by decide +kernel
theorem dX11_begins_103 : decode cX11_begins 103 = .ok (.iastore, 1) := by decide +kernel
theorem dX11_begins_104 : decode cX11_begins 104 = .ok (.aload_n 0, 1) := by decide +kernel
theorem dX11_begins_105 : decode cX11_begins 105 = .ok (.getfield 20, 3) := by decide +kernel
theorem dX11_begins_108 : decode cX11_begins 108 = .ok (.sipush 761, 3) := by decide +kernel
theorem dX11_begins_111 : decode cX11_begins 111 = .ok (.bipush 10, 2) := by decide +kernel
theorem dX11_begins_113 : decode cX11_begins 113 = .ok (.iload 4, 2) := by decide +kernel
theorem dX11_begins_115 : decode cX11_begins 115 = .ok (.imul, 1) := by decide +kernel
theorem dX11_begins_116 : decode cX11_begins 116 = .ok (.iadd, 1) := by decide +kernel
theorem dX11_begins_117 : decode cX11_begins 117 = .ok (.iconst 3, 1) := by decide +kernel
theorem dX11_begins_118 : decode cX11_begins 118 = .ok (.iadd, 1) := by decide +kernel
theorem dX11_begins_119 : decode cX11_begins 119 = .ok (.iload_n 3, 1) := by decide +kernel
theorem dX11_begins_120 : decode cX11_begins 120 = .ok (.iastore, 1) := by decide +kernel
theorem dX11_begins_121 : decode cX11_begins 121 = .ok (.aload_n 0, 1) := by decide +kernel
theorem dX11_begins_122 : decode cX11_begins 122 = .ok (.getfield 20, 3) := by decide +kernel
theorem dX11_begins_125 : decode cX11_begins 125 = .ok (.sipush 761, 3) := by decide +kernel
theorem dX11_begins_128 : decode cX11_begins 128 = .ok (.bipush 10, 2) := by decide +kernel
theorem dX11_begins_130 : decode cX11_begins 130 = .ok (.iload 4, 2) := by decide +kernel
theorem dX11_begins_132 : decode cX11_begins 132 = .ok (.imul, 1) := by decide +kernel
theorem dX11_begins_133 : decode cX11_begins 133 = .ok (.iadd, 1) := by decide +kernel
theorem dX11_begins_134 : decode cX11_begins 134 = .ok (.bipush 8, 2) := by decide +kernel
theorem dX11_begins_136 : decode cX11_begins 136 = .ok (.iadd, 1) := by decide +kernel
theorem dX11_begins_137 : decode cX11_begins 137 = .ok (.iconst (-1), 1) := by decide +kernel
theorem dX11_begins_138 : decode cX11_begins 138 = .ok (.iastore, 1) := by decide +kernel
theorem dX11_begins_139 : decode cX11_begins 139 = .ok (.iload 4, 2) := by decide +kernel
theorem dX11_begins_141 : decode cX11_begins 141 = .ok (.ireturn, 1) := by decide +kernel
theorem dX11_say_0 : decode cX11_say 0 = .ok (.aload_n 0, 1) := by decide +kernel
theorem dX11_say_1 : decode cX11_say 1 = .ok (.iconst 0, 1) := by decide +kernel
theorem dX11_say_2 : decode cX11_say 2 = .ok (.putfield 3, 3) := by decide +kernel
theorem dX11_say_5 : decode cX11_say 5 = .ok (.aload_n 0, 1) := by decide +kernel
theorem dX11_say_6 : decode cX11_say 6 = .ok (.aload_n 0, 1) := by decide +kernel
theorem dX11_say_7 : decode cX11_say 7 = .ok (.iload_n 1, 1) := by decide +kernel
theorem dX11_say_8 : decode cX11_say 8 = .ok (.invokevirtual 104, 3) := by decide +kernel
theorem dX11_say_11 : decode cX11_say 11 = .ok (.ifCond .ne 19, 3) := by decide +kernel
theorem dX11_say_14 : decode cX11_say 14 = .ok (.iload 4, 2) := by decide +kernel
theorem dX11_say_16 : decode cX11_say 16 = .ok (.invokestatic 312, 3) := by decide +kernel
theorem dX11_say_19 : decode cX11_say 19 = .ok (.ifCond .ne 11, 3) := by decide +kernel
theorem dX11_say_22 : decode cX11_say 22 = .ok (.iload 5, 2) := by decide +kernel
theorem dX11_say_24 : decode cX11_say 24 = .ok (.invokestatic 89, 3) := by decide +kernel
theorem dX11_say_27 : decode cX11_say 27 = .ok (.ifCond .eq 7, 3) := by decide +kernel
theorem dX11_say_30 : decode cX11_say 30 = .ok (.iconst 1, 1) := by decide +kernel
theorem dX11_say_31 : decode cX11_say 31 = .ok (.goto 4, 3) := by decide +kernel
theorem dX11_say_34 : decode cX11_say 34 = .ok (.iconst 0, 1) := by decide +kernel
theorem dX11_say_35 : decode cX11_say 35 = .ok (.iconst 1, 1) := by decide +kernel
theorem dX11_say_36 : decode cX11_say 36 = .ok (.invokevirtual 93, 3) := by decide +kernel
theorem dX11_say_39 : decode cX11_say 39 = .ok (.ifCond .ne 88, 3) := by decide +kernel
theorem dX11_say_42 : decode cX11_say 42 = .ok (.aload_n 0, 1) := by decide +kernel
theorem dX11_say_43 : decode cX11_say 43 = .ok (.iload_n 2, 1) := by decide +kernel
theorem dX11_say_44 : decode cX11_say 44 = .ok (.iconst 0, 1) := by decide +kernel
theorem dX11_say_45 : decode cX11_say 45 = .ok (.iconst 4, 1) := by decide +kernel
theorem dX11_say_46 : decode cX11_say 46 = .ok (.invokestatic 68, 3) := by decide +kernel
theorem dX11_say_49 : decode cX11_say 49 = .ok (.ifCond .eq 44, 3) := by decide +kernel
theorem dX11_say_52 : decode cX11_say 52 = .ok (.iload_n 3, 1) := by decide +kernel
theorem dX11_say_53 : decode cX11_say 53 = .ok (.iconst 1, 1) := by decide +kernel
theorem dX11_say_54 : decode cX11_say 54 = .ok (.sipush 200, 3) := by decide +kernel
theorem dX11_say_57 : decode cX11_say 57 = .ok (.invokestatic 68, 3) := by decide +kernel
theorem dX11_say_60 : decode cX11_say 60 = .ok (.ifCond .eq 33, 3) := by decide +kernel
theorem dX11_say_63 : decode cX11_say 63 = .ok (.iload_n 2, 1) := by decide +kernel
theorem dX11_say_64 : decode cX11_say 64 = .ok (.iconst 1, 1) := by decide +kernel
theorem dX11_say_65 : decode cX11_say 65 = .ok (.if_icmp .gt 16, 3) := by decide +kernel
theorem dX11_say_68 : decode cX11_say 68 = .ok (.iload 6, 2) := by decide +kernel
theorem dX11_say_70 : decode cX11_say 70 = .ok (.iconst 0, 1) := by decide +kernel
theorem dX11_say_71 : decode cX11_say 71 = .ok (.aload_n 0, 1) := by decide +kernel
theorem dX11_say_72 : decode cX11_say 72 = .ok (.invokevirtual 97, 3) := by decide +kernel
theorem dX11_say_75 : decode cX11_say 75 = .ok (.invokestatic 68, 3) := by decide +kernel
theorem dX11_say_78 : decode cX11_say 78 = .ok (.ifCond .eq 15, 3) := by decide +kernel
theorem dX11_say_81 : decode cX11_say 81 = .ok (.iload 7, 2) := by decide +kernel
theorem dX11_say_83 : decode cX11_say 83 = .ok (.iconst 0, 1) := by decide +kernel
theorem dX11_say_84 : decode cX11_say 84 = .ok (.sipush 9999, 3) := by decide +kernel
theorem dX11_say_87 : decode cX11_say 87 = .ok (.invokestatic 68, 3) := by decide +kernel
theorem dX11_say_90 : decode cX11_say 90 = .ok (.ifCond .ne 7, 3) := by decide +kernel
theorem dX11_say_93 : decode cX11_say 93 = .ok (.iconst 1, 1) := by decide +kernel
theorem dX11_say_94 : decode cX11_say 94 = .ok (.goto 4, 3) := by decide +kernel
theorem dX11_say_97 : decode cX11_say 97 = .ok (.iconst 0, 1) := by decide +kernel
theorem dX11_say_98 : decode cX11_say 98 = .ok (.iconst 2, 1) := by decide +kernel
theorem dX11_say_99 : decode cX11_say 99 = .ok (.invokevirtual 93, 3) := by decide +kernel
theorem dX11_say_102 : decode cX11_say 102 = .ok (.ifCond .ne 25, 3) := by decide +kernel
theorem dX11_say_105 : decode cX11_say 105 = .ok (.aload_n 0, 1) := by decide +kernel
theorem dX11_say_106 : decode cX11_say 106 = .ok (.aload_n 0, 1) := by decide +kernel
theorem dX11_say_107 : decode cX11_say 107 = .ok (.invokevirtual 72, 3) := by decide +kernel
theorem dX11_say_110 : decode cX11_say 110 = .ok (.bipush 30, 2) := by decide +kernel
theorem dX11_say_112 : decode cX11_say 112 = .ok (.if_icmp .ne 7, 3) := by decide +kernel
theorem dX11_say_115 : decode cX11_say 115 = .ok (.iconst 1, 1) := by decide +kernel
theorem dX11_say_116 : decode cX11_say 116 = .ok (.goto 4, 3) := by decide +kernel
theorem dX11_say_119 : decode cX11_say 119 = .ok (.iconst 0, 1) := by decide +kernel
theorem dX11_say_120 : decode cX11_say 120 = .ok (.iconst 3, 1) := by decide +kernel
theorem dX11_say_121 : decode cX11_say 121 = .ok (.invokevirtual 93, 3) := by decide +kernel
theorem dX11_say_124 : decode cX11_say 124 = .ok (.ifCond .eq 5, 3) := by decide +kernel
theorem dX11_say_127 : decode cX11_say 127 = .ok (.iconst 0, 1) := by decide +kernel
theorem dX11_say_128 : decode cX11_say 128 = .ok (.ireturn, 1) := by decide +kernel
theorem dX11_say_129 : decode cX11_say 129 = .ok (.aload_n 0, 1) := by decide +kernel
theorem dX11_say_130 : decode cX11_say 130 = .ok (.iload_n 1, 1) := by decide +kernel
theorem dX11_say_131 : decode cX11_say 131 = .ok (.iload_n 2, 1) := by decide +kernel
theorem dX11_say_132 : decode cX11_say 132 = .ok (.iload_n 3, 1) := by decide +kernel
theorem dX11_say_133 : decode cX11_say 133 = .ok (.invokevirtual 315, 3) := by decide +kernel
theorem dX11_say_136 : decode cX11_say 136 = .ok (.istore 8, 2) := by decide +kernel
theorem dX11_say_138 : decode cX11_say 138 = .ok (.sipush 761, 3) := by decide +kernel
theorem dX11_say_141 : decode cX11_say 141 = .ok (.bipush 10, 2) := by decide +kernel
theorem dX11_say_143 : decode cX11_say 143 = .ok (.iload 8, 2) := by decide +kernel
theorem dX11_say_145 : decode cX11_say 145 = .ok (.imul, 1) := by decide +kernel
theorem dX11_say_146 : decode cX11_say 146 = .ok (.iadd, 1) := by decide +kernel
theorem dX11_say_147 : decode cX11_say 147 = .ok (.istore 9, 2) := by decide +kernel
theorem dX11_say_149 : decode cX11_say 149 = .ok (.aload_n 0, 1) := by decide +kernel
theorem dX11_say_150 : decode cX11_say 150 = .ok (.getfield 20, 3) := by decide +kernel
theorem dX11_say_153 : decode cX11_say 153 = .ok (.iload 9, 2) := by decide +kernel
theorem dX11_say_155 : decode cX11_say 155 = .ok (.iconst 4, 1) := by decide +kernel
theorem dX11_say_156 : decode cX11_say 156 = .ok (.iadd, 1) := by decide +kernel
theorem dX11_say_157 : decode cX11_say 157 = .ok (.iload 4, 2) := by decide +kernel
theorem dX11_say_159 : decode cX11_say 159 = .ok (.iastore, 1) := by decide +kernel
theorem dX11_say_160 : decode cX11_say 160 = .ok (.aload_n 0, 1) := by decide +kernel
theorem dX11_say_161 : decode cX11_say 161 = .ok (.getfield 20, 3) := by decide +kernel
theorem dX11_say_164 : decode cX11_say 164 = .ok (.iload 9, 2) := by decide +kernel
theorem dX11_say_166 : decode cX11_say 166 = .ok (.iconst 5, 1) := by decide +kernel
theorem dX11_say_167 : decode cX11_say 167 = .ok (.iadd, 1) := by decide +kernel
theorem dX11_say_168 : decode cX11_say 168 = .ok (.iload 5, 2) := by decide +kernel
theorem dX11_say_170 : decode cX11_say 170 = .ok (.iastore, 1) := by decide +kernel
theorem dX11_say_171 : decode cX11_say 171 = .ok (.aload_n 0, 1) := by decide +kernel
theorem dX11_say_172 : decode cX11_say 172 = .ok (.getfield 20, 3) := by decide +kernel
theorem dX11_say_175 : decode cX11_say 175 = .ok (.iload 9, 2) := by decide +kernel
theorem dX11_say_177 : decode cX11_say 177 = .ok (.bipush 6, 2) := by decide +kernel
theorem dX11_say_179 : decode cX11_say 179 = .ok (.iadd, 1) := by decide +kernel
theorem dX11_say_180 : decode cX11_say 180 = .ok (.iload 6, 2) := by decide +kernel
theorem dX11_say_182 : decode cX11_say 182 = .ok (.iastore, 1) := by decide +kernel
theorem dX11_say_183 : decode cX11_say 183 = .ok (.aload_n 0, 1) := by decide +kernel
theorem dX11_say_184 : decode cX11_say 184 = .ok (.getfield 20, 3) := by decide +kernel
theorem dX11_say_187 : decode cX11_say 187 = .ok (.iload 9, 2) := by decide +kernel
theorem dX11_say_189 : decode cX11_say 189 = .ok (.bipush 7, 2) := by decide +kernel
theorem dX11_say_191 : decode cX11_say 191 = .ok (.iadd, 1) := by decide +kernel
theorem dX11_say_192 : decode cX11_say 192 = .ok (.iload 7, 2) := by decide +kernel
theorem dX11_say_194 : decode cX11_say 194 = .ok (.iastore, 1) := by decide +kernel
theorem dX11_say_195 : decode cX11_say 195 = .ok (.aload_n 0, 1) := by decide +kernel
theorem dX11_say_196 : decode cX11_say 196 = .ok (.iload 8, 2) := by decide +kernel
theorem dX11_say_198 : decode cX11_say 198 = .ok (.invokevirtual 318, 3) := by decide +kernel
theorem dX11_say_201 : decode cX11_say 201 = .ok (.iload 8, 2) := by decide +kernel
theorem dX11_say_203 : decode cX11_say 203 = .ok (.ireturn, 1) := by decide +kernel
theorem dX11_undo_0 : decode cX11_undo 0 = .ok (.aload_n 0, 1) := by decide +kernel
theorem dX11_undo_1 : decode cX11_undo 1 = .ok (.iconst 0, 1) := by decide +kernel
theorem dX11_undo_2 : decode cX11_undo 2 = .ok (.putfield 3, 3) := by decide +kernel
theorem dX11_undo_5 : decode cX11_undo 5 = .ok (.aload_n 0, 1) := by decide +kernel
theorem dX11_undo_6 : decode cX11_undo 6 = .ok (.aload_n 0, 1) := by decide +kernel
theorem dX11_undo_7 : decode cX11_undo 7 = .ok (.iload_n 1, 1) := by decide +kernel
theorem dX11_undo_8 : decode cX11_undo 8 = .ok (.invokevirtual 104, 3) := by decide +kernel
theorem dX11_undo_11 : decode cX11_undo 11 = .ok (.ifCond .ne 11, 3) := by decide +kernel
theorem dX11_undo_14 : decode cX11_undo 14 = .ok (.aload_n 0, 1) := by decide +kernel
theorem dX11_undo_15 : decode cX11_undo 15 = .ok (.iload_n 3, 1) := by decide +kernel
theorem dX11_undo_16 : decode cX11_undo 16 = .ok (.invokevirtual 322, 3) := by decide +kernel
theorem dX11_undo_19 : decode cX11_undo 19 = .ok (.ifCond .eq 7, 3) := by decide +kernel
theorem dX11_undo_22 : decode cX11_undo 22 = .ok (.iconst 1, 1) := by decide +kernel
theorem dX11_undo_23 : decode cX11_undo 23 = .ok (.goto 4, 3) := by decide +kernel
theorem dX11_undo_26 : decode cX11_undo 26 = .ok (.iconst 0, 1) := by decide +kernel
theorem dX11_undo_27 : decode cX11_undo 27 = .ok (.iconst 1, 1) := by decide +kernel
theorem dX11_undo_28 : decode cX11_undo 28 = .ok (.invokevirtual 93, 3) := by decide +kernel
theorem dX11_undo_31 : decode cX11_undo 31 = .ok (.ifCond .ne 59, 3) := by decide +kernel
theorem dX11_undo_34 : decode cX11_undo 34 = .ok (.aload_n 0, 1) := by decide +kernel
theorem dX11_undo_35 : decode cX11_undo 35 = .ok (.iload_n 2, 1) := by decide +kernel
theorem dX11_undo_36 : decode cX11_undo 36 = .ok (.iconst 1, 1) := by decide +kernel
theorem dX11_undo_37 : decode cX11_undo 37 = .ok (.sipush 200, 3) := by decide +kernel
theorem dX11_undo_40 : decode cX11_undo 40 = .ok (.invokestatic 68, 3) := by decide +kernel
theorem dX11_undo_43 : decode cX11_undo 43 = .ok (.ifCond .eq 13, 3) := by decide +kernel
theorem dX11_undo_46 : decode cX11_undo 46 = .ok (.aload_n 0, 1) := by decide +kernel
theorem dX11_undo_47 : decode cX11_undo 47 = .ok (.iload_n 3, 1) := by decide +kernel
theorem dX11_undo_48 : decode cX11_undo 48 = .ok (.iconst 0, 1) := by decide +kernel
theorem dX11_undo_49 : decode cX11_undo 49 = .ok (.invokevirtual 240, 3) := by decide +kernel
theorem dX11_undo_52 : decode cX11_undo 52 = .ok (.iconst 5, 1) := by decide +kernel
theorem dX11_undo_53 : decode cX11_undo 53 = .ok (.if_icmp .ne 7, 3) := by decide +kernel
theorem dX11_undo_56 : decode cX11_undo 56 = .ok (.iconst 1, 1) := by decide +kernel
theorem dX11_undo_57 : decode cX11_undo 57 = .ok (.goto 4, 3) := by decide +kernel
theorem dX11_undo_60 : decode cX11_undo 60 = .ok (.iconst 0, 1) := by decide +kernel
theorem dX11_undo_61 : decode cX11_undo 61 = .ok (.iconst 2, 1) := by decide +kernel
theorem dX11_undo_62 : decode cX11_undo 62 = .ok (.invokevirtual 93, 3) := by decide +kernel
theorem dX11_undo_65 : decode cX11_undo 65 = .ok (.ifCond .ne 25, 3) := by decide +kernel
theorem dX11_undo_68 : decode cX11_undo 68 = .ok (.aload_n 0, 1) := by decide +kernel
theorem dX11_undo_69 : decode cX11_undo 69 = .ok (.aload_n 0, 1) := by decide +kernel
theorem dX11_undo_70 : decode cX11_undo 70 = .ok (.invokevirtual 72, 3) := by decide +kernel
theorem dX11_undo_73 : decode cX11_undo 73 = .ok (.bipush 30, 2) := by decide +kernel
theorem dX11_undo_75 : decode cX11_undo 75 = .ok (.if_icmp .ne 7, 3) := by decide +kernel
theorem dX11_undo_78 : decode cX11_undo 78 = .ok (.iconst 1, 1) := by decide +kernel
theorem dX11_undo_79 : decode cX11_undo 79 = .ok (.goto 4, 3) := by decide +kernel
theorem dX11_undo_82 : decode cX11_undo 82 = .ok (.iconst 0, 1) := by decide +kernel
theorem dX11_undo_83 : decode cX11_undo 83 = .ok (.iconst 3, 1) := by decide +kernel
theorem dX11_undo_84 : decode cX11_undo 84 = .ok (.invokevirtual 93, 3) := by decide +kernel
theorem dX11_undo_87 : decode cX11_undo 87 = .ok (.ifCond .eq 5, 3) := by decide +kernel
theorem dX11_undo_90 : decode cX11_undo 90 = .ok (.iconst 0, 1) := by decide +kernel
theorem dX11_undo_91 : decode cX11_undo 91 = .ok (.ireturn, 1) := by decide +kernel
theorem dX11_undo_92 : decode cX11_undo 92 = .ok (.aload_n 0, 1) := by decide +kernel
theorem dX11_undo_93 : decode cX11_undo 93 = .ok (.iload_n 1, 1) := by decide +kernel
theorem dX11_undo_94 : decode cX11_undo 94 = .ok (.iconst 5, 1) := by decide +kernel
theorem dX11_undo_95 : decode cX11_undo 95 = .ok (.iload_n 2, 1) := by decide +kernel
theorem dX11_undo_96 : decode cX11_undo 96 = .ok (.invokevirtual 315, 3) := by decide +kernel
theorem dX11_undo_99 : decode cX11_undo 99 = .ok (.istore 4, 2) := by decide +kernel
theorem dX11_undo_101 : decode cX11_undo 101 = .ok (.aload_n 0, 1) := by decide +kernel
theorem dX11_undo_102 : decode cX11_undo 102 = .ok (.getfield 20, 3) := by decide +kernel
theorem dX11_undo_105 : decode cX11_undo 105 = .ok (.sipush 761, 3) := by decide +kernel
theorem dX11_undo_108 : decode cX11_undo 108 = .ok (.bipush 10, 2) := by decide +kernel
theorem dX11_undo_110 : decode cX11_undo 110 = .ok (.iload 4, 2) := by decide +kernel
theorem dX11_undo_112 : decode cX11_undo 112 = .ok (.imul, 1) := by decide +kernel
theorem dX11_undo_113 : decode cX11_undo 113 = .ok (.iadd, 1) := by decide +kernel
theorem dX11_undo_114 : decode cX11_undo 114 = .ok (.bipush 8, 2) := by decide +kernel
theorem dX11_undo_116 : decode cX11_undo 116 = .ok (.iadd, 1) := by decide +kernel
theorem dX11_undo_117 : decode cX11_undo 117 = .ok (.iload_n 3, 1) := by decide +kernel
theorem dX11_undo_118 : decode cX11_undo 118 = .ok (.iastore, 1) := by decide +kernel
theorem dX11_undo_119 : decode cX11_undo 119 = .ok (.aload_n 0, 1) := by decide +kernel
theorem dX11_undo_120 : decode cX11_undo 120 = .ok (.iload 4, 2) := by decide +kernel
theorem dX11_undo_122 : decode cX11_undo 122 = .ok (.invokevirtual 318, 3) := by decide +kernel
theorem dX11_undo_125 : decode cX11_undo 125 = .ok (.iload 4, 2) := by decide +kernel
theorem dX11_undo_127 : decode cX11_undo 127 = .ok (.ireturn, 1) := by decide +kernel
theorem dX11_look_0 : decode cX11_look 0 = .ok (.aload_n 0, 1) := by decide +kernel
theorem dX11_look_1 : decode cX11_look 1 = .ok (.iconst 0, 1) := by decide +kernel
theorem dX11_look_2 : decode cX11_look 2 = .ok (.putfield 3, 3) := by decide +kernel
theorem dX11_look_5 : decode cX11_look 5 = .ok (.aload_n 0, 1) := by decide +kernel
theorem dX11_look_6 : decode cX11_look 6 = .ok (.aload_n 0, 1) := by decide +kernel
theorem dX11_look_7 : decode cX11_look 7 = .ok (.iload_n 1, 1) := by decide +kernel
theorem dX11_look_8 : decode cX11_look 8 = .ok (.invokevirtual 104, 3) := by decide +kernel
theorem dX11_look_11 : decode cX11_look 11 = .ok (.iconst 1, 1) := by decide +kernel
theorem dX11_look_12 : decode cX11_look 12 = .ok (.invokevirtual 93, 3) := by decide +kernel
theorem dX11_look_15 : decode cX11_look 15 = .ok (.ifCond .eq 5, 3) := by decide +kernel
theorem dX11_look_18 : decode cX11_look 18 = .ok (.iconst 0, 1) := by decide +kernel
theorem dX11_look_19 : decode cX11_look 19 = .ok (.ireturn, 1) := by decide +kernel
theorem dX11_look_20 : decode cX11_look 20 = .ok (.iload_n 2, 1) := by decide +kernel
theorem dX11_look_21 : decode cX11_look 21 = .ok (.tableswitch 122 0 7 #[47, 58, 69, 75, 82, 89, 100, 111], 47) := by decide +kernel
theorem dX11_look_68 : decode cX11_look 68 = .ok (.aload_n 0, 1) := by decide +kernel
theorem dX11_look_69 : decode cX11_look 69 = .ok (.getfield 13, 3) := by decide +kernel
theorem dX11_look_72 : decode cX11_look 72 = .ok (.iload_n 1, 1) := by decide +kernel
theorem dX11_look_73 : decode cX11_look 73 = .ok (.iconst 0, 1) := by decide +kernel
theorem dX11_look_74 : decode cX11_look 74 = .ok (.invokestatic 100, 3) := by decide +kernel
theorem dX11_look_77 : decode cX11_look 77 = .ok (.iaload, 1) := by decide +kernel
theorem dX11_look_78 : decode cX11_look 78 = .ok (.ireturn, 1) := by decide +kernel
theorem dX11_look_79 : decode cX11_look 79 = .ok (.aload_n 0, 1) := by decide +kernel
theorem dX11_look_80 : decode cX11_look 80 = .ok (.getfield 13, 3) := by decide +kernel
theorem dX11_look_83 : decode cX11_look 83 = .ok (.iload_n 1, 1) := by decide +kernel
theorem dX11_look_84 : decode cX11_look 84 = .ok (.iconst 1, 1) := by decide +kernel
theorem dX11_look_85 : decode cX11_look 85 = .ok (.invokestatic 100, 3) := by decide +kernel
theorem dX11_look_88 : decode cX11_look 88 = .ok (.iaload, 1) := by decide +kernel
theorem dX11_look_89 : decode cX11_look 89 = .ok (.ireturn, 1) := by decide +kernel
theorem dX11_look_90 : decode cX11_look 90 = .ok (.aload_n 0, 1) := by decide +kernel
theorem dX11_look_91 : decode cX11_look 91 = .ok (.iload_n 1, 1) := by decide +kernel
theorem dX11_look_92 : decode cX11_look 92 = .ok (.invokevirtual 264, 3) := by decide +kernel
theorem dX11_look_95 : decode cX11_look 95 = .ok (.ireturn, 1) := by decide +kernel
theorem dX11_look_96 : decode cX11_look 96 = .ok (.aload_n 0, 1) := by decide +kernel
theorem dX11_look_97 : decode cX11_look 97 = .ok (.iload_n 1, 1) := by decide +kernel
theorem dX11_look_98 : decode cX11_look 98 = .ok (.iconst 1, 1) := by decide +kernel
theorem dX11_look_99 : decode cX11_look 99 = .ok (.invokevirtual 110, 3) := by decide +kernel
theorem dX11_look_102 : decode cX11_look 102 = .ok (.ireturn, 1) := by decide +kernel
theorem dX11_look_103 : decode cX11_look 103 = .ok (.aload_n 0, 1) := by decide +kernel
theorem dX11_look_104 : decode cX11_look 104 = .ok (.iload_n 1, 1) := by decide +kernel
theorem dX11_look_105 : decode cX11_look 105 = .ok (.iconst 2, 1) := by decide +kernel
theorem dX11_look_106 : decode cX11_look 106 = .ok (.invokevirtual 110, 3) := by decide +kernel
theorem dX11_look_109 : decode cX11_look 109 = .ok (.ireturn, 1) := by decide +kernel
theorem dX11_look_110 : decode cX11_look 110 = .ok (.aload_n 0, 1) := by decide +kernel
theorem dX11_look_111 : decode cX11_look 111 = .ok (.getfield 13, 3) := by decide +kernel
theorem dX11_look_114 : decode cX11_look 114 = .ok (.iload_n 1, 1) := by decide +kernel
theorem dX11_look_115 : decode cX11_look 115 = .ok (.iconst 2, 1) := by decide +kernel
theorem dX11_look_116 : decode cX11_look 116 = .ok (.invokestatic 100, 3) := by decide +kernel
theorem dX11_look_119 : decode cX11_look 119 = .ok (.iaload, 1) := by decide +kernel
theorem dX11_look_120 : decode cX11_look 120 = .ok (.ireturn, 1) := by decide +kernel
theorem dX11_look_121 : decode cX11_look 121 = .ok (.aload_n 0, 1) := by decide +kernel
theorem dX11_look_122 : decode cX11_look 122 = .ok (.getfield 13, 3) := by decide +kernel
theorem dX11_look_125 : decode cX11_look 125 = .ok (.iload_n 1, 1) := by decide +kernel
theorem dX11_look_126 : decode cX11_look 126 = .ok (.iconst 3, 1) := by decide +kernel
theorem dX11_look_127 : decode cX11_look 127 = .ok (.invokestatic 100, 3) := by decide +kernel
theorem dX11_look_130 : decode cX11_look 130 = .ok (.iaload, 1) := by decide +kernel
theorem dX11_look_131 : decode cX11_look 131 = .ok (.ireturn, 1) := by decide +kernel
theorem dX11_look_132 : decode cX11_look 132 = .ok (.aload_n 0, 1) := by decide +kernel
theorem dX11_look_133 : decode cX11_look 133 = .ok (.getfield 13, 3) := by decide +kernel
theorem dX11_look_136 : decode cX11_look 136 = .ok (.iload_n 1, 1) := by decide +kernel
theorem dX11_look_137 : decode cX11_look 137 = .ok (.iconst 4, 1) := by decide +kernel
theorem dX11_look_138 : decode cX11_look 138 = .ok (.invokestatic 100, 3) := by decide +kernel
theorem dX11_look_141 : decode cX11_look 141 = .ok (.iaload, 1) := by decide +kernel
theorem dX11_look_142 : decode cX11_look 142 = .ok (.ireturn, 1) := by decide +kernel
theorem dX11_look_143 : decode cX11_look 143 = .ok (.aload_n 0, 1) := by decide +kernel
theorem dX11_look_144 : decode cX11_look 144 = .ok (.iconst 2, 1) := by decide +kernel
theorem dX11_look_145 : decode cX11_look 145 = .ok (.putfield 3, 3) := by decide +kernel
theorem dX11_look_148 : decode cX11_look 148 = .ok (.iconst 0, 1) := by decide +kernel
theorem dX11_look_149 : decode cX11_look 149 = .ok (.ireturn, 1) := by decide +kernel
theorem dX11_copy_0 : decode cX11_copy 0 = .ok (.aload_n 0, 1) := by decide +kernel
theorem dX11_copy_1 : decode cX11_copy 1 = .ok (.iconst 0, 1) := by decide +kernel
theorem dX11_copy_2 : decode cX11_copy 2 = .ok (.putfield 3, 3) := by decide +kernel
theorem dX11_copy_5 : decode cX11_copy 5 = .ok (.aload_n 0, 1) := by decide +kernel
theorem dX11_copy_6 : decode cX11_copy 6 = .ok (.aload_n 0, 1) := by decide +kernel
theorem dX11_copy_7 : decode cX11_copy 7 = .ok (.iload_n 1, 1) := by decide +kernel
theorem dX11_copy_8 : decode cX11_copy 8 = .ok (.invokevirtual 104, 3) := by decide +kernel
theorem dX11_copy_11 : decode cX11_copy 11 = .ok (.ifCond .ne 11, 3) := by decide +kernel
theorem dX11_copy_14 : decode cX11_copy 14 = .ok (.aload_n 0, 1) := by decide +kernel
theorem dX11_copy_15 : decode cX11_copy 15 = .ok (.iload_n 2, 1) := by decide +kernel
theorem dX11_copy_16 : decode cX11_copy 16 = .ok (.invokevirtual 322, 3) := by decide +kernel
theorem dX11_copy_19 : decode cX11_copy 19 = .ok (.ifCond .eq 7, 3) := by decide +kernel
theorem dX11_copy_22 : decode cX11_copy 22 = .ok (.iconst 1, 1) := by decide +kernel
theorem dX11_copy_23 : decode cX11_copy 23 = .ok (.goto 4, 3) := by decide +kernel
theorem dX11_copy_26 : decode cX11_copy 26 = .ok (.iconst 0, 1) := by decide +kernel
theorem dX11_copy_27 : decode cX11_copy 27 = .ok (.iconst 1, 1) := by decide +kernel
theorem dX11_copy_28 : decode cX11_copy 28 = .ok (.invokevirtual 93, 3) := by decide +kernel
theorem dX11_copy_31 : decode cX11_copy 31 = .ok (.ifCond .ne 25, 3) := by decide +kernel
theorem dX11_copy_34 : decode cX11_copy 34 = .ok (.aload_n 0, 1) := by decide +kernel
theorem dX11_copy_35 : decode cX11_copy 35 = .ok (.iload_n 3, 1) := by decide +kernel
theorem dX11_copy_36 : decode cX11_copy 36 = .ok (.iconst 0, 1) := by decide +kernel
theorem dX11_copy_37 : decode cX11_copy 37 = .ok (.iconst 5, 1) := by decide +kernel
theorem dX11_copy_38 : decode cX11_copy 38 = .ok (.invokestatic 68, 3) := by decide +kernel
theorem dX11_copy_41 : decode cX11_copy 41 = .ok (.ifCond .ne 7, 3) := by decide +kernel
theorem dX11_copy_44 : decode cX11_copy 44 = .ok (.iconst 1, 1) := by decide +kernel
theorem dX11_copy_45 : decode cX11_copy 45 = .ok (.goto 4, 3) := by decide +kernel
theorem dX11_copy_48 : decode cX11_copy 48 = .ok (.iconst 0, 1) := by decide +kernel
theorem dX11_copy_49 : decode cX11_copy 49 = .ok (.iconst 2, 1) := by decide +kernel
theorem dX11_copy_50 : decode cX11_copy 50 = .ok (.invokevirtual 93, 3) := by decide +kernel
theorem dX11_copy_53 : decode cX11_copy 53 = .ok (.ifCond .eq 5, 3) := by decide +kernel
theorem dX11_copy_56 : decode cX11_copy 56 = .ok (.iconst 0, 1) := by decide +kernel
theorem dX11_copy_57 : decode cX11_copy 57 = .ok (.ireturn, 1) := by decide +kernel
theorem dX11_copy_58 : decode cX11_copy 58 = .ok (.aload_n 0, 1) := by decide +kernel
theorem dX11_copy_59 : decode cX11_copy 59 = .ok (.iload_n 1, 1) := by decide +kernel
theorem dX11_copy_60 : decode cX11_copy 60 = .ok (.iload_n 2, 1) := by decide +kernel
theorem dX11_copy_61 : decode cX11_copy 61 = .ok (.invokevirtual 237, 3) := by decide +kernel
theorem dX11_copy_64 : decode cX11_copy 64 = .ok (.ifCond .ne 5, 3) := by decide +kernel
theorem dX11_copy_67 : decode cX11_copy 67 = .ok (.iconst (-1), 1) := by decide +kernel
theorem dX11_copy_68 : decode cX11_copy 68 = .ok (.ireturn, 1) := by decide +kernel
theorem dX11_copy_69 : decode cX11_copy 69 = .ok (.iload_n 3, 1) := by decide +kernel
theorem dX11_copy_70 : decode cX11_copy 70 = .ok (.iconst 4, 1) := by decide +kernel
theorem dX11_copy_71 : decode cX11_copy 71 = .ok (.if_icmp .ne 12, 3) := by decide +kernel
theorem dX11_copy_74 : decode cX11_copy 74 = .ok (.aload_n 0, 1) := by decide +kernel
theorem dX11_copy_75 : decode cX11_copy 75 = .ok (.iload_n 1, 1) := by decide +kernel
theorem dX11_copy_76 : decode cX11_copy 76 = .ok (.iload_n 2, 1) := by decide +kernel
theorem dX11_copy_77 : decode cX11_copy 77 = .ok (.invokevirtual 258, 3) := by decide +kernel
theorem dX11_copy_80 : decode cX11_copy 80 = .ok (.goto 62, 3) := by decide +kernel
theorem dX11_copy_83 : decode cX11_copy 83 = .ok (.iload_n 3, 1) := by decide +kernel
theorem dX11_copy_84 : decode cX11_copy 84 = .ok (.iconst 5, 1) := by decide +kernel
theorem dX11_copy_85 : decode cX11_copy 85 = .ok (.if_icmp .ne 20, 3) := by decide +kernel
theorem dX11_copy_88 : decode cX11_copy 88 = .ok (.aload_n 0, 1) := by decide +kernel
theorem dX11_copy_89 : decode cX11_copy 89 = .ok (.iload_n 1, 1) := by decide +kernel
theorem dX11_copy_90 : decode cX11_copy 90 = .ok (.iload_n 2, 1) := by decide +kernel
theorem dX11_copy_91 : decode cX11_copy 91 = .ok (.invokevirtual 277, 3) := by decide +kernel
theorem dX11_copy_94 : decode cX11_copy 94 = .ok (.ifCond .eq 7, 3) := by decide +kernel
theorem dX11_copy_97 : decode cX11_copy 97 = .ok (.iconst 1, 1) := by decide +kernel
theorem dX11_copy_98 : decode cX11_copy 98 = .ok (.goto 44, 3) := by decide +kernel
theorem dX11_copy_101 : decode cX11_copy 101 = .ok (.iconst 0, 1) := by decide +kernel
theorem dX11_copy_102 : decode cX11_copy 102 = .ok (.goto 40, 3) := by decide +kernel
theorem dX11_copy_105 : decode cX11_copy 105 = .ok (.aload_n 0, 1) := by decide +kernel
theorem dX11_copy_106 : decode cX11_copy 106 = .ok (.getfield 13, 3) := by decide +kernel
theorem dX11_copy_109 : decode cX11_copy 109 = .ok (.iload_n 1, 1) := by decide +kernel
theorem dX11_copy_110 : decode cX11_copy 110 = .ok (.iload_n 2, 1) := by decide +kernel
theorem dX11_copy_111 : decode cX11_copy 111 = .ok (.iload_n 3, 1) := by decide +kernel
theorem dX11_copy_112 : decode cX11_copy 112 = .ok (.ifCond .ne 7, 3) := by decide +kernel
theorem dX11_copy_115 : decode cX11_copy 115 = .ok (.iconst 1, 1) := by decide +kernel
theorem dX11_copy_116 : decode cX11_copy 116 = .ok (.goto 22, 3) := by decide +kernel
theorem dX11_copy_119 : decode cX11_copy 119 = .ok (.iload_n 3, 1) := by decide +kernel
theorem dX11_copy_120 : decode cX11_copy 120 = .ok (.iconst 1, 1) := by decide +kernel
theorem dX11_copy_121 : decode cX11_copy 121 = .ok (.if_icmp .ne 7, 3) := by decide +kernel
theorem dX11_copy_124 : decode cX11_copy 124 = .ok (.iconst 2, 1) := by decide +kernel
theorem dX11_copy_125 : decode cX11_copy 125 = .ok (.goto 13, 3) := by decide +kernel
theorem dX11_copy_128 : decode cX11_copy 128 = .ok (.iload_n 3, 1) := by decide +kernel
theorem dX11_copy_129 : decode cX11_copy 129 = .ok (.iconst 2, 1) := by decide +kernel
theorem dX11_copy_130 : decode cX11_copy 130 = .ok (.if_icmp .ne 7, 3) := by decide +kernel
theorem dX11_copy_133 : decode cX11_copy 133 = .ok (.iconst 3, 1) := by decide +kernel
theorem dX11_copy_134 : decode cX11_copy 134 = .ok (.goto 4, 3) := by decide +kernel
theorem dX11_copy_137 : decode cX11_copy 137 = .ok (.iconst 4, 1) := by decide +kernel
theorem dX11_copy_138 : decode cX11_copy 138 = .ok (.invokestatic 85, 3) := by decide +kernel
theorem dX11_copy_141 : decode cX11_copy 141 = .ok (.iaload, 1) := by decide +kernel
theorem dX11_copy_142 : decode cX11_copy 142 = .ok (.ireturn, 1) := by decide +kernel
theorem dX11_word_0 : decode cX11_word 0 = .ok (.aload_n 0, 1) := by decide +kernel
theorem dX11_word_1 : decode cX11_word 1 = .ok (.iconst 0, 1) := by decide +kernel
theorem dX11_word_2 : decode cX11_word 2 = .ok (.putfield 3, 3) := by decide +kernel
theorem dX11_word_5 : decode cX11_word 5 = .ok (.aload_n 0, 1) := by decide +kernel
theorem dX11_word_6 : decode cX11_word 6 = .ok (.aload_n 0, 1) := by decide +kernel
theorem dX11_word_7 : decode cX11_word 7 = .ok (.iload_n 1, 1) := by decide +kernel
theorem dX11_word_8 : decode cX11_word 8 = .ok (.invokevirtual 322, 3) := by decide +kernel
theorem dX11_word_11 : decode cX11_word 11 = .ok (.iconst 1, 1) := by decide +kernel
theorem dX11_word_12 : decode cX11_word 12 = .ok (.invokevirtual 93, 3) := by decide +kernel
theorem dX11_word_15 : decode cX11_word 15 = .ok (.ifCond .ne 26, 3) := by decide +kernel
theorem dX11_word_18 : decode cX11_word 18 = .ok (.aload_n 0, 1) := by decide +kernel
theorem dX11_word_19 : decode cX11_word 19 = .ok (.iload_n 2, 1) := by decide +kernel
theorem dX11_word_20 : decode cX11_word 20 = .ok (.iconst 0, 1) := by decide +kernel
theorem dX11_word_21 : decode cX11_word 21 = .ok (.bipush 10, 2) := by decide +kernel
theorem dX11_word_23 : decode cX11_word 23 = .ok (.invokestatic 68, 3) := by decide +kernel
theorem dX11_word_26 : decode cX11_word 26 = .ok (.ifCond .ne 7, 3) := by decide +kernel
theorem dX11_word_29 : decode cX11_word 29 = .ok (.iconst 1, 1) := by decide +kernel
theorem dX11_word_30 : decode cX11_word 30 = .ok (.goto 4, 3) := by decide +kernel
theorem dX11_word_33 : decode cX11_word 33 = .ok (.iconst 0, 1) := by decide +kernel
theorem dX11_word_34 : decode cX11_word 34 = .ok (.iconst 2, 1) := by decide +kernel
theorem dX11_word_35 : decode cX11_word 35 = .ok (.invokevirtual 93, 3) := by decide +kernel
theorem dX11_word_38 : decode cX11_word 38 = .ok (.ifCond .eq 5, 3) := by decide +kernel
theorem dX11_word_41 : decode cX11_word 41 = .ok (.iconst 0, 1) := by decide +kernel
theorem dX11_word_42 : decode cX11_word 42 = .ok (.ireturn, 1) := by decide +kernel
theorem dX11_word_43 : decode cX11_word 43 = .ok (.iload_n 2, 1) := by decide +kernel
theorem dX11_word_44 : decode cX11_word 44 = .ok (.bipush 9, 2) := by decide +kernel
theorem dX11_word_46 : decode cX11_word 46 = .ok (.if_icmp .ne 11, 3) := by decide +kernel
theorem dX11_word_49 : decode cX11_word 49 = .ok (.aload_n 0, 1) := by decide +kernel
theorem dX11_word_50 : decode cX11_word 50 = .ok (.iload_n 1, 1) := by decide +kernel
theorem dX11_word_51 : decode cX11_word 51 = .ok (.invokevirtual 243, 3) := by decide +kernel
theorem dX11_word_54 : decode cX11_word 54 = .ok (.goto 31, 3) := by decide +kernel
theorem dX11_word_57 : decode cX11_word 57 = .ok (.iload_n 2, 1) := by decide +kernel
theorem dX11_word_58 : decode cX11_word 58 = .ok (.bipush 10, 2) := by decide +kernel
theorem dX11_word_60 : decode cX11_word 60 = .ok (.if_icmp .ne 19, 3) := by decide +kernel
theorem dX11_word_63 : decode cX11_word 63 = .ok (.aload_n 0, 1) := by decide +kernel
theorem dX11_word_64 : decode cX11_word 64 = .ok (.iload_n 1, 1) := by decide +kernel
theorem dX11_word_65 : decode cX11_word 65 = .ok (.invokevirtual 300, 3) := by decide +kernel
theorem dX11_word_68 : decode cX11_word 68 = .ok (.ifCond .eq 7, 3) := by decide +kernel
theorem dX11_word_71 : decode cX11_word 71 = .ok (.iconst 1, 1) := by decide +kernel
theorem dX11_word_72 : decode cX11_word 72 = .ok (.goto 13, 3) := by decide +kernel
theorem dX11_word_75 : decode cX11_word 75 = .ok (.iconst 0, 1) := by decide +kernel
theorem dX11_word_76 : decode cX11_word 76 = .ok (.goto 9, 3) := by decide +kernel
theorem dX11_word_79 : decode cX11_word 79 = .ok (.aload_n 0, 1) := by decide +kernel
theorem dX11_word_80 : decode cX11_word 80 = .ok (.iload_n 1, 1) := by decide +kernel
theorem dX11_word_81 : decode cX11_word 81 = .ok (.iload_n 2, 1) := by decide +kernel
theorem dX11_word_82 : decode cX11_word 82 = .ok (.invokevirtual 240, 3) := by decide +kernel
theorem dX11_word_85 : decode cX11_word 85 = .ok (.ireturn, 1) := by decide +kernel
theorem dX11_had_0 : decode cX11_had 0 = .ok (.aload_n 0, 1) := by decide +kernel
theorem dX11_had_1 : decode cX11_had 1 = .ok (.iconst 0, 1) := by decide +kernel
theorem dX11_had_2 : decode cX11_had 2 = .ok (.putfield 3, 3) := by decide +kernel
theorem dX11_had_5 : decode cX11_had 5 = .ok (.aload_n 0, 1) := by decide +kernel
theorem dX11_had_6 : decode cX11_had 6 = .ok (.aload_n 0, 1) := by decide +kernel
theorem dX11_had_7 : decode cX11_had 7 = .ok (.iload_n 1, 1) := by decide +kernel
theorem dX11_had_8 : decode cX11_had 8 = .ok (.invokevirtual 322, 3) := by decide +kernel
theorem dX11_had_11 : decode cX11_had 11 = .ok (.iconst 1, 1) := by decide +kernel
theorem dX11_had_12 : decode cX11_had 12 = .ok (.invokevirtual 93, 3) := by decide +kernel
theorem dX11_had_15 : decode cX11_had 15 = .ok (.ifCond .eq 7, 3) := by decide +kernel
theorem dX11_had_18 : decode cX11_had 18 = .ok (.iconst 0, 1) := by decide +kernel
theorem dX11_had_19 : decode cX11_had 19 = .ok (.goto 13, 3) := by decide +kernel
theorem dX11_had_22 : decode cX11_had 22 = .ok (.aload_n 0, 1) := by decide +kernel
theorem dX11_had_23 : decode cX11_had 23 = .ok (.getfield 13, 3) := by decide +kernel
theorem dX11_had_26 : decode cX11_had 26 = .ok (.iload_n 1, 1) := by decide +kernel
theorem dX11_had_27 : decode cX11_had 27 = .ok (.iconst 0, 1) := by decide +kernel
theorem dX11_had_28 : decode cX11_had 28 = .ok (.invokestatic 261, 3) := by decide +kernel
theorem dX11_had_31 : decode cX11_had 31 = .ok (.iaload, 1) := by decide +kernel
theorem dX11_had_32 : decode cX11_had 32 = .ok (.ireturn, 1) := by decide +kernel
theorem dX11_wayOf_0 : decode cX11_wayOf 0 = .ok (.aload_n 0, 1) := by decide +kernel
theorem dX11_wayOf_1 : decode cX11_wayOf 1 = .ok (.getfield 13, 3) := by decide +kernel
theorem dX11_wayOf_4 : decode cX11_wayOf 4 = .ok (.iload_n 1, 1) := by decide +kernel
theorem dX11_wayOf_5 : decode cX11_wayOf 5 = .ok (.iconst 4, 1) := by decide +kernel
theorem dX11_wayOf_6 : decode cX11_wayOf 6 = .ok (.invokestatic 261, 3) := by decide +kernel
theorem dX11_wayOf_9 : decode cX11_wayOf 9 = .ok (.iaload, 1) := by decide +kernel
theorem dX11_wayOf_10 : decode cX11_wayOf 10 = .ok (.istore_n 3, 1) := by decide +kernel
theorem dX11_wayOf_11 : decode cX11_wayOf 11 = .ok (.aload_n 0, 1) := by decide +kernel
theorem dX11_wayOf_12 : decode cX11_wayOf 12 = .ok (.getfield 13, 3) := by decide +kernel
theorem dX11_wayOf_15 : decode cX11_wayOf 15 = .ok (.iload_n 1, 1) := by decide +kernel
theorem dX11_wayOf_16 : decode cX11_wayOf 16 = .ok (.iconst 0, 1) := by decide +kernel
theorem dX11_wayOf_17 : decode cX11_wayOf 17 = .ok (.invokestatic 261, 3) := by decide +kernel
theorem dX11_wayOf_20 : decode cX11_wayOf 20 = .ok (.iaload, 1) := by decide +kernel
theorem dX11_wayOf_21 : decode cX11_wayOf 21 = .ok (.ifCond .ge 5, 3) := by decide +kernel
theorem dX11_wayOf_24 : decode cX11_wayOf 24 = .ok (.iconst (-1), 1) := by decide +kernel
theorem dX11_wayOf_25 : decode cX11_wayOf 25 = .ok (.ireturn, 1) := by decide +kernel
theorem dX11_wayOf_26 : decode cX11_wayOf 26 = .ok (.iload_n 3, 1) := by decide +kernel
theorem dX11_wayOf_27 : decode cX11_wayOf 27 = .ok (.ifCond .ne 13, 3) := by decide +kernel
theorem dX11_wayOf_30 : decode cX11_wayOf 30 = .ok (.iload_n 2, 1) := by decide +kernel
theorem dX11_wayOf_31 : decode cX11_wayOf 31 = .ok (.ifCond .ne 7, 3) := by decide +kernel
theorem dX11_wayOf_34 : decode cX11_wayOf 34 = .ok (.iconst 0, 1) := by decide +kernel
theorem dX11_wayOf_35 : decode cX11_wayOf 35 = .ok (.goto 4, 3) := by decide +kernel
theorem dX11_wayOf_38 : decode cX11_wayOf 38 = .ok (.iconst (-1), 1) := by decide +kernel
theorem dX11_wayOf_39 : decode cX11_wayOf 39 = .ok (.ireturn, 1) := by decide +kernel
theorem dX11_wayOf_40 : decode cX11_wayOf 40 = .ok (.iload_n 2, 1) := by decide +kernel
theorem dX11_wayOf_41 : decode cX11_wayOf 41 = .ok (.iconst 0, 1) := by decide +kernel
theorem dX11_wayOf_42 : decode cX11_wayOf 42 = .ok (.iload_n 3, 1) := by decide +kernel
theorem dX11_wayOf_43 : decode cX11_wayOf 43 = .ok (.iconst 1, 1) := by decide +kernel
theorem dX11_wayOf_44 : decode cX11_wayOf 44 = .ok (.isub, 1) := by decide +kernel
theorem dX11_wayOf_45 : decode cX11_wayOf 45 = .ok (.invokestatic 68, 3) := by decide +kernel
theorem dX11_wayOf_48 : decode cX11_wayOf 48 = .ok (.ifCond .ne 7, 3) := by decide +kernel
theorem dX11_wayOf_51 : decode cX11_wayOf 51 = .ok (.iconst (-1), 1) := by decide +kernel
theorem dX11_wayOf_52 : decode cX11_wayOf 52 = .ok (.goto 49, 3) := by decide +kernel
theorem dX11_wayOf_55 : decode cX11_wayOf 55 = .ok (.iload_n 2, 1) := by decide +kernel
theorem dX11_wayOf_56 : decode cX11_wayOf 56 = .ok (.bipush 7, 2) := by decide +kernel
theorem dX11_wayOf_58 : decode cX11_wayOf 58 = .ok (.if_icmp .ge 23, 3) := by decide +kernel
theorem dX11_wayOf_61 : decode cX11_wayOf 61 = .ok (.aload_n 0, 1) := by decide +kernel
theorem dX11_wayOf_62 : decode cX11_wayOf 62 = .ok (.getfield 13, 3) := by decide +kernel
theorem dX11_wayOf_65 : decode cX11_wayOf 65 = .ok (.iload_n 1, 1) := by decide +kernel
theorem dX11_wayOf_66 : decode cX11_wayOf 66 = .ok (.iconst 2, 1) := by decide +kernel
theorem dX11_wayOf_67 : decode cX11_wayOf 67 = .ok (.invokestatic 261, 3) := by decide +kernel
theorem dX11_wayOf_70 : decode cX11_wayOf 70 = .ok (.iaload, 1) := by decide +kernel
theorem dX11_wayOf_71 : decode cX11_wayOf 71 = .ok (.iconst 4, 1) := by decide +kernel
theorem dX11_wayOf_72 : decode cX11_wayOf 72 = .ok (.iload_n 2, 1) := by decide +kernel
theorem dX11_wayOf_73 : decode cX11_wayOf 73 = .ok (.imul, 1) := by decide +kernel
theorem dX11_wayOf_74 : decode cX11_wayOf 74 = .ok (.ishr, 1) := by decide +kernel
theorem dX11_wayOf_75 : decode cX11_wayOf 75 = .ok (.bipush 15, 2) := by decide +kernel
theorem dX11_wayOf_77 : decode cX11_wayOf 77 = .ok (.iand, 1) := by decide +kernel
theorem dX11_wayOf_78 : decode cX11_wayOf 78 = .ok (.goto 23, 3) := by decide +kernel
theorem dX11_wayOf_81 : decode cX11_wayOf 81 = .ok (.aload_n 0, 1) := by decide +kernel
theorem dX11_wayOf_82 : decode cX11_wayOf 82 = .ok (.getfield 13, 3) := by decide +kernel
theorem dX11_wayOf_85 : decode cX11_wayOf 85 = .ok (.iload_n 1, 1) := by decide +kernel
theorem dX11_wayOf_86 : decode cX11_wayOf 86 = .ok (.iconst 3, 1) := by decide +kernel
theorem dX11_wayOf_87 : decode cX11_wayOf 87 = .ok (.invokestatic 261, 3) := by decide +kernel
theorem dX11_wayOf_90 : decode cX11_wayOf 90 = .ok (.iaload, 1) := by decide +kernel
theorem dX11_wayOf_91 : decode cX11_wayOf 91 = .ok (.iconst 4, 1) := by decide +kernel
theorem dX11_wayOf_92 : decode cX11_wayOf 92 = .ok (.iload_n 2, 1) := by decide +kernel
theorem dX11_wayOf_93 : decode cX11_wayOf 93 = .ok (.bipush 7, 2) := by decide +kernel
theorem dX11_wayOf_95 : decode cX11_wayOf 95 = .ok (.isub, 1) := by decide +kernel
theorem dX11_wayOf_96 : decode cX11_wayOf 96 = .ok (.imul, 1) := by decide +kernel
theorem dX11_wayOf_97 : decode cX11_wayOf 97 = .ok (.ishr, 1) := by decide +kernel
theorem dX11_wayOf_98 : decode cX11_wayOf 98 = .ok (.bipush 15, 2) := by decide +kernel
theorem dX11_wayOf_100 : decode cX11_wayOf 100 = .ok (.iand, 1) := by decide +kernel
theorem dX11_wayOf_101 : decode cX11_wayOf 101 = .ok (.ireturn, 1) := by decide +kernel
theorem dX11_way_0 : decode cX11_way 0 = .ok (.aload_n 0, 1) := by decide +kernel
theorem dX11_way_1 : decode cX11_way 1 = .ok (.iconst 0, 1) := by decide +kernel
theorem dX11_way_2 : decode cX11_way 2 = .ok (.putfield 3, 3) := by decide +kernel
theorem dX11_way_5 : decode cX11_way 5 = .ok (.aload_n 0, 1) := by decide +kernel
theorem dX11_way_6 : decode cX11_way 6 = .ok (.aload_n 0, 1) := by decide +kernel
theorem dX11_way_7 : decode cX11_way 7 = .ok (.iload_n 1, 1) := by decide +kernel
theorem dX11_way_8 : decode cX11_way 8 = .ok (.invokevirtual 322, 3) := by decide +kernel
theorem dX11_way_11 : decode cX11_way 11 = .ok (.iconst 1, 1) := by decide +kernel
theorem dX11_way_12 : decode cX11_way 12 = .ok (.invokevirtual 93, 3) := by decide +kernel
theorem dX11_way_15 : decode cX11_way 15 = .ok (.ifCond .eq 7, 3) := by decide +kernel
theorem dX11_way_18 : decode cX11_way 18 = .ok (.iconst 0, 1) := by decide +kernel
theorem dX11_way_19 : decode cX11_way 19 = .ok (.goto 9, 3) := by decide +kernel
theorem dX11_way_22 : decode cX11_way 22 = .ok (.aload_n 0, 1) := by decide +kernel
theorem dX11_way_23 : decode cX11_way 23 = .ok (.iload_n 1, 1) := by decide +kernel
theorem dX11_way_24 : decode cX11_way 24 = .ok (.iload_n 2, 1) := by decide +kernel
theorem dX11_way_25 : decode cX11_way 25 = .ok (.invokevirtual 325, 3) := by decide +kernel
theorem dX11_way_28 : decode cX11_way 28 = .ok (.ireturn, 1) := by decide +kernel
theorem dX11_late_0 : decode cX11_late 0 = .ok (.aload_n 0, 1) := by decide +kernel
theorem dX11_late_1 : decode cX11_late 1 = .ok (.iconst 0, 1) := by decide +kernel
theorem dX11_late_2 : decode cX11_late 2 = .ok (.putfield 3, 3) := by decide +kernel
theorem dX11_late_5 : decode cX11_late 5 = .ok (.aload_n 0, 1) := by decide +kernel
theorem dX11_late_6 : decode cX11_late 6 = .ok (.aload_n 0, 1) := by decide +kernel
theorem dX11_late_7 : decode cX11_late 7 = .ok (.iload_n 1, 1) := by decide +kernel
theorem dX11_late_8 : decode cX11_late 8 = .ok (.invokevirtual 322, 3) := by decide +kernel
theorem dX11_late_11 : decode cX11_late 11 = .ok (.iconst 1, 1) := by decide +kernel
theorem dX11_late_12 : decode cX11_late 12 = .ok (.invokevirtual 93, 3) := by decide +kernel
theorem dX11_late_15 : decode cX11_late 15 = .ok (.ifCond .eq 5, 3) := by decide +kernel
theorem dX11_late_18 : decode cX11_late 18 = .ok (.iconst 0, 1) := by decide +kernel
theorem dX11_late_19 : decode cX11_late 19 = .ok (.ireturn, 1) := by decide +kernel
theorem dX11_late_20 : decode cX11_late 20 = .ok (.aload_n 0, 1) := by decide +kernel
theorem dX11_late_21 : decode cX11_late 21 = .ok (.getfield 13, 3) := by decide +kernel
theorem dX11_late_24 : decode cX11_late 24 = .ok (.iload_n 1, 1) := by decide +kernel
theorem dX11_late_25 : decode cX11_late 25 = .ok (.iconst 0, 1) := by decide +kernel
theorem dX11_late_26 : decode cX11_late 26 = .ok (.invokestatic 261, 3) := by decide +kernel
theorem dX11_late_29 : decode cX11_late 29 = .ok (.iaload, 1) := by decide +kernel
theorem dX11_late_30 : decode cX11_late 30 = .ok (.istore_n 2, 1) := by decide +kernel
theorem dX11_late_31 : decode cX11_late 31 = .ok (.iload_n 2, 1) := by decide +kernel
theorem dX11_late_32 : decode cX11_late 32 = .ok (.ifCond .ge 7, 3) := by decide +kernel
theorem dX11_late_35 : decode cX11_late 35 = .ok (.iconst (-1), 1) := by decide +kernel
theorem dX11_late_36 : decode cX11_late 36 = .ok (.goto 11, 3) := by decide +kernel
theorem dX11_late_39 : decode cX11_late 39 = .ok (.iload_n 2, 1) := by decide +kernel
theorem dX11_late_40 : decode cX11_late 40 = .ok (.aload_n 0, 1) := by decide +kernel
theorem dX11_late_41 : decode cX11_late 41 = .ok (.iload_n 1, 1) := by decide +kernel
theorem dX11_late_42 : decode cX11_late 42 = .ok (.iconst 2, 1) := by decide +kernel
theorem dX11_late_43 : decode cX11_late 43 = .ok (.invokevirtual 240, 3) := by decide +kernel
theorem dX11_late_46 : decode cX11_late 46 = .ok (.isub, 1) := by decide +kernel
theorem dX11_late_47 : decode cX11_late 47 = .ok (.ireturn, 1) := by decide +kernel
theorem dX11_rumour_0 : decode cX11_rumour 0 = .ok (.aload_n 0, 1) := by decide +kernel
theorem dX11_rumour_1 : decode cX11_rumour 1 = .ok (.iconst 0, 1) := by decide +kernel
theorem dX11_rumour_2 : decode cX11_rumour 2 = .ok (.putfield 3, 3) := by decide +kernel
theorem dX11_rumour_5 : decode cX11_rumour 5 = .ok (.aload_n 0, 1) := by decide +kernel
theorem dX11_rumour_6 : decode cX11_rumour 6 = .ok (.aload_n 0, 1) := by decide +kernel
theorem dX11_rumour_7 : decode cX11_rumour 7 = .ok (.iload_n 1, 1) := by decide +kernel
theorem dX11_rumour_8 : decode cX11_rumour 8 = .ok (.invokevirtual 322, 3) := by decide +kernel
theorem dX11_rumour_11 : decode cX11_rumour 11 = .ok (.iconst 1, 1) := by decide +kernel
theorem dX11_rumour_12 : decode cX11_rumour 12 = .ok (.invokevirtual 93, 3) := by decide +kernel
theorem dX11_rumour_15 : decode cX11_rumour 15 = .ok (.ifCond .eq 5, 3) := by decide +kernel
theorem dX11_rumour_18 : decode cX11_rumour 18 = .ok (.iconst 0, 1) := by decide +kernel
theorem dX11_rumour_19 : decode cX11_rumour 19 = .ok (.ireturn, 1) := by decide +kernel
theorem dX11_rumour_20 : decode cX11_rumour 20 = .ok (.aload_n 0, 1) := by decide +kernel
theorem dX11_rumour_21 : decode cX11_rumour 21 = .ok (.iload_n 1, 1) := by decide +kernel
theorem dX11_rumour_22 : decode cX11_rumour 22 = .ok (.iconst 0, 1) := by decide +kernel
theorem dX11_rumour_23 : decode cX11_rumour 23 = .ok (.invokevirtual 240, 3) := by decide +kernel
theorem dX11_rumour_26 : decode cX11_rumour 26 = .ok (.iconst 1, 1) := by decide +kernel
theorem dX11_rumour_27 : decode cX11_rumour 27 = .ok (.if_icmp .eq 13, 3) := by decide +kernel
theorem dX11_rumour_30 : decode cX11_rumour 30 = .ok (.aload_n 0, 1) := by decide +kernel
theorem dX11_rumour_31 : decode cX11_rumour 31 = .ok (.iload_n 1, 1) := by decide +kernel
theorem dX11_rumour_32 : decode cX11_rumour 32 = .ok (.iconst 0, 1) := by decide +kernel
theorem dX11_rumour_33 : decode cX11_rumour 33 = .ok (.invokevirtual 240, 3) := by decide +kernel
theorem dX11_rumour_36 : decode cX11_rumour 36 = .ok (.iconst 2, 1) := by decide +kernel
theorem dX11_rumour_37 : decode cX11_rumour 37 = .ok (.if_icmp .ne 7, 3) := by decide +kernel
theorem dX11_rumour_40 : decode cX11_rumour 40 = .ok (.iconst 1, 1) := by decide +kernel
theorem dX11_rumour_41 : decode cX11_rumour 41 = .ok (.goto 4, 3) := by decide +kernel
theorem dX11_rumour_44 : decode cX11_rumour 44 = .ok (.iconst 0, 1) := by decide +kernel
theorem dX11_rumour_45 : decode cX11_rumour 45 = .ok (.istore_n 2, 1) := by decide +kernel
theorem dX11_rumour_46 : decode cX11_rumour 46 = .ok (.aload_n 0, 1) := by decide +kernel
theorem dX11_rumour_47 : decode cX11_rumour 47 = .ok (.getfield 13, 3) := by decide +kernel
theorem dX11_rumour_50 : decode cX11_rumour 50 = .ok (.iload_n 1, 1) := by decide +kernel
theorem dX11_rumour_51 : decode cX11_rumour 51 = .ok (.iconst 0, 1) := by decide +kernel
theorem dX11_rumour_52 : decode cX11_rumour 52 = .ok (.invokestatic 261, 3) := by decide +kernel
theorem dX11_rumour_55 : decode cX11_rumour 55 = .ok (.iaload, 1) := by decide +kernel
theorem dX11_rumour_56 : decode cX11_rumour 56 = .ok (.ifCond .lt 20, 3) := by decide +kernel
theorem dX11_rumour_59 : decode cX11_rumour 59 = .ok (.iload_n 2, 1) := by decide +kernel
theorem dX11_rumour_60 : decode cX11_rumour 60 = .ok (.ifCond .eq 16, 3) := by decide +kernel
theorem dX11_rumour_63 : decode cX11_rumour 63 = .ok (.aload_n 0, 1) := by decide +kernel
theorem dX11_rumour_64 : decode cX11_rumour 64 = .ok (.iload_n 1, 1) := by decide +kernel
theorem dX11_rumour_65 : decode cX11_rumour 65 = .ok (.bipush 7, 2) := by decide +kernel
theorem dX11_rumour_67 : decode cX11_rumour 67 = .ok (.invokevirtual 240, 3) := by decide +kernel
theorem dX11_rumour_70 : decode cX11_rumour 70 = .ok (.sipush 9999, 3) := by decide +kernel
theorem dX11_rumour_73 : decode cX11_rumour 73 = .ok (.if_icmp .ne 5, 3) := by decide +kernel
theorem dX11_rumour_76 : decode cX11_rumour 76 = .ok (.iconst (-1), 1) := by decide +kernel
theorem dX11_rumour_77 : decode cX11_rumour 77 = .ok (.ireturn, 1) := by decide +kernel
theorem dX11_rumour_78 : decode cX11_rumour 78 = .ok (.iconst 0, 1) := by decide +kernel
theorem dX11_rumour_79 : decode cX11_rumour 79 = .ok (.istore_n 3, 1) := by decide +kernel
theorem dX11_rumour_80 : decode cX11_rumour 80 = .ok (.iload_n 3, 1) := by decide +kernel
theorem dX11_rumour_81 : decode cX11_rumour 81 = .ok (.aload_n 0, 1) := by decide +kernel
theorem dX11_rumour_82 : decode cX11_rumour 82 = .ok (.getfield 13, 3) := by decide +kernel
theorem dX11_rumour_85 : decode cX11_rumour 85 = .ok (.iload_n 1, 1) := by decide +kernel
theorem dX11_rumour_86 : decode cX11_rumour 86 = .ok (.iconst 4, 1) := by decide +kernel
theorem dX11_rumour_87 : decode cX11_rumour 87 = .ok (.invokestatic 261, 3) := by decide +kernel
theorem dX11_rumour_90 : decode cX11_rumour 90 = .ok (.iaload, 1) := by decide +kernel
theorem dX11_rumour_91 : decode cX11_rumour 91 = .ok (.if_icmp .ge 30, 3) := by decide +kernel
theorem dX11_rumour_94 : decode cX11_rumour 94 = .ok (.aload_n 0, 1) := by decide +kernel
theorem dX11_rumour_95 : decode cX11_rumour 95 = .ok (.aload_n 0, 1) := by decide +kernel
theorem dX11_rumour_96 : decode cX11_rumour 96 = .ok (.iload_n 1, 1) := by decide +kernel
theorem dX11_rumour_97 : decode cX11_rumour 97 = .ok (.iload_n 3, 1) := by decide +kernel
theorem dX11_rumour_98 : decode cX11_rumour 98 = .ok (.invokevirtual 325, 3) := by decide +kernel
theorem dX11_rumour_101 : decode cX11_rumour 101 = .ok (.iconst 2, 1) := by decide +kernel
theorem dX11_rumour_102 : decode cX11_rumour 102 = .ok (.invokevirtual 110, 3) := by decide +kernel
theorem dX11_rumour_105 : decode cX11_rumour 105 = .ok (.ifCond .le 10, 3) := by decide +kernel
theorem dX11_rumour_108 : decode cX11_rumour 108 = .ok (.aload_n 0, 1) := by decide +kernel
theorem dX11_rumour_109 : decode cX11_rumour 109 = .ok (.iload_n 1, 1) := by decide +kernel
theorem dX11_rumour_110 : decode cX11_rumour 110 = .ok (.iload_n 3, 1) := by decide +kernel
theorem dX11_rumour_111 : decode cX11_rumour 111 = .ok (.invokevirtual 325, 3) := by decide +kernel
theorem dX11_rumour_114 : decode cX11_rumour 114 = .ok (.ireturn, 1) := by decide +kernel
theorem dX11_rumour_115 : decode cX11_rumour 115 = .ok (.iinc 3 1, 3) := by decide +kernel
theorem dX11_rumour_118 : decode cX11_rumour 118 = .ok (.goto (-38), 3) := by decide +kernel
theorem dX11_rumour_121 : decode cX11_rumour 121 = .ok (.iconst (-1), 1) := by decide +kernel
theorem dX11_rumour_122 : decode cX11_rumour 122 = .ok (.ireturn, 1) := by decide +kernel
theorem dX11_wasHad_0 : decode cX11_wasHad 0 = .ok (.aload_n 0, 1) := by decide +kernel
theorem dX11_wasHad_1 : decode cX11_wasHad 1 = .ok (.getfield 13, 3) := by decide +kernel
theorem dX11_wasHad_4 : decode cX11_wasHad 4 = .ok (.iload_n 1, 1) := by decide +kernel
theorem dX11_wasHad_5 : decode cX11_wasHad 5 = .ok (.iconst 0, 1) := by decide +kernel
theorem dX11_wasHad_6 : decode cX11_wasHad 6 = .ok (.invokestatic 261, 3) := by decide +kernel
theorem dX11_wasHad_9 : decode cX11_wasHad 9 = .ok (.iaload, 1) := by decide +kernel
theorem dX11_wasHad_10 : decode cX11_wasHad 10 = .ok (.iconst 0, 1) := by decide +kernel
theorem dX11_wasHad_11 : decode cX11_wasHad 11 = .ok (.iload_n 2, 1) := by decide +kernel
theorem dX11_wasHad_12 : decode cX11_wasHad 12 = .ok (.invokestatic 68, 3) := by decide +kernel
theorem dX11_wasHad_15 : decode cX11_wasHad 15 = .ok (.ireturn, 1) := by decide +kernel
theorem dX11_gathers_0 : decode cX11_gathers 0 = .ok (.aload_n 0, 1) := by decide +kernel
theorem dX11_gathers_1 : decode cX11_gathers 1 = .ok (.iconst 0, 1) := by decide +kernel
theorem dX11_gathers_2 : decode cX11_gathers 2 = .ok (.putfield 328, 3) := by decide +kernel
theorem dX11_gathers_5 : decode cX11_gathers 5 = .ok (.iconst 0, 1) := by decide +kernel
theorem dX11_gathers_6 : decode cX11_gathers 6 = .ok (.istore_n 3, 1) := by decide +kernel
theorem dX11_gathers_7 : decode cX11_gathers 7 = .ok (.iload_n 3, 1) := by decide +kernel
theorem dX11_gathers_8 : decode cX11_gathers 8 = .ok (.aload_n 0, 1) := by decide +kernel
theorem dX11_gathers_9 : decode cX11_gathers 9 = .ok (.invokevirtual 72, 3) := by decide +kernel
theorem dX11_gathers_12 : decode cX11_gathers 12 = .ok (.if_icmp .ge 124, 3) := by decide +kernel
theorem dX11_gathers_15 : decode cX11_gathers 15 = .ok (.aload_n 0, 1) := by decide +kernel
theorem dX11_gathers_16 : decode cX11_gathers 16 = .ok (.iload_n 3, 1) := by decide +kernel
theorem dX11_gathers_17 : decode cX11_gathers 17 = .ok (.iconst 0, 1) := by decide +kernel
theorem dX11_gathers_18 : decode cX11_gathers 18 = .ok (.invokevirtual 240, 3) := by decide +kernel
theorem dX11_gathers_21 : decode cX11_gathers 21 = .ok (.iconst 1, 1) := by decide +kernel
theorem dX11_gathers_22 : decode cX11_gathers 22 = .ok (.if_icmp .gt 108, 3) := by decide +kernel
theorem dX11_gathers_25 : decode cX11_gathers 25 = .ok (.aload_n 0, 1) := by decide +kernel
theorem dX11_gathers_26 : decode cX11_gathers 26 = .ok (.iload_n 3, 1) := by decide +kernel
theorem dX11_gathers_27 : decode cX11_gathers 27 = .ok (.iconst 4, 1) := by decide +kernel
theorem dX11_gathers_28 : decode cX11_gathers 28 = .ok (.invokevirtual 240, 3) := by decide +kernel
theorem dX11_gathers_31 : decode cX11_gathers 31 = .ok (.iload_n 1, 1) := by decide +kernel
theorem dX11_gathers_32 : decode cX11_gathers 32 = .ok (.if_icmp .ne 98, 3) := by decide +kernel
theorem dX11_gathers_35 : decode cX11_gathers 35 = .ok (.aload_n 0, 1) := by decide +kernel
theorem dX11_gathers_36 : decode cX11_gathers 36 = .ok (.iload_n 3, 1) := by decide +kernel
theorem dX11_gathers_37 : decode cX11_gathers 37 = .ok (.iload_n 2, 1) := by decide +kernel
theorem dX11_gathers_38 : decode cX11_gathers 38 = .ok (.invokevirtual 331, 3) := by decide +kernel
theorem dX11_gathers_41 : decode cX11_gathers 41 = .ok (.ifCond .ne 6, 3) := by decide +kernel
theorem dX11_gathers_44 : decode cX11_gathers 44 = .ok (.goto 86, 3) := by decide +kernel
theorem dX11_gathers_47 : decode cX11_gathers 47 = .ok (.iconst 0, 1) := by decide +kernel
theorem dX11_gathers_48 : decode cX11_gathers 48 = .ok (.istore 4, 2) := by decide +kernel
theorem dX11_gathers_50 : decode cX11_gathers 50 = .ok (.iconst 0, 1) := by decide +kernel
theorem dX11_gathers_51 : decode cX11_gathers 51 = .ok (.istore 5, 2) := by decide +kernel
theorem dX11_gathers_53 : decode cX11_gathers 53 = .ok (.iload 5, 2) := by decide +kernel
theorem dX11_gathers_55 : decode cX11_gathers 55 = .ok (.aload_n 0, 1) := by decide +kernel
theorem dX11_gathers_56 : decode cX11_gathers 56 = .ok (.invokevirtual 72, 3) := by decide +kernel
theorem dX11_gathers_59 : decode cX11_gathers 59 = .ok (.if_icmp .ge 43, 3) := by decide +kernel
theorem dX11_gathers_62 : decode cX11_gathers 62 = .ok (.iload 4, 2) := by decide +kernel
theorem dX11_gathers_64 : decode cX11_gathers 64 = .ok (.ifCond .ne 25, 3) := by decide +kernel
theorem dX11_gathers_67 : decode cX11_gathers 67 = .ok (.aload_n 0, 1) := by decide +kernel
theorem dX11_gathers_68 : decode cX11_gathers 68 = .ok (.iload 5, 2) := by decide +kernel
theorem dX11_gathers_70 : decode cX11_gathers 70 = .ok (.bipush 8, 2) := by decide +kernel
theorem dX11_gathers_72 : decode cX11_gathers 72 = .ok (.invokevirtual 240, 3) := by decide +kernel
theorem dX11_gathers_75 : decode cX11_gathers 75 = .ok (.iload_n 3, 1) := by decide +kernel
theorem dX11_gathers_76 : decode cX11_gathers 76 = .ok (.if_icmp .ne 17, 3) := by decide +kernel
theorem dX11_gathers_79 : decode cX11_gathers 79 = .ok (.aload_n 0, 1) := by decide +kernel
theorem dX11_gathers_80 : decode cX11_gathers 80 = .ok (.iload 5, 2) := by decide +kernel
theorem dX11_gathers_82 : decode cX11_gathers 82 = .ok (.iload_n 2, 1) := by decide +kernel
theorem dX11_gathers_83 : decode cX11_gathers 83 = .ok (.invokevirtual 331, 3) := by decide +kernel
theorem dX11_gathers_86 : decode cX11_gathers 86 = .ok (.ifCond .eq 7, 3) := by decide +kernel
theorem dX11_gathers_89 : decode cX11_gathers 89 = .ok (.iconst 1, 1) := by decide +kernel
theorem dX11_gathers_90 : decode cX11_gathers 90 = .ok (.goto 4, 3) := by decide +kernel
theorem dX11_gathers_93 : decode cX11_gathers 93 = .ok (.iconst 0, 1) := by decide +kernel
theorem dX11_gathers_94 : decode cX11_gathers 94 = .ok (.istore 4, 2) := by decide +kernel
theorem dX11_gathers_96 : decode cX11_gathers 96 = .ok (.iinc 5 1, 3) := by decide +kernel
theorem dX11_gathers_99 : decode cX11_gathers 99 = .ok (.goto (-46), 3) := by decide +kernel
theorem dX11_gathers_102 : decode cX11_gathers 102 = .ok (.iload 4, 2) := by decide +kernel
theorem dX11_gathers_104 : decode cX11_gathers 104 = .ok (.ifCond .eq 6, 3) := by decide +kernel
theorem dX11_gathers_107 : decode cX11_gathers 107 = .ok (.goto 23, 3) := by decide +kernel
theorem dX11_gathers_110 : decode cX11_gathers 110 = .ok (.aload_n 0, 1) := by decide +kernel
theorem dX11_gathers_111 : decode cX11_gathers 111 = .ok (.getfield 49, 3) := by decide +kernel
theorem dX11_gathers_114 : decode cX11_gathers 114 = .ok (.aload_n 0, 1) := by decide +kernel
theorem dX11_gathers_115 : decode cX11_gathers 115 = .ok (.getfield 328, 3) := by decide +kernel
theorem dX11_gathers_118 : decode cX11_gathers 118 = .ok (.iload_n 3, 1) := by decide +kernel
theorem dX11_gathers_119 : decode cX11_gathers 119 = .ok (.iastore, 1) := by decide +kernel
theorem dX11_gathers_120 : decode cX11_gathers 120 = .ok (.aload_n 0, 1) := by decide +kernel
theorem dX11_gathers_121 : decode cX11_gathers 121 = .ok (.dup, 1) := by decide +kernel
theorem dX11_gathers_122 : decode cX11_gathers 122 = .ok (.getfield 328, 3) := by decide +kernel
theorem dX11_gathers_125 : decode cX11_gathers 125 = .ok (.iconst 1, 1) := by decide +kernel
theorem dX11_gathers_126 : decode cX11_gathers 126 = .ok (.iadd, 1) := by decide +kernel
theorem dX11_gathers_127 : decode cX11_gathers 127 = .ok (.putfield 328, 3) := by decide +kernel
theorem dX11_gathers_130 : decode cX11_gathers 130 = .ok (.iinc 3 1, 3) := by decide +kernel
theorem dX11_gathers_133 : decode cX11_gathers 133 = .ok (.goto (-126), 3) := by decide +kernel
theorem dX11_gathers_136 : decode cX11_gathers 136 = .ok (.return_, 1) := by decide +kernel
theorem dX11_against_0 : decode cX11_against 0 = .ok (.aload_n 0, 1) := by decide +kernel
theorem dX11_against_1 : decode cX11_against 1 = .ok (.iload_n 1, 1) := by decide +kernel
theorem dX11_against_2 : decode cX11_against 2 = .ok (.iconst 5, 1) := by decide +kernel
theorem dX11_against_3 : decode cX11_against 3 = .ok (.invokevirtual 240, 3) := by decide +kernel
theorem dX11_against_6 : decode cX11_against 6 = .ok (.aload_n 0, 1) := by decide +kernel
theorem dX11_against_7 : decode cX11_against 7 = .ok (.iload_n 2, 1) := by decide +kernel
theorem dX11_against_8 : decode cX11_against 8 = .ok (.iconst 5, 1) := by decide +kernel
theorem dX11_against_9 : decode cX11_against 9 = .ok (.invokevirtual 240, 3) := by decide +kernel
theorem dX11_against_12 : decode cX11_against 12 = .ok (.invokestatic 334, 3) := by decide +kernel
theorem dX11_against_15 : decode cX11_against 15 = .ok (.aload_n 0, 1) := by decide +kernel
theorem dX11_against_16 : decode cX11_against 16 = .ok (.getfield 20, 3) := by decide +kernel
theorem dX11_against_19 : decode cX11_against 19 = .ok (.bipush 6, 2) := by decide +kernel
theorem dX11_against_21 : decode cX11_against 21 = .ok (.iaload, 1) := by decide +kernel
theorem dX11_against_22 : decode cX11_against 22 = .ok (.aload_n 0, 1) := by decide +kernel
theorem dX11_against_23 : decode cX11_against 23 = .ok (.iload_n 1, 1) := by decide +kernel
theorem dX11_against_24 : decode cX11_against 24 = .ok (.bipush 6, 2) := by decide +kernel
theorem dX11_against_26 : decode cX11_against 26 = .ok (.invokevirtual 240, 3) := by decide +kernel
theorem dX11_against_29 : decode cX11_against 29 = .ok (.aload_n 0, 1) := by decide +kernel
theorem dX11_against_30 : decode cX11_against 30 = .ok (.iload_n 2, 1) := by decide +kernel
theorem dX11_against_31 : decode cX11_against 31 = .ok (.bipush 6, 2) := by decide +kernel
theorem dX11_against_33 : decode cX11_against 33 = .ok (.invokevirtual 240, 3) := by decide +kernel
theorem dX11_against_36 : decode cX11_against 36 = .ok (.isub, 1) := by decide +kernel
theorem dX11_against_37 : decode cX11_against 37 = .ok (.invokestatic 75, 3) := by decide +kernel
theorem dX11_against_40 : decode cX11_against 40 = .ok (.imul, 1) := by decide +kernel
theorem dX11_against_41 : decode cX11_against 41 = .ok (.if_icmp .le 7, 3) := by decide +kernel
theorem dX11_against_44 : decode cX11_against 44 = .ok (.iconst 1, 1) := by decide +kernel
theorem dX11_against_45 : decode cX11_against 45 = .ok (.goto 4, 3) := by decide +kernel
theorem dX11_against_48 : decode cX11_against 48 = .ok (.iconst 0, 1) := by decide +kernel
theorem dX11_against_49 : decode cX11_against 49 = .ok (.ireturn, 1) := by decide +kernel
theorem dX11_sayings_0 : decode cX11_sayings 0 = .ok (.aload_n 0, 1) := by decide +kernel
theorem dX11_sayings_1 : decode cX11_sayings 1 = .ok (.iconst 0, 1) := by decide +kernel
theorem dX11_sayings_2 : decode cX11_sayings 2 = .ok (.putfield 3, 3) := by decide +kernel
theorem dX11_sayings_5 : decode cX11_sayings 5 = .ok (.aload_n 0, 1) := by decide +kernel
theorem dX11_sayings_6 : decode cX11_sayings 6 = .ok (.iload_n 1, 1) := by decide +kernel
theorem dX11_sayings_7 : decode cX11_sayings 7 = .ok (.invokestatic 312, 3) := by decide +kernel
theorem dX11_sayings_10 : decode cX11_sayings 10 = .ok (.iconst 1, 1) := by decide +kernel
theorem dX11_sayings_11 : decode cX11_sayings 11 = .ok (.invokevirtual 93, 3) := by decide +kernel
theorem dX11_sayings_14 : decode cX11_sayings 14 = .ok (.ifCond .eq 5, 3) := by decide +kernel
theorem dX11_sayings_17 : decode cX11_sayings 17 = .ok (.iconst 0, 1) := by decide +kernel
theorem dX11_sayings_18 : decode cX11_sayings 18 = .ok (.ireturn, 1) := by decide +kernel
theorem dX11_sayings_19 : decode cX11_sayings 19 = .ok (.aload_n 0, 1) := by decide +kernel
theorem dX11_sayings_20 : decode cX11_sayings 20 = .ok (.iload_n 1, 1) := by decide +kernel
theorem dX11_sayings_21 : decode cX11_sayings 21 = .ok (.iload_n 2, 1) := by decide +kernel
theorem dX11_sayings_22 : decode cX11_sayings 22 = .ok (.invokevirtual 337, 3) := by decide +kernel
theorem dX11_sayings_25 : decode cX11_sayings 25 = .ok (.iconst 0, 1) := by decide +kernel
theorem dX11_sayings_26 : decode cX11_sayings 26 = .ok (.istore 4, 2) := by decide +kernel
theorem dX11_sayings_28 : decode cX11_sayings 28 = .ok (.iconst 0, 1) := by decide +kernel
theorem dX11_sayings_29 : decode cX11_sayings 29 = .ok (.istore 5, 2) := by decide +kernel
theorem dX11_sayings_31 : decode cX11_sayings 31 = .ok (.iload 5, 2) := by decide +kernel
theorem dX11_sayings_33 : decode cX11_sayings 33 = .ok (.aload_n 0, 1) := by decide +kernel
theorem dX11_sayings_34 : decode cX11_sayings 34 = .ok (.getfield 328, 3) := by decide +kernel
theorem dX11_sayings_37 : decode cX11_sayings 37 = .ok (.if_icmp .ge 28, 3) := by decide +kernel
theorem dX11_sayings_40 : decode cX11_sayings 40 = .ok (.iload 4, 2) := by decide +kernel
theorem dX11_sayings_42 : decode cX11_sayings 42 = .ok (.iconst 1, 1) := by decide +kernel
theorem dX11_sayings_43 : decode cX11_sayings 43 = .ok (.aload_n 0, 1) := by decide +kernel
theorem dX11_sayings_44 : decode cX11_sayings 44 = .ok (.aload_n 0, 1) := by decide +kernel
theorem dX11_sayings_45 : decode cX11_sayings 45 = .ok (.getfield 49, 3) := by decide +kernel
theorem dX11_sayings_48 : decode cX11_sayings 48 = .ok (.iload 5, 2) := by decide +kernel
theorem dX11_sayings_50 : decode cX11_sayings 50 = .ok (.iaload, 1) := by decide +kernel
theorem dX11_sayings_51 : decode cX11_sayings 51 = .ok (.iconst 1, 1) := by decide +kernel
theorem dX11_sayings_52 : decode cX11_sayings 52 = .ok (.invokevirtual 240, 3) := by decide +kernel
theorem dX11_sayings_55 : decode cX11_sayings 55 = .ok (.ishl, 1) := by decide +kernel
theorem dX11_sayings_56 : decode cX11_sayings 56 = .ok (.ior, 1) := by decide +kernel
theorem dX11_sayings_57 : decode cX11_sayings 57 = .ok (.istore 4, 2) := by decide +kernel
theorem dX11_sayings_59 : decode cX11_sayings 59 = .ok (.iinc 5 1, 3) := by decide +kernel
theorem dX11_sayings_62 : decode cX11_sayings 62 = .ok (.goto (-31), 3) := by decide +kernel
theorem dX11_sayings_65 : decode cX11_sayings 65 = .ok (.iload_n 3, 1) := by decide +kernel
theorem dX11_sayings_66 : decode cX11_sayings 66 = .ok (.ifCond .eq 11, 3) := by decide +kernel
theorem dX11_sayings_69 : decode cX11_sayings 69 = .ok (.iload 4, 2) := by decide +kernel
theorem dX11_sayings_71 : decode cX11_sayings 71 = .ok (.invokestatic 340, 3) := by decide +kernel
theorem dX11_sayings_74 : decode cX11_sayings 74 = .ok (.goto 7, 3) := by decide +kernel
theorem dX11_sayings_77 : decode cX11_sayings 77 = .ok (.aload_n 0, 1) := by decide +kernel
theorem dX11_sayings_78 : decode cX11_sayings 78 = .ok (.getfield 328, 3) := by decide +kernel
theorem dX11_sayings_81 : decode cX11_sayings 81 = .ok (.ireturn, 1) := by decide +kernel
theorem dX11_speed_0 : decode cX11_speed 0 = .ok (.aload_n 0, 1) := by decide +kernel
theorem dX11_speed_1 : decode cX11_speed 1 = .ok (.iconst 0, 1) := by decide +kernel
theorem dX11_speed_2 : decode cX11_speed 2 = .ok (.putfield 3, 3) := by decide +kernel
theorem dX11_speed_5 : decode cX11_speed 5 = .ok (.aload_n 0, 1) := by decide +kernel
theorem dX11_speed_6 : decode cX11_speed 6 = .ok (.iload_n 1, 1) := by decide +kernel
theorem dX11_speed_7 : decode cX11_speed 7 = .ok (.iconst 1, 1) := by decide +kernel
theorem dX11_speed_8 : decode cX11_speed 8 = .ok (.bipush 8, 2) := by decide +kernel
theorem dX11_speed_10 : decode cX11_speed 10 = .ok (.invokestatic 68, 3) := by decide +kernel
theorem dX11_speed_13 : decode cX11_speed 13 = .ok (.ifCond .ne 7, 3) := by decide +kernel
theorem dX11_speed_16 : decode cX11_speed 16 = .ok (.iconst 1, 1) := by decide +kernel
theorem dX11_speed_17 : decode cX11_speed 17 = .ok (.goto 4, 3) := by decide +kernel
theorem dX11_speed_20 : decode cX11_speed 20 = .ok (.iconst 0, 1) := by decide +kernel
theorem dX11_speed_21 : decode cX11_speed 21 = .ok (.iconst 1, 1) := by decide +kernel
theorem dX11_speed_22 : decode cX11_speed 22 = .ok (.invokevirtual 93, 3) := by decide +kernel
theorem dX11_speed_25 : decode cX11_speed 25 = .ok (.ifCond .eq 4, 3) := by decide +kernel
theorem dX11_speed_28 : decode cX11_speed 28 = .ok (.return_, 1) := by decide +kernel
theorem dX11_speed_29 : decode cX11_speed 29 = .ok (.aload_n 0, 1) := by decide +kernel
theorem dX11_speed_30 : decode cX11_speed 30 = .ok (.getfield 20, 3) := by decide +kernel
theorem dX11_speed_33 : decode cX11_speed 33 = .ok (.bipush 6, 2) := by decide +kernel
theorem dX11_speed_35 : decode cX11_speed 35 = .ok (.iload_n 1, 1) := by decide +kernel
theorem dX11_speed_36 : decode cX11_speed 36 = .ok (.iastore, 1) := by decide +kernel
theorem dX11_speed_37 : decode cX11_speed 37 = .ok (.return_, 1) := by decide +kernel
theorem dX11_couldBe_0 : decode cX11_couldBe 0 = .ok (.aload_n 0, 1) := by decide +kernel
theorem dX11_couldBe_1 : decode cX11_couldBe 1 = .ok (.iload_n 1, 1) := by decide +kernel
theorem dX11_couldBe_2 : decode cX11_couldBe 2 = .ok (.iload_n 3, 1) := by decide +kernel
theorem dX11_couldBe_3 : decode cX11_couldBe 3 = .ok (.invokevirtual 337, 3) := by decide +kernel
theorem dX11_couldBe_6 : decode cX11_couldBe 6 = .ok (.iconst 0, 1) := by decide +kernel
theorem dX11_couldBe_7 : decode cX11_couldBe 7 = .ok (.istore 4, 2) := by decide +kernel
theorem dX11_couldBe_9 : decode cX11_couldBe 9 = .ok (.iconst 0, 1) := by decide +kernel
theorem dX11_couldBe_10 : decode cX11_couldBe 10 = .ok (.istore 5, 2) := by decide +kernel
theorem dX11_couldBe_12 : decode cX11_couldBe 12 = .ok (.iload 5, 2) := by decide +kernel
theorem dX11_couldBe_14 : decode cX11_couldBe 14 = .ok (.bipush 16, 2) := by decide +kernel
theorem dX11_couldBe_16 : decode cX11_couldBe 16 = .ok (.if_icmp .ge 106, 3) := by decide +kernel
theorem dX11_couldBe_19 : decode cX11_couldBe 19 = .ok (.iconst 1, 1) := by decide +kernel
theorem dX11_couldBe_20 : decode cX11_couldBe 20 = .ok (.istore 6, 2) := by decide +kernel
theorem dX11_couldBe_22 : decode cX11_couldBe 22 = .ok (.iconst 0, 1) := by decide +kernel
theorem dX11_couldBe_23 : decode cX11_couldBe 23 = .ok (.istore 7, 2) := by decide +kernel
theorem dX11_couldBe_25 : decode cX11_couldBe 25 = .ok (.iload 7, 2) := by decide +kernel
theorem dX11_couldBe_27 : decode cX11_couldBe 27 = .ok (.aload_n 0, 1) := by decide +kernel
theorem dX11_couldBe_28 : decode cX11_couldBe 28 = .ok (.getfield 328, 3) := by decide +kernel
theorem dX11_couldBe_31 : decode cX11_couldBe 31 = .ok (.if_icmp .ge 67, 3) := by decide +kernel
theorem dX11_couldBe_34 : decode cX11_couldBe 34 = .ok (.iload 6, 2) := by decide +kernel
theorem dX11_couldBe_36 : decode cX11_couldBe 36 = .ok (.ifCond .eq 53, 3) := by decide +kernel
theorem dX11_couldBe_39 : decode cX11_couldBe 39 = .ok (.iload 5, 2) := by decide +kernel
theorem dX11_couldBe_41 : decode cX11_couldBe 41 = .ok (.aload_n 0, 1) := by decide +kernel
theorem dX11_couldBe_42 : decode cX11_couldBe 42 = .ok (.aload_n 0, 1) := by decide +kernel
theorem dX11_couldBe_43 : decode cX11_couldBe 43 = .ok (.getfield 49, 3) := by decide +kernel
theorem dX11_couldBe_46 : decode cX11_couldBe 46 = .ok (.iload 7, 2) := by decide +kernel
theorem dX11_couldBe_48 : decode cX11_couldBe 48 = .ok (.iaload, 1) := by decide +kernel
theorem dX11_couldBe_49 : decode cX11_couldBe 49 = .ok (.iconst 5, 1) := by decide +kernel
theorem dX11_couldBe_50 : decode cX11_couldBe 50 = .ok (.invokevirtual 240, 3) := by decide +kernel
theorem dX11_couldBe_53 : decode cX11_couldBe 53 = .ok (.invokestatic 334, 3) := by decide +kernel
theorem dX11_couldBe_56 : decode cX11_couldBe 56 = .ok (.aload_n 0, 1) := by decide +kernel
theorem dX11_couldBe_57 : decode cX11_couldBe 57 = .ok (.getfield 20, 3) := by decide +kernel
theorem dX11_couldBe_60 : decode cX11_couldBe 60 = .ok (.bipush 6, 2) := by decide +kernel
theorem dX11_couldBe_62 : decode cX11_couldBe 62 = .ok (.iaload, 1) := by decide +kernel
theorem dX11_couldBe_63 : decode cX11_couldBe 63 = .ok (.iload_n 2, 1) := by decide +kernel
theorem dX11_couldBe_64 : decode cX11_couldBe 64 = .ok (.aload_n 0, 1) := by decide +kernel
theorem dX11_couldBe_65 : decode cX11_couldBe 65 = .ok (.aload_n 0, 1) := by decide +kernel
theorem dX11_couldBe_66 : decode cX11_couldBe 66 = .ok (.getfield 49, 3) := by decide +kernel
theorem dX11_couldBe_69 : decode cX11_couldBe 69 = .ok (.iload 7, 2) := by decide +kernel
theorem dX11_couldBe_71 : decode cX11_couldBe 71 = .ok (.iaload, 1) := by decide +kernel
theorem dX11_couldBe_72 : decode cX11_couldBe 72 = .ok (.bipush 6, 2) := by decide +kernel
theorem dX11_couldBe_74 : decode cX11_couldBe 74 = .ok (.invokevirtual 240, 3) := by decide +kernel
theorem dX11_couldBe_77 : decode cX11_couldBe 77 = .ok (.isub, 1) := by decide +kernel
theorem dX11_couldBe_78 : decode cX11_couldBe 78 = .ok (.invokestatic 75, 3) := by decide +kernel
theorem dX11_couldBe_81 : decode cX11_couldBe 81 = .ok (.imul, 1) := by decide +kernel
theorem dX11_couldBe_82 : decode cX11_couldBe 82 = .ok (.if_icmp .gt 7, 3) := by decide +kernel
theorem dX11_couldBe_85 : decode cX11_couldBe 85 = .ok (.iconst 1, 1) := by decide +kernel
theorem dX11_couldBe_86 : decode cX11_couldBe 86 = .ok (.goto 4, 3) := by decide +kernel
theorem dX11_couldBe_89 : decode cX11_couldBe 89 = .ok (.iconst 0, 1) := by decide +kernel
theorem dX11_couldBe_90 : decode cX11_couldBe 90 = .ok (.istore 6, 2) := by decide +kernel
theorem dX11_couldBe_92 : decode cX11_couldBe 92 = .ok (.iinc 7 1, 3) := by decide +kernel
theorem dX11_couldBe_95 : decode cX11_couldBe 95 = .ok (.goto (-70), 3) := by decide +kernel
theorem dX11_couldBe_98 : decode cX11_couldBe 98 = .ok (.iload 4, 2) := by decide +kernel
theorem dX11_couldBe_100 : decode cX11_couldBe 100 = .ok (.iload 6, 2) := by decide +kernel
theorem dX11_couldBe_102 : decode cX11_couldBe 102 = .ok (.ifCond .eq 10, 3) := by decide +kernel
theorem dX11_couldBe_105 : decode cX11_couldBe 105 = .ok (.iconst 1, 1) := by decide +kernel
theorem dX11_couldBe_106 : decode cX11_couldBe 106 = .ok (.iload 5, 2) := by decide +kernel
theorem dX11_couldBe_108 : decode cX11_couldBe 108 = .ok (.ishl, 1) := by decide +kernel
theorem dX11_couldBe_109 : decode cX11_couldBe 109 = .ok (.goto 4, 3) := by decide +kernel
theorem dX11_couldBe_112 : decode cX11_couldBe 112 = .ok (.iconst 0, 1) := by decide +kernel
theorem dX11_couldBe_113 : decode cX11_couldBe 113 = .ok (.ior, 1) := by decide +kernel
theorem dX11_couldBe_114 : decode cX11_couldBe 114 = .ok (.istore 4, 2) := by decide +kernel
theorem dX11_couldBe_116 : decode cX11_couldBe 116 = .ok (.iinc 5 1, 3) := by decide +kernel
theorem dX11_couldBe_119 : decode cX11_couldBe 119 = .ok (.goto (-107), 3) := by decide +kernel
theorem dX11_couldBe_122 : decode cX11_couldBe 122 = .ok (.iload 4, 2) := by decide +kernel
theorem dX11_couldBe_124 : decode cX11_couldBe 124 = .ok (.ireturn, 1) := by decide +kernel
theorem dX11_could_0 : decode cX11_could 0 = .ok (.aload_n 0, 1) := by decide +kernel
theorem dX11_could_1 : decode cX11_could 1 = .ok (.iconst 0, 1) := by decide +kernel
theorem dX11_could_2 : decode cX11_could 2 = .ok (.putfield 3, 3) := by decide +kernel
theorem dX11_could_5 : decode cX11_could 5 = .ok (.aload_n 0, 1) := by decide +kernel
theorem dX11_could_6 : decode cX11_could 6 = .ok (.iload_n 1, 1) := by decide +kernel
theorem dX11_could_7 : decode cX11_could 7 = .ok (.invokestatic 312, 3) := by decide +kernel
theorem dX11_could_10 : decode cX11_could 10 = .ok (.iconst 1, 1) := by decide +kernel
theorem dX11_could_11 : decode cX11_could 11 = .ok (.invokevirtual 93, 3) := by decide +kernel
theorem dX11_could_14 : decode cX11_could 14 = .ok (.ifCond .ne 27, 3) := by decide +kernel
theorem dX11_could_17 : decode cX11_could 17 = .ok (.aload_n 0, 1) := by decide +kernel
theorem dX11_could_18 : decode cX11_could 18 = .ok (.iload_n 2, 1) := by decide +kernel
theorem dX11_could_19 : decode cX11_could 19 = .ok (.iconst 0, 1) := by decide +kernel
theorem dX11_could_20 : decode cX11_could 20 = .ok (.sipush 400, 3) := by decide +kernel
theorem dX11_could_23 : decode cX11_could 23 = .ok (.invokestatic 68, 3) := by decide +kernel
theorem dX11_could_26 : decode cX11_could 26 = .ok (.ifCond .ne 7, 3) := by decide +kernel
theorem dX11_could_29 : decode cX11_could 29 = .ok (.iconst 1, 1) := by decide +kernel
theorem dX11_could_30 : decode cX11_could 30 = .ok (.goto 4, 3) := by decide +kernel
theorem dX11_could_33 : decode cX11_could 33 = .ok (.iconst 0, 1) := by decide +kernel
theorem dX11_could_34 : decode cX11_could 34 = .ok (.iconst 2, 1) := by decide +kernel
theorem dX11_could_35 : decode cX11_could 35 = .ok (.invokevirtual 93, 3) := by decide +kernel
theorem dX11_could_38 : decode cX11_could 38 = .ok (.ifCond .eq 7, 3) := by decide +kernel
theorem dX11_could_41 : decode cX11_could 41 = .ok (.iconst 0, 1) := by decide +kernel
theorem dX11_could_42 : decode cX11_could 42 = .ok (.goto 10, 3) := by decide +kernel
theorem dX11_could_45 : decode cX11_could 45 = .ok (.aload_n 0, 1) := by decide +kernel
theorem dX11_could_46 : decode cX11_could 46 = .ok (.iload_n 1, 1) := by decide +kernel
theorem dX11_could_47 : decode cX11_could 47 = .ok (.iload_n 2, 1) := by decide +kernel
theorem dX11_could_48 : decode cX11_could 48 = .ok (.iload_n 3, 1) := by decide +kernel
theorem dX11_could_49 : decode cX11_could 49 = .ok (.invokevirtual 345, 3) := by decide +kernel
theorem dX11_could_52 : decode cX11_could 52 = .ok (.ireturn, 1) := by decide +kernel
theorem dX11_least_0 : decode cX11_least 0 = .ok (.aload_n 0, 1) := by decide +kernel
theorem dX11_least_1 : decode cX11_least 1 = .ok (.iconst 0, 1) := by decide +kernel
theorem dX11_least_2 : decode cX11_least 2 = .ok (.putfield 3, 3) := by decide +kernel
theorem dX11_least_5 : decode cX11_least 5 = .ok (.aload_n 0, 1) := by decide +kernel
theorem dX11_least_6 : decode cX11_least 6 = .ok (.iload_n 1, 1) := by decide +kernel
theorem dX11_least_7 : decode cX11_least 7 = .ok (.invokestatic 312, 3) := by decide +kernel
theorem dX11_least_10 : decode cX11_least 10 = .ok (.iconst 1, 1) := by decide +kernel
theorem dX11_least_11 : decode cX11_least 11 = .ok (.invokevirtual 93, 3) := by decide +kernel
theorem dX11_least_14 : decode cX11_least 14 = .ok (.ifCond .eq 5, 3) := by decide +kernel
theorem dX11_least_17 : decode cX11_least 17 = .ok (.iconst 0, 1) := by decide +kernel
theorem dX11_least_18 : decode cX11_least 18 = .ok (.ireturn, 1) := by decide +kernel
theorem dX11_least_19 : decode cX11_least 19 = .ok (.aload_n 0, 1) := by decide +kernel
theorem dX11_least_20 : decode cX11_least 20 = .ok (.iload_n 1, 1) := by decide +kernel
theorem dX11_least_21 : decode cX11_least 21 = .ok (.iload_n 2, 1) := by decide +kernel
theorem dX11_least_22 : decode cX11_least 22 = .ok (.invokevirtual 337, 3) := by decide +kernel
theorem dX11_least_25 : decode cX11_least 25 = .ok (.bipush 10, 2) := by decide +kernel
theorem dX11_least_27 : decode cX11_least 27 = .ok (.aload_n 0, 1) := by decide +kernel
theorem dX11_least_28 : decode cX11_least 28 = .ok (.getfield 328, 3) := by decide +kernel
theorem dX11_least_31 : decode cX11_least 31 = .ok (.invokestatic 280, 3) := by decide +kernel
theorem dX11_least_34 : decode cX11_least 34 = .ok (.istore 4, 2) := by decide +kernel
theorem dX11_least_36 : decode cX11_least 36 = .ok (.iconst 1, 1) := by decide +kernel
theorem dX11_least_37 : decode cX11_least 37 = .ok (.iload 4, 2) := by decide +kernel
theorem dX11_least_39 : decode cX11_least 39 = .ok (.ishl, 1) := by decide +kernel
theorem dX11_least_40 : decode cX11_least 40 = .ok (.iconst 1, 1) := by decide +kernel
theorem dX11_least_41 : decode cX11_least 41 = .ok (.isub, 1) := by decide +kernel
theorem dX11_least_42 : decode cX11_least 42 = .ok (.istore 5, 2) := by decide +kernel
theorem dX11_least_44 : decode cX11_least 44 = .ok (.iconst 0, 1) := by decide +kernel
theorem dX11_least_45 : decode cX11_least 45 = .ok (.istore 6, 2) := by decide +kernel
theorem dX11_least_47 : decode cX11_least 47 = .ok (.iload 6, 2) := by decide +kernel
theorem dX11_least_49 : decode cX11_least 49 = .ok (.iconst 1, 1) := by decide +kernel
theorem dX11_least_50 : decode cX11_least 50 = .ok (.iload 4, 2) := by decide +kernel
theorem dX11_least_52 : decode cX11_least 52 = .ok (.ishl, 1) := by decide +kernel
theorem dX11_least_53 : decode cX11_least 53 = .ok (.if_icmp .ge 132, 3) := by decide +kernel
theorem dX11_least_56 : decode cX11_least 56 = .ok (.iload 6, 2) := by decide +kernel
theorem dX11_least_58 : decode cX11_least 58 = .ok (.invokestatic 340, 3) := by decide +kernel
theorem dX11_least_61 : decode cX11_least 61 = .ok (.iload 5, 2) := by decide +kernel
theorem dX11_least_63 : decode cX11_least 63 = .ok (.invokestatic 340, 3) := by decide +kernel
theorem dX11_least_66 : decode cX11_least 66 = .ok (.if_icmp .lt 6, 3) := by decide +kernel
theorem dX11_least_69 : decode cX11_least 69 = .ok (.goto 110, 3) := by decide +kernel
theorem dX11_least_72 : decode cX11_least 72 = .ok (.iconst 1, 1) := by decide +kernel
theorem dX11_least_73 : decode cX11_least 73 = .ok (.istore 7, 2) := by decide +kernel
theorem dX11_least_75 : decode cX11_least 75 = .ok (.iconst 0, 1) := by decide +kernel
theorem dX11_least_76 : decode cX11_least 76 = .ok (.istore 8, 2) := by decide +kernel
theorem dX11_least_78 : decode cX11_least 78 = .ok (.iload 8, 2) := by decide +kernel
theorem dX11_least_80 : decode cX11_least 80 = .ok (.iload 4, 2) := by decide +kernel
theorem dX11_least_82 : decode cX11_least 82 = .ok (.if_icmp .ge 88, 3) := by decide +kernel
theorem dX11_least_85 : decode cX11_least 85 = .ok (.iload 7, 2) := by decide +kernel
theorem dX11_least_87 : decode cX11_least 87 = .ok (.ifCond .eq 83, 3) := by decide +kernel
theorem dX11_least_90 : decode cX11_least 90 = .ok (.iload 8, 2) := by decide +kernel
theorem dX11_least_92 : decode cX11_least 92 = .ok (.iconst 1, 1) := by decide +kernel
theorem dX11_least_93 : decode cX11_least 93 = .ok (.iadd, 1) := by decide +kernel
theorem dX11_least_94 : decode cX11_least 94 = .ok (.istore 9, 2) := by decide +kernel
theorem dX11_least_96 : decode cX11_least 96 = .ok (.iload 9, 2) := by decide +kernel
theorem dX11_least_98 : decode cX11_least 98 = .ok (.iload 4, 2) := by decide +kernel
theorem dX11_least_100 : decode cX11_least 100 = .ok (.if_icmp .ge 64, 3) := by decide +kernel
theorem dX11_least_103 : decode cX11_least 103 = .ok (.iload 7, 2) := by decide +kernel
theorem dX11_least_105 : decode cX11_least 105 = .ok (.ifCond .eq 59, 3) := by decide +kernel
theorem dX11_least_108 : decode cX11_least 108 = .ok (.iload 6, 2) := by decide +kernel
theorem dX11_least_110 : decode cX11_least 110 = .ok (.iload 8, 2) := by decide +kernel
theorem dX11_least_112 : decode cX11_least 112 = .ok (.ishr, 1) := by decide +kernel
theorem dX11_least_113 : decode cX11_least 113 = .ok (.iconst 1, 1) := by decide +kernel
theorem dX11_least_114 : decode cX11_least 114 = .ok (.iand, 1) := by decide +kernel
theorem dX11_least_115 : decode cX11_least 115 = .ok (.iconst 1, 1) := by decide +kernel
theorem dX11_least_116 : decode cX11_least 116 = .ok (.if_icmp .eq 35, 3) := by decide +kernel
theorem dX11_least_119 : decode cX11_least 119 = .ok (.iload 6, 2) := by decide +kernel
theorem dX11_least_121 : decode cX11_least 121 = .ok (.iload 9, 2) := by decide +kernel
theorem dX11_least_123 : decode cX11_least 123 = .ok (.ishr, 1) := by decide +kernel
theorem dX11_least_124 : decode cX11_least 124 = .ok (.iconst 1, 1) := by decide +kernel
theorem dX11_least_125 : decode cX11_least 125 = .ok (.iand, 1) := by decide +kernel
theorem dX11_least_126 : decode cX11_least 126 = .ok (.iconst 1, 1) := by decide +kernel
theorem dX11_least_127 : decode cX11_least 127 = .ok (.if_icmp .eq 24, 3) := by decide +kernel
theorem dX11_least_130 : decode cX11_least 130 = .ok (.aload_n 0, 1) := by decide +kernel
theorem dX11_least_131 : decode cX11_least 131 = .ok (.aload_n 0, 1) := by decide +kernel
theorem dX11_least_132 : decode cX11_least 132 = .ok (.getfield 49, 3) := by decide +kernel
theorem dX11_least_135 : decode cX11_least 135 = .ok (.iload 8, 2) := by decide +kernel
theorem dX11_least_137 : decode cX11_least 137 = .ok (.iaload, 1) := by decide +kernel
theorem dX11_least_138 : decode cX11_least 138 = .ok (.aload_n 0, 1) := by decide +kernel
theorem dX11_least_139 : decode cX11_least 139 = .ok (.getfield 49, 3) := by decide +kernel
theorem dX11_least_142 : decode cX11_least 142 = .ok (.iload 9, 2) := by decide +kernel
theorem dX11_least_144 : decode cX11_least 144 = .ok (.iaload, 1) := by decide +kernel
theorem dX11_least_145 : decode cX11_least 145 = .ok (.invokevirtual 348, 3) := by decide +kernel
theorem dX11_least_148 : decode cX11_least 148 = .ok (.ifCond .ne 7, 3) := by decide +kernel
theorem dX11_least_151 : decode cX11_least 151 = .ok (.iconst 1, 1) := by decide +kernel
theorem dX11_least_152 : decode cX11_least 152 = .ok (.goto 4, 3) := by decide +kernel
theorem dX11_least_155 : decode cX11_least 155 = .ok (.iconst 0, 1) := by decide +kernel
theorem dX11_least_156 : decode cX11_least 156 = .ok (.istore 7, 2) := by decide +kernel
theorem dX11_least_158 : decode cX11_least 158 = .ok (.iinc 9 1, 3) := by decide +kernel
theorem dX11_least_161 : decode cX11_least 161 = .ok (.goto (-65), 3) := by decide +kernel
theorem dX11_least_164 : decode cX11_least 164 = .ok (.iinc 8 1, 3) := by decide +kernel
theorem dX11_least_167 : decode cX11_least 167 = .ok (.goto (-89), 3) := by decide +kernel
theorem dX11_least_170 : decode cX11_least 170 = .ok (.iload 7, 2) := by decide +kernel
theorem dX11_least_172 : decode cX11_least 172 = .ok (.ifCond .eq 7, 3) := by decide +kernel
theorem dX11_least_175 : decode cX11_least 175 = .ok (.iload 6, 2) := by decide +kernel
theorem dX11_least_177 : decode cX11_least 177 = .ok (.istore 5, 2) := by decide +kernel
theorem dX11_least_179 : decode cX11_least 179 = .ok (.iinc 6 1, 3) := by decide +kernel
theorem dX11_least_182 : decode cX11_least 182 = .ok (.goto (-135), 3) := by decide +kernel
theorem dX11_least_185 : decode cX11_least 185 = .ok (.iload_n 3, 1) := by decide +kernel
theorem dX11_least_186 : decode cX11_least 186 = .ok (.ifCond .eq 8, 3) := by decide +kernel
theorem dX11_least_189 : decode cX11_least 189 = .ok (.iload 5, 2) := by decide +kernel
theorem dX11_least_191 : decode cX11_least 191 = .ok (.goto 8, 3) := by decide +kernel
theorem dX11_least_194 : decode cX11_least 194 = .ok (.iload 5, 2) := by decide +kernel
theorem dX11_least_196 : decode cX11_least 196 = .ok (.invokestatic 340, 3) := by decide +kernel
theorem dX11_least_199 : decode cX11_least 199 = .ok (.ireturn, 1) := by decide +kernel
theorem dX11_judge_0 : decode cX11_judge 0 = .ok (.aload_n 0, 1) := by decide +kernel
theorem dX11_judge_1 : decode cX11_judge 1 = .ok (.iconst 0, 1) := by decide +kernel
theorem dX11_judge_2 : decode cX11_judge 2 = .ok (.putfield 3, 3) := by decide +kernel
theorem dX11_judge_5 : decode cX11_judge 5 = .ok (.aload_n 0, 1) := by decide +kernel
theorem dX11_judge_6 : decode cX11_judge 6 = .ok (.aload_n 0, 1) := by decide +kernel
theorem dX11_judge_7 : decode cX11_judge 7 = .ok (.iload_n 1, 1) := by decide +kernel
theorem dX11_judge_8 : decode cX11_judge 8 = .ok (.invokevirtual 322, 3) := by decide +kernel
theorem dX11_judge_11 : decode cX11_judge 11 = .ok (.iconst 1, 1) := by decide +kernel
theorem dX11_judge_12 : decode cX11_judge 12 = .ok (.invokevirtual 93, 3) := by decide +kernel
theorem dX11_judge_15 : decode cX11_judge 15 = .ok (.ifCond .eq 5, 3) := by decide +kernel
theorem dX11_judge_18 : decode cX11_judge 18 = .ok (.iconst 0, 1) := by decide +kernel
theorem dX11_judge_19 : decode cX11_judge 19 = .ok (.ireturn, 1) := by decide +kernel
theorem dX11_judge_20 : decode cX11_judge 20 = .ok (.sipush 761, 3) := by decide +kernel
theorem dX11_judge_23 : decode cX11_judge 23 = .ok (.bipush 10, 2) := by decide +kernel
theorem dX11_judge_25 : decode cX11_judge 25 = .ok (.iload_n 1, 1) := by decide +kernel
theorem dX11_judge_26 : decode cX11_judge 26 = .ok (.imul, 1) := by decide +kernel
theorem dX11_judge_27 : decode cX11_judge 27 = .ok (.iadd, 1) := by decide +kernel
theorem dX11_judge_28 : decode cX11_judge 28 = .ok (.bipush 9, 2) := by decide +kernel
theorem dX11_judge_30 : decode cX11_judge 30 = .ok (.iadd, 1) := by decide +kernel
theorem dX11_judge_31 : decode cX11_judge 31 = .ok (.istore_n 3, 1) := by decide +kernel
theorem dX11_judge_32 : decode cX11_judge 32 = .ok (.iload_n 2, 1) := by decide +kernel
theorem dX11_judge_33 : decode cX11_judge 33 = .ok (.ifCond .eq 7, 3) := by decide +kernel
theorem dX11_judge_36 : decode cX11_judge 36 = .ok (.iconst 1, 1) := by decide +kernel
theorem dX11_judge_37 : decode cX11_judge 37 = .ok (.goto 4, 3) := by decide +kernel
theorem dX11_judge_40 : decode cX11_judge 40 = .ok (.iconst 2, 1) := by decide +kernel
theorem dX11_judge_41 : decode cX11_judge 41 = .ok (.istore 4, 2) := by decide +kernel
theorem dX11_judge_43 : decode cX11_judge 43 = .ok (.aload_n 0, 1) := by decide +kernel
theorem dX11_judge_44 : decode cX11_judge 44 = .ok (.getfield 20, 3) := by decide +kernel
theorem dX11_judge_47 : decode cX11_judge 47 = .ok (.iload_n 3, 1) := by decide +kernel
theorem dX11_judge_48 : decode cX11_judge 48 = .ok (.iaload, 1) := by decide +kernel
theorem dX11_judge_49 : decode cX11_judge 49 = .ok (.iload 4, 2) := by decide +kernel
theorem dX11_judge_51 : decode cX11_judge 51 = .ok (.if_icmp .ne 5, 3) := by decide +kernel
theorem dX11_judge_54 : decode cX11_judge 54 = .ok (.iconst 0, 1) := by decide +kernel
theorem dX11_judge_55 : decode cX11_judge 55 = .ok (.ireturn, 1) := by decide +kernel
theorem dX11_judge_56 : decode cX11_judge 56 = .ok (.aload_n 0, 1) := by decide +kernel
theorem dX11_judge_57 : decode cX11_judge 57 = .ok (.getfield 20, 3) := by decide +kernel
theorem dX11_judge_60 : decode cX11_judge 60 = .ok (.iload_n 3, 1) := by decide +kernel
theorem dX11_judge_61 : decode cX11_judge 61 = .ok (.iload 4, 2) := by decide +kernel
theorem dX11_judge_63 : decode cX11_judge 63 = .ok (.iastore, 1) := by decide +kernel
theorem dX11_judge_64 : decode cX11_judge 64 = .ok (.iconst 1, 1) := by decide +kernel
theorem dX11_judge_65 : decode cX11_judge 65 = .ok (.ireturn, 1) := by decide +kernel
theorem dX11_weightOf_0 : decode cX11_weightOf 0 = .ok (.iconst 1, 1) := by decide +kernel
theorem dX11_weightOf_1 : decode cX11_weightOf 1 = .ok (.istore_n 2, 1) := by decide +kernel
theorem dX11_weightOf_2 : decode cX11_weightOf 2 = .ok (.iconst 2, 1) := by decide +kernel
theorem dX11_weightOf_3 : decode cX11_weightOf 3 = .ok (.istore_n 3, 1) := by decide +kernel
theorem dX11_weightOf_4 : decode cX11_weightOf 4 = .ok (.iconst 0, 1) := by decide +kernel
theorem dX11_weightOf_5 : decode cX11_weightOf 5 = .ok (.istore 4, 2) := by decide +kernel
theorem dX11_weightOf_7 : decode cX11_weightOf 7 = .ok (.iload 4, 2) := by decide +kernel
theorem dX11_weightOf_9 : decode cX11_weightOf 9 = .ok (.aload_n 0, 1) := by decide +kernel
theorem dX11_weightOf_10 : decode cX11_weightOf 10 = .ok (.invokevirtual 72, 3) := by decide +kernel
theorem dX11_weightOf_13 : decode cX11_weightOf 13 = .ok (.if_icmp .ge 57, 3) := by decide +kernel
theorem dX11_weightOf_16 : decode cX11_weightOf 16 = .ok (.aload_n 0, 1) := by decide +kernel
theorem dX11_weightOf_17 : decode cX11_weightOf 17 = .ok (.iload 4, 2) := by decide +kernel
theorem dX11_weightOf_19 : decode cX11_weightOf 19 = .ok (.iconst 1, 1) := by decide +kernel
theorem dX11_weightOf_20 : decode cX11_weightOf 20 = .ok (.invokevirtual 240, 3) := by decide +kernel
theorem dX11_weightOf_23 : decode cX11_weightOf 23 = .ok (.iload_n 1, 1) := by decide +kernel
theorem dX11_weightOf_24 : decode cX11_weightOf 24 = .ok (.if_icmp .ne 40, 3) := by decide +kernel
theorem dX11_weightOf_27 : decode cX11_weightOf 27 = .ok (.aload_n 0, 1) := by decide +kernel
theorem dX11_weightOf_28 : decode cX11_weightOf 28 = .ok (.iload 4, 2) := by decide +kernel
theorem dX11_weightOf_30 : decode cX11_weightOf 30 = .ok (.bipush 9, 2) := by decide +kernel
theorem dX11_weightOf_32 : decode cX11_weightOf 32 = .ok (.invokevirtual 240, 3) := by decide +kernel
theorem dX11_weightOf_35 : decode cX11_weightOf 35 = .ok (.ifCond .ne 6, 3) := by decide +kernel
theorem dX11_weightOf_38 : decode cX11_weightOf 38 = .ok (.goto 26, 3) := by decide +kernel
theorem dX11_weightOf_41 : decode cX11_weightOf 41 = .ok (.iinc 3 1, 3) := by decide +kernel
theorem dX11_weightOf_44 : decode cX11_weightOf 44 = .ok (.iload_n 2, 1) := by decide +kernel
theorem dX11_weightOf_45 : decode cX11_weightOf 45 = .ok (.aload_n 0, 1) := by decide +kernel
theorem dX11_weightOf_46 : decode cX11_weightOf 46 = .ok (.iload 4, 2) := by decide +kernel
theorem dX11_weightOf_48 : decode cX11_weightOf 48 = .ok (.bipush 9, 2) := by decide +kernel
theorem dX11_weightOf_50 : decode cX11_weightOf 50 = .ok (.invokevirtual 240, 3) := by decide +kernel
theorem dX11_weightOf_53 : decode cX11_weightOf 53 = .ok (.iconst 1, 1) := by decide +kernel
theorem dX11_weightOf_54 : decode cX11_weightOf 54 = .ok (.if_icmp .ne 7, 3) := by decide +kernel
theorem dX11_weightOf_57 : decode cX11_weightOf 57 = .ok (.iconst 1, 1) := by decide +kernel
theorem dX11_weightOf_58 : decode cX11_weightOf 58 = .ok (.goto 4, 3) := by decide +kernel
theorem dX11_weightOf_61 : decode cX11_weightOf 61 = .ok (.iconst 0, 1) := by decide +kernel
theorem dX11_weightOf_62 : decode cX11_weightOf 62 = .ok (.iadd, 1) := by decide +kernel
theorem dX11_weightOf_63 : decode cX11_weightOf 63 = .ok (.istore_n 2, 1) := by decide +kernel
theorem dX11_weightOf_64 : decode cX11_weightOf 64 = .ok (.iinc 4 1, 3) := by decide +kernel
theorem dX11_weightOf_67 : decode cX11_weightOf 67 = .ok (.goto (-60), 3) := by decide +kernel
theorem dX11_weightOf_70 : decode cX11_weightOf 70 = .ok (.sipush 1000, 3) := by decide +kernel
theorem dX11_weightOf_73 : decode cX11_weightOf 73 = .ok (.iload_n 2, 1) := by decide +kernel
theorem dX11_weightOf_74 : decode cX11_weightOf 74 = .ok (.imul, 1) := by decide +kernel
theorem dX11_weightOf_75 : decode cX11_weightOf 75 = .ok (.iload_n 3, 1) := by decide +kernel
theorem dX11_weightOf_76 : decode cX11_weightOf 76 = .ok (.idiv, 1) := by decide +kernel
theorem dX11_weightOf_77 : decode cX11_weightOf 77 = .ok (.ireturn, 1) := by decide +kernel
theorem dX11_weight_0 : decode cX11_weight 0 = .ok (.aload_n 0, 1) := by decide +kernel
theorem dX11_weight_1 : decode cX11_weight 1 = .ok (.iconst 0, 1) := by decide +kernel
theorem dX11_weight_2 : decode cX11_weight 2 = .ok (.putfield 3, 3) := by decide +kernel
theorem dX11_weight_5 : decode cX11_weight 5 = .ok (.aload_n 0, 1) := by decide +kernel
theorem dX11_weight_6 : decode cX11_weight 6 = .ok (.aload_n 0, 1) := by decide +kernel
theorem dX11_weight_7 : decode cX11_weight 7 = .ok (.iload_n 1, 1) := by decide +kernel
theorem dX11_weight_8 : decode cX11_weight 8 = .ok (.invokevirtual 104, 3) := by decide +kernel
theorem dX11_weight_11 : decode cX11_weight 11 = .ok (.iconst 1, 1) := by decide +kernel
theorem dX11_weight_12 : decode cX11_weight 12 = .ok (.invokevirtual 93, 3) := by decide +kernel
theorem dX11_weight_15 : decode cX11_weight 15 = .ok (.ifCond .eq 7, 3) := by decide +kernel
theorem dX11_weight_18 : decode cX11_weight 18 = .ok (.iconst 0, 1) := by decide +kernel
theorem dX11_weight_19 : decode cX11_weight 19 = .ok (.goto 8, 3) := by decide +kernel
theorem dX11_weight_22 : decode cX11_weight 22 = .ok (.aload_n 0, 1) := by decide +kernel
theorem dX11_weight_23 : decode cX11_weight 23 = .ok (.iload_n 1, 1) := by decide +kernel
theorem dX11_weight_24 : decode cX11_weight 24 = .ok (.invokevirtual 351, 3) := by decide +kernel
theorem dX11_weight_27 : decode cX11_weight 27 = .ok (.ireturn, 1) := by decide +kernel
theorem dX11_sure_0 : decode cX11_sure 0 = .ok (.aload_n 0, 1) := by decide +kernel
theorem dX11_sure_1 : decode cX11_sure 1 = .ok (.iconst 0, 1) := by decide +kernel
theorem dX11_sure_2 : decode cX11_sure 2 = .ok (.putfield 3, 3) := by decide +kernel
theorem dX11_sure_5 : decode cX11_sure 5 = .ok (.aload_n 0, 1) := by decide +kernel
theorem dX11_sure_6 : decode cX11_sure 6 = .ok (.iload_n 1, 1) := by decide +kernel
theorem dX11_sure_7 : decode cX11_sure 7 = .ok (.invokestatic 312, 3) := by decide +kernel
theorem dX11_sure_10 : decode cX11_sure 10 = .ok (.ifCond .ne 10, 3) := by decide +kernel
theorem dX11_sure_13 : decode cX11_sure 13 = .ok (.iload_n 2, 1) := by decide +kernel
theorem dX11_sure_14 : decode cX11_sure 14 = .ok (.invokestatic 89, 3) := by decide +kernel
theorem dX11_sure_17 : decode cX11_sure 17 = .ok (.ifCond .eq 7, 3) := by decide +kernel
theorem dX11_sure_20 : decode cX11_sure 20 = .ok (.iconst 1, 1) := by decide +kernel
theorem dX11_sure_21 : decode cX11_sure 21 = .ok (.goto 4, 3) := by decide +kernel
theorem dX11_sure_24 : decode cX11_sure 24 = .ok (.iconst 0, 1) := by decide +kernel
theorem dX11_sure_25 : decode cX11_sure 25 = .ok (.iconst 1, 1) := by decide +kernel
theorem dX11_sure_26 : decode cX11_sure 26 = .ok (.invokevirtual 93, 3) := by decide +kernel
theorem dX11_sure_29 : decode cX11_sure 29 = .ok (.ifCond .eq 5, 3) := by decide +kernel
theorem dX11_sure_32 : decode cX11_sure 32 = .ok (.iconst 0, 1) := by decide +kernel
theorem dX11_sure_33 : decode cX11_sure 33 = .ok (.ireturn, 1) := by decide +kernel
theorem dX11_sure_34 : decode cX11_sure 34 = .ok (.aload_n 0, 1) := by decide +kernel
theorem dX11_sure_35 : decode cX11_sure 35 = .ok (.iload_n 1, 1) := by decide +kernel
theorem dX11_sure_36 : decode cX11_sure 36 = .ok (.aload_n 0, 1) := by decide +kernel
theorem dX11_sure_37 : decode cX11_sure 37 = .ok (.invokevirtual 97, 3) := by decide +kernel
theorem dX11_sure_40 : decode cX11_sure 40 = .ok (.invokevirtual 337, 3) := by decide +kernel
theorem dX11_sure_43 : decode cX11_sure 43 = .ok (.iconst 0, 1) := by decide +kernel
theorem dX11_sure_44 : decode cX11_sure 44 = .ok (.istore_n 3, 1) := by decide +kernel
theorem dX11_sure_45 : decode cX11_sure 45 = .ok (.iconst 0, 1) := by decide +kernel
theorem dX11_sure_46 : decode cX11_sure 46 = .ok (.istore 4, 2) := by decide +kernel
theorem dX11_sure_48 : decode cX11_sure 48 = .ok (.iload 4, 2) := by decide +kernel
theorem dX11_sure_50 : decode cX11_sure 50 = .ok (.aload_n 0, 1) := by decide +kernel
theorem dX11_sure_51 : decode cX11_sure 51 = .ok (.getfield 328, 3) := by decide +kernel
theorem dX11_sure_54 : decode cX11_sure 54 = .ok (.if_icmp .ge 86, 3) := by decide +kernel
theorem dX11_sure_57 : decode cX11_sure 57 = .ok (.iload 4, 2) := by decide +kernel
theorem dX11_sure_59 : decode cX11_sure 59 = .ok (.iconst 1, 1) := by decide +kernel
theorem dX11_sure_60 : decode cX11_sure 60 = .ok (.iadd, 1) := by decide +kernel
theorem dX11_sure_61 : decode cX11_sure 61 = .ok (.istore 5, 2) := by decide +kernel
theorem dX11_sure_63 : decode cX11_sure 63 = .ok (.iload 5, 2) := by decide +kernel
theorem dX11_sure_65 : decode cX11_sure 65 = .ok (.aload_n 0, 1) := by decide +kernel
theorem dX11_sure_66 : decode cX11_sure 66 = .ok (.getfield 328, 3) := by decide +kernel
theorem dX11_sure_69 : decode cX11_sure 69 = .ok (.if_icmp .ge 32, 3) := by decide +kernel
theorem dX11_sure_72 : decode cX11_sure 72 = .ok (.aload_n 0, 1) := by decide +kernel
theorem dX11_sure_73 : decode cX11_sure 73 = .ok (.aload_n 0, 1) := by decide +kernel
theorem dX11_sure_74 : decode cX11_sure 74 = .ok (.getfield 49, 3) := by decide +kernel
theorem dX11_sure_77 : decode cX11_sure 77 = .ok (.iload 4, 2) := by decide +kernel
theorem dX11_sure_79 : decode cX11_sure 79 = .ok (.iaload, 1) := by decide +kernel
theorem dX11_sure_80 : decode cX11_sure 80 = .ok (.aload_n 0, 1) := by decide +kernel
theorem dX11_sure_81 : decode cX11_sure 81 = .ok (.getfield 49, 3) := by decide +kernel
theorem dX11_sure_84 : decode cX11_sure 84 = .ok (.iload 5, 2) := by decide +kernel
theorem dX11_sure_86 : decode cX11_sure 86 = .ok (.iaload, 1) := by decide +kernel
theorem dX11_sure_87 : decode cX11_sure 87 = .ok (.invokevirtual 348, 3) := by decide +kernel
theorem dX11_sure_90 : decode cX11_sure 90 = .ok (.ifCond .eq 5, 3) := by decide +kernel
theorem dX11_sure_93 : decode cX11_sure 93 = .ok (.iconst 0, 1) := by decide +kernel
theorem dX11_sure_94 : decode cX11_sure 94 = .ok (.ireturn, 1) := by decide +kernel
theorem dX11_sure_95 : decode cX11_sure 95 = .ok (.iinc 5 1, 3) := by decide +kernel
theorem dX11_sure_98 : decode cX11_sure 98 = .ok (.goto (-35), 3) := by decide +kernel
theorem dX11_sure_101 : decode cX11_sure 101 = .ok (.aload_n 0, 1) := by decide +kernel
theorem dX11_sure_102 : decode cX11_sure 102 = .ok (.aload_n 0, 1) := by decide +kernel
theorem dX11_sure_103 : decode cX11_sure 103 = .ok (.getfield 49, 3) := by decide +kernel
theorem dX11_sure_106 : decode cX11_sure 106 = .ok (.iload 4, 2) := by decide +kernel
theorem dX11_sure_108 : decode cX11_sure 108 = .ok (.iaload, 1) := by decide +kernel
theorem dX11_sure_109 : decode cX11_sure 109 = .ok (.iconst 5, 1) := by decide +kernel
theorem dX11_sure_110 : decode cX11_sure 110 = .ok (.invokevirtual 240, 3) := by decide +kernel
theorem dX11_sure_113 : decode cX11_sure 113 = .ok (.iload_n 2, 1) := by decide +kernel
theorem dX11_sure_114 : decode cX11_sure 114 = .ok (.if_icmp .ne 20, 3) := by decide +kernel
theorem dX11_sure_117 : decode cX11_sure 117 = .ok (.iload_n 3, 1) := by decide +kernel
theorem dX11_sure_118 : decode cX11_sure 118 = .ok (.iconst 1, 1) := by decide +kernel
theorem dX11_sure_119 : decode cX11_sure 119 = .ok (.aload_n 0, 1) := by decide +kernel
theorem dX11_sure_120 : decode cX11_sure 120 = .ok (.aload_n 0, 1) := by decide +kernel
theorem dX11_sure_121 : decode cX11_sure 121 = .ok (.getfield 49, 3) := by decide +kernel
theorem dX11_sure_124 : decode cX11_sure 124 = .ok (.iload 4, 2) := by decide +kernel
theorem dX11_sure_126 : decode cX11_sure 126 = .ok (.iaload, 1) := by decide +kernel
theorem dX11_sure_127 : decode cX11_sure 127 = .ok (.iconst 1, 1) := by decide +kernel
theorem dX11_sure_128 : decode cX11_sure 128 = .ok (.invokevirtual 240, 3) := by decide +kernel
theorem dX11_sure_131 : decode cX11_sure 131 = .ok (.ishl, 1) := by decide +kernel
theorem dX11_sure_132 : decode cX11_sure 132 = .ok (.ior, 1) := by decide +kernel
theorem dX11_sure_133 : decode cX11_sure 133 = .ok (.istore_n 3, 1) := by decide +kernel
theorem dX11_sure_134 : decode cX11_sure 134 = .ok (.iinc 4 1, 3) := by decide +kernel
theorem dX11_sure_137 : decode cX11_sure 137 = .ok (.goto (-89), 3) := by decide +kernel
theorem dX11_sure_140 : decode cX11_sure 140 = .ok (.iconst 0, 1) := by decide +kernel
theorem dX11_sure_141 : decode cX11_sure 141 = .ok (.istore 4, 2) := by decide +kernel
theorem dX11_sure_143 : decode cX11_sure 143 = .ok (.iconst 0, 1) := by decide +kernel
theorem dX11_sure_144 : decode cX11_sure 144 = .ok (.istore 5, 2) := by decide +kernel
theorem dX11_sure_146 : decode cX11_sure 146 = .ok (.iload 5, 2) := by decide +kernel
theorem dX11_sure_148 : decode cX11_sure 148 = .ok (.aload_n 0, 1) := by decide +kernel
theorem dX11_sure_149 : decode cX11_sure 149 = .ok (.invokevirtual 64, 3) := by decide +kernel
theorem dX11_sure_152 : decode cX11_sure 152 = .ok (.if_icmp .ge 34, 3) := by decide +kernel
theorem dX11_sure_155 : decode cX11_sure 155 = .ok (.iload 4, 2) := by decide +kernel
theorem dX11_sure_157 : decode cX11_sure 157 = .ok (.iload_n 3, 1) := by decide +kernel
theorem dX11_sure_158 : decode cX11_sure 158 = .ok (.iload 5, 2) := by decide +kernel
theorem dX11_sure_160 : decode cX11_sure 160 = .ok (.ishr, 1) := by decide +kernel
theorem dX11_sure_161 : decode cX11_sure 161 = .ok (.iconst 1, 1) := by decide +kernel
theorem dX11_sure_162 : decode cX11_sure 162 = .ok (.iand, 1) := by decide +kernel
theorem dX11_sure_163 : decode cX11_sure 163 = .ok (.iconst 1, 1) := by decide +kernel
theorem dX11_sure_164 : decode cX11_sure 164 = .ok (.if_icmp .ne 12, 3) := by decide +kernel
theorem dX11_sure_167 : decode cX11_sure 167 = .ok (.aload_n 0, 1) := by decide +kernel
theorem dX11_sure_168 : decode cX11_sure 168 = .ok (.iload 5, 2) := by decide +kernel
theorem dX11_sure_170 : decode cX11_sure 170 = .ok (.invokevirtual 351, 3) := by decide +kernel
theorem dX11_sure_173 : decode cX11_sure 173 = .ok (.goto 4, 3) := by decide +kernel
theorem dX11_sure_176 : decode cX11_sure 176 = .ok (.iconst 0, 1) := by decide +kernel
theorem dX11_sure_177 : decode cX11_sure 177 = .ok (.iadd, 1) := by decide +kernel
theorem dX11_sure_178 : decode cX11_sure 178 = .ok (.istore 4, 2) := by decide +kernel
theorem dX11_sure_180 : decode cX11_sure 180 = .ok (.iinc 5 1, 3) := by decide +kernel
theorem dX11_sure_183 : decode cX11_sure 183 = .ok (.goto (-37), 3) := by decide +kernel
theorem dX11_sure_186 : decode cX11_sure 186 = .ok (.iload 4, 2) := by decide +kernel
theorem dX11_sure_188 : decode cX11_sure 188 = .ok (.ireturn, 1) := by decide +kernel
theorem dX11_describe_0 : decode cX11_describe 0 = .ok (.aload_n 0, 1) := by decide +kernel
theorem dX11_describe_1 : decode cX11_describe 1 = .ok (.iconst 0, 1) := by decide +kernel
theorem dX11_describe_2 : decode cX11_describe 2 = .ok (.putfield 3, 3) := by decide +kernel
theorem dX11_describe_5 : decode cX11_describe 5 = .ok (.aload_n 0, 1) := by decide +kernel
theorem dX11_describe_6 : decode cX11_describe 6 = .ok (.iload_n 1, 1) := by decide +kernel
theorem dX11_describe_7 : decode cX11_describe 7 = .ok (.iconst (-1), 1) := by decide +kernel
theorem dX11_describe_8 : decode cX11_describe 8 = .ok (.bipush 99, 2) := by decide +kernel
theorem dX11_describe_10 : decode cX11_describe 10 = .ok (.invokestatic 68, 3) := by decide +kernel
theorem dX11_describe_13 : decode cX11_describe 13 = .ok (.ifCond .eq 23, 3) := by decide +kernel
theorem dX11_describe_16 : decode cX11_describe 16 = .ok (.iload_n 2, 1) := by decide +kernel
theorem dX11_describe_17 : decode cX11_describe 17 = .ok (.iconst (-1), 1) := by decide +kernel
theorem dX11_describe_18 : decode cX11_describe 18 = .ok (.bipush 99, 2) := by decide +kernel
theorem dX11_describe_20 : decode cX11_describe 20 = .ok (.invokestatic 68, 3) := by decide +kernel
theorem dX11_describe_23 : decode cX11_describe 23 = .ok (.ifCond .eq 13, 3) := by decide +kernel
theorem dX11_describe_26 : decode cX11_describe 26 = .ok (.iload_n 3, 1) := by decide +kernel
theorem dX11_describe_27 : decode cX11_describe 27 = .ok (.iconst (-1), 1) := by decide +kernel
theorem dX11_describe_28 : decode cX11_describe 28 = .ok (.bipush 9, 2) := by decide +kernel
theorem dX11_describe_30 : decode cX11_describe 30 = .ok (.invokestatic 68, 3) := by decide +kernel
theorem dX11_describe_33 : decode cX11_describe 33 = .ok (.ifCond .ne 7, 3) := by decide +kernel
theorem dX11_describe_36 : decode cX11_describe 36 = .ok (.iconst 1, 1) := by decide +kernel
theorem dX11_describe_37 : decode cX11_describe 37 = .ok (.goto 4, 3) := by decide +kernel
theorem dX11_describe_40 : decode cX11_describe 40 = .ok (.iconst 0, 1) := by decide +kernel
theorem dX11_describe_41 : decode cX11_describe 41 = .ok (.iconst 1, 1) := by decide +kernel
theorem dX11_describe_42 : decode cX11_describe 42 = .ok (.invokevirtual 93, 3) := by decide +kernel
theorem dX11_describe_45 : decode cX11_describe 45 = .ok (.ifCond .eq 5, 3) := by decide +kernel
theorem dX11_describe_48 : decode cX11_describe 48 = .ok (.iconst 0, 1) := by decide +kernel
theorem dX11_describe_49 : decode cX11_describe 49 = .ok (.ireturn, 1) := by decide +kernel
theorem dX11_describe_50 : decode cX11_describe 50 = .ok (.aload_n 0, 1) := by decide +kernel
theorem dX11_describe_51 : decode cX11_describe 51 = .ok (.getfield 20, 3) := by decide +kernel
theorem dX11_describe_54 : decode cX11_describe 54 = .ok (.bipush 8, 2) := by decide +kernel
theorem dX11_describe_56 : decode cX11_describe 56 = .ok (.iaload, 1) := by decide +kernel
theorem dX11_describe_57 : decode cX11_describe 57 = .ok (.istore 4, 2) := by decide +kernel
theorem dX11_describe_59 : decode cX11_describe 59 = .ok (.iload 4, 2) := by decide +kernel
theorem dX11_describe_61 : decode cX11_describe 61 = .ok (.bipush 7, 2) := by decide +kernel
theorem dX11_describe_63 : decode cX11_describe 63 = .ok (.if_icmp .ne 5, 3) := by decide +kernel
theorem dX11_describe_66 : decode cX11_describe 66 = .ok (.iconst (-1), 1) := by decide +kernel
theorem dX11_describe_67 : decode cX11_describe 67 = .ok (.ireturn, 1) := by decide +kernel
theorem dX11_describe_68 : decode cX11_describe 68 = .ok (.aload_n 0, 1) := by decide +kernel
theorem dX11_describe_69 : decode cX11_describe 69 = .ok (.getfield 20, 3) := by decide +kernel
theorem dX11_describe_72 : decode cX11_describe 72 = .ok (.sipush 1061, 3) := by decide +kernel
theorem dX11_describe_75 : decode cX11_describe 75 = .ok (.iconst 3, 1) := by decide +kernel
theorem dX11_describe_76 : decode cX11_describe 76 = .ok (.iload 4, 2) := by decide +kernel
theorem dX11_describe_78 : decode cX11_describe 78 = .ok (.imul, 1) := by decide +kernel
theorem dX11_describe_79 : decode cX11_describe 79 = .ok (.iadd, 1) := by decide +kernel
theorem dX11_describe_80 : decode cX11_describe 80 = .ok (.iload_n 1, 1) := by decide +kernel
theorem dX11_describe_81 : decode cX11_describe 81 = .ok (.iastore, 1) := by decide +kernel
theorem dX11_describe_82 : decode cX11_describe 82 = .ok (.aload_n 0, 1) := by decide +kernel
theorem dX11_describe_83 : decode cX11_describe 83 = .ok (.getfield 20, 3) := by decide +kernel
theorem dX11_describe_86 : decode cX11_describe 86 = .ok (.sipush 1061, 3) := by decide +kernel
theorem dX11_describe_89 : decode cX11_describe 89 = .ok (.iconst 3, 1) := by decide +kernel
theorem dX11_describe_90 : decode cX11_describe 90 = .ok (.iload 4, 2) := by decide +kernel
theorem dX11_describe_92 : decode cX11_describe 92 = .ok (.imul, 1) := by decide +kernel
theorem dX11_describe_93 : decode cX11_describe 93 = .ok (.iadd, 1) := by decide +kernel
theorem dX11_describe_94 : decode cX11_describe 94 = .ok (.iconst 1, 1) := by decide +kernel
theorem dX11_describe_95 : decode cX11_describe 95 = .ok (.iadd, 1) := by decide +kernel
theorem dX11_describe_96 : decode cX11_describe 96 = .ok (.iload_n 2, 1) := by decide +kernel
theorem dX11_describe_97 : decode cX11_describe 97 = .ok (.iastore, 1) := by decide +kernel
theorem dX11_describe_98 : decode cX11_describe 98 = .ok (.aload_n 0, 1) := by decide +kernel
theorem dX11_describe_99 : decode cX11_describe 99 = .ok (.getfield 20, 3) := by decide +kernel
theorem dX11_describe_102 : decode cX11_describe 102 = .ok (.sipush 1061, 3) := by decide +kernel
theorem dX11_describe_105 : decode cX11_describe 105 = .ok (.iconst 3, 1) := by decide +kernel
theorem dX11_describe_106 : decode cX11_describe 106 = .ok (.iload 4, 2) := by decide +kernel
theorem dX11_describe_108 : decode cX11_describe 108 = .ok (.imul, 1) := by decide +kernel
theorem dX11_describe_109 : decode cX11_describe 109 = .ok (.iadd, 1) := by decide +kernel
theorem dX11_describe_110 : decode cX11_describe 110 = .ok (.iconst 2, 1) := by decide +kernel
theorem dX11_describe_111 : decode cX11_describe 111 = .ok (.iadd, 1) := by decide +kernel
theorem dX11_describe_112 : decode cX11_describe 112 = .ok (.iload_n 3, 1) := by decide +kernel
theorem dX11_describe_113 : decode cX11_describe 113 = .ok (.iastore, 1) := by decide +kernel
theorem dX11_describe_114 : decode cX11_describe 114 = .ok (.aload_n 0, 1) := by decide +kernel
theorem dX11_describe_115 : decode cX11_describe 115 = .ok (.getfield 20, 3) := by decide +kernel
theorem dX11_describe_118 : decode cX11_describe 118 = .ok (.bipush 8, 2) := by decide +kernel
theorem dX11_describe_120 : decode cX11_describe 120 = .ok (.dup2, 1) := by decide +kernel
theorem dX11_describe_121 : decode cX11_describe 121 = .ok (.iaload, 1) := by decide +kernel
theorem dX11_describe_122 : decode cX11_describe 122 = .ok (.iconst 1, 1) := by decide +kernel
theorem dX11_describe_123 : decode cX11_describe 123 = .ok (.iadd, 1) := by decide +kernel
theorem dX11_describe_124 : decode cX11_describe 124 = .ok (.iastore, 1) := by decide +kernel
theorem dX11_describe_125 : decode cX11_describe 125 = .ok (.iload 4, 2) := by decide +kernel
theorem dX11_describe_127 : decode cX11_describe 127 = .ok (.ireturn, 1) := by decide +kernel
theorem dX11_apart_0 : decode cX11_apart 0 = .ok (.aload_n 0, 1) := by decide +kernel
theorem dX11_apart_1 : decode cX11_apart 1 = .ok (.iconst 0, 1) := by decide +kernel
theorem dX11_apart_2 : decode cX11_apart 2 = .ok (.putfield 3, 3) := by decide +kernel
theorem dX11_apart_5 : decode cX11_apart 5 = .ok (.aload_n 0, 1) := by decide +kernel
theorem dX11_apart_6 : decode cX11_apart 6 = .ok (.iload_n 1, 1) := by decide +kernel
theorem dX11_apart_7 : decode cX11_apart 7 = .ok (.iconst 0, 1) := by decide +kernel
theorem dX11_apart_8 : decode cX11_apart 8 = .ok (.sipush 1000, 3) := by decide +kernel
theorem dX11_apart_11 : decode cX11_apart 11 = .ok (.invokestatic 68, 3) := by decide +kernel
theorem dX11_apart_14 : decode cX11_apart 14 = .ok (.ifCond .ne 7, 3) := by decide +kernel
theorem dX11_apart_17 : decode cX11_apart 17 = .ok (.iconst 1, 1) := by decide +kernel
theorem dX11_apart_18 : decode cX11_apart 18 = .ok (.goto 4, 3) := by decide +kernel
theorem dX11_apart_21 : decode cX11_apart 21 = .ok (.iconst 0, 1) := by decide +kernel
theorem dX11_apart_22 : decode cX11_apart 22 = .ok (.iconst 1, 1) := by decide +kernel
theorem dX11_apart_23 : decode cX11_apart 23 = .ok (.invokevirtual 93, 3) := by decide +kernel
theorem dX11_apart_26 : decode cX11_apart 26 = .ok (.ifCond .eq 4, 3) := by decide +kernel
theorem dX11_apart_29 : decode cX11_apart 29 = .ok (.return_, 1) := by decide +kernel
theorem dX11_apart_30 : decode cX11_apart 30 = .ok (.aload_n 0, 1) := by decide +kernel
theorem dX11_apart_31 : decode cX11_apart 31 = .ok (.getfield 20, 3) := by decide +kernel
theorem dX11_apart_34 : decode cX11_apart 34 = .ok (.bipush 7, 2) := by decide +kernel
theorem dX11_apart_36 : decode cX11_apart 36 = .ok (.iload_n 1, 1) := by decide +kernel
theorem dX11_apart_37 : decode cX11_apart 37 = .ok (.iastore, 1) := by decide +kernel
theorem dX11_apart_38 : decode cX11_apart 38 = .ok (.return_, 1) := by decide +kernel
theorem dX11_priceOf_0 : decode cX11_priceOf 0 = .ok (.sipush 1061, 3) := by decide +kernel
theorem dX11_priceOf_3 : decode cX11_priceOf 3 = .ok (.iconst 3, 1) := by decide +kernel
theorem dX11_priceOf_4 : decode cX11_priceOf 4 = .ok (.iload_n 1, 1) := by decide +kernel
theorem dX11_priceOf_5 : decode cX11_priceOf 5 = .ok (.imul, 1) := by decide +kernel
theorem dX11_priceOf_6 : decode cX11_priceOf 6 = .ok (.iadd, 1) := by decide +kernel
theorem dX11_priceOf_7 : decode cX11_priceOf 7 = .ok (.istore_n 3, 1) := by decide +kernel
theorem dX11_priceOf_8 : decode cX11_priceOf 8 = .ok (.sipush 1061, 3) := by decide +kernel
theorem dX11_priceOf_11 : decode cX11_priceOf 11 = .ok (.iconst 3, 1) := by decide +kernel
theorem dX11_priceOf_12 : decode cX11_priceOf 12 = .ok (.iload_n 2, 1) := by decide +kernel
theorem dX11_priceOf_13 : decode cX11_priceOf 13 = .ok (.imul, 1) := by decide +kernel
theorem dX11_priceOf_14 : decode cX11_priceOf 14 = .ok (.iadd, 1) := by decide +kernel
theorem dX11_priceOf_15 : decode cX11_priceOf 15 = .ok (.istore 4, 2) := by decide +kernel
theorem dX11_priceOf_17 : decode cX11_priceOf 17 = .ok (.iconst 0, 1) := by decide +kernel
theorem dX11_priceOf_18 : decode cX11_priceOf 18 = .ok (.istore 5, 2) := by decide +kernel
theorem dX11_priceOf_20 : decode cX11_priceOf 20 = .ok (.aload_n 0, 1) := by decide +kernel
theorem dX11_priceOf_21 : decode cX11_priceOf 21 = .ok (.getfield 20, 3) := by decide +kernel
theorem dX11_priceOf_24 : decode cX11_priceOf 24 = .ok (.iload_n 3, 1) := by decide +kernel
theorem dX11_priceOf_25 : decode cX11_priceOf 25 = .ok (.iaload, 1) := by decide +kernel
theorem dX11_priceOf_26 : decode cX11_priceOf 26 = .ok (.ifCond .lt 32, 3) := by decide +kernel
theorem dX11_priceOf_29 : decode cX11_priceOf 29 = .ok (.aload_n 0, 1) := by decide +kernel
theorem dX11_priceOf_30 : decode cX11_priceOf 30 = .ok (.getfield 20, 3) := by decide +kernel
theorem dX11_priceOf_33 : decode cX11_priceOf 33 = .ok (.iload 4, 2) := by decide +kernel
theorem dX11_priceOf_35 : decode cX11_priceOf 35 = .ok (.iaload, 1) := by decide +kernel
theorem dX11_priceOf_36 : decode cX11_priceOf 36 = .ok (.ifCond .lt 22, 3) := by decide +kernel
theorem dX11_priceOf_39 : decode cX11_priceOf 39 = .ok (.aload_n 0, 1) := by decide +kernel
theorem dX11_priceOf_40 : decode cX11_priceOf 40 = .ok (.getfield 20, 3) := by decide +kernel
theorem dX11_priceOf_43 : decode cX11_priceOf 43 = .ok (.iload_n 3, 1) := by decide +kernel
theorem dX11_priceOf_44 : decode cX11_priceOf 44 = .ok (.iaload, 1) := by decide +kernel
theorem dX11_priceOf_45 : decode cX11_priceOf 45 = .ok (.aload_n 0, 1) := by decide +kernel
theorem dX11_priceOf_46 : decode cX11_priceOf 46 = .ok (.getfield 20, 3) := by decide +kernel
theorem dX11_priceOf_49 : decode cX11_priceOf 49 = .ok (.iload 4, 2) := by decide +kernel
theorem dX11_priceOf_51 : decode cX11_priceOf 51 = .ok (.iaload, 1) := by decide +kernel
theorem dX11_priceOf_52 : decode cX11_priceOf 52 = .ok (.if_icmp .eq 6, 3) := by decide +kernel
theorem dX11_priceOf_55 : decode cX11_priceOf 55 = .ok (.iinc 5 20, 3) := by decide +kernel
theorem dX11_priceOf_58 : decode cX11_priceOf 58 = .ok (.aload_n 0, 1) := by decide +kernel
theorem dX11_priceOf_59 : decode cX11_priceOf 59 = .ok (.getfield 20, 3) := by decide +kernel
theorem dX11_priceOf_62 : decode cX11_priceOf 62 = .ok (.iload_n 3, 1) := by decide +kernel
theorem dX11_priceOf_63 : decode cX11_priceOf 63 = .ok (.iconst 1, 1) := by decide +kernel
theorem dX11_priceOf_64 : decode cX11_priceOf 64 = .ok (.iadd, 1) := by decide +kernel
theorem dX11_priceOf_65 : decode cX11_priceOf 65 = .ok (.iaload, 1) := by decide +kernel
theorem dX11_priceOf_66 : decode cX11_priceOf 66 = .ok (.ifCond .lt 41, 3) := by decide +kernel
theorem dX11_priceOf_69 : decode cX11_priceOf 69 = .ok (.aload_n 0, 1) := by decide +kernel
theorem dX11_priceOf_70 : decode cX11_priceOf 70 = .ok (.getfield 20, 3) := by decide +kernel
theorem dX11_priceOf_73 : decode cX11_priceOf 73 = .ok (.iload 4, 2) := by decide +kernel
theorem dX11_priceOf_75 : decode cX11_priceOf 75 = .ok (.iconst 1, 1) := by decide +kernel
theorem dX11_priceOf_76 : decode cX11_priceOf 76 = .ok (.iadd, 1) := by decide +kernel
theorem dX11_priceOf_77 : decode cX11_priceOf 77 = .ok (.iaload, 1) := by decide +kernel
theorem dX11_priceOf_78 : decode cX11_priceOf 78 = .ok (.ifCond .lt 29, 3) := by decide +kernel
theorem dX11_priceOf_81 : decode cX11_priceOf 81 = .ok (.iload 5, 2) := by decide +kernel
theorem dX11_priceOf_83 : decode cX11_priceOf 83 = .ok (.aload_n 0, 1) := by decide +kernel
theorem dX11_priceOf_84 : decode cX11_priceOf 84 = .ok (.getfield 20, 3) := by decide +kernel
theorem dX11_priceOf_87 : decode cX11_priceOf 87 = .ok (.iload_n 3, 1) := by decide +kernel
theorem dX11_priceOf_88 : decode cX11_priceOf 88 = .ok (.iconst 1, 1) := by decide +kernel
theorem dX11_priceOf_89 : decode cX11_priceOf 89 = .ok (.iadd, 1) := by decide +kernel
theorem dX11_priceOf_90 : decode cX11_priceOf 90 = .ok (.iaload, 1) := by decide +kernel
theorem dX11_priceOf_91 : decode cX11_priceOf 91 = .ok (.aload_n 0, 1) := by decide +kernel
theorem dX11_priceOf_92 : decode cX11_priceOf 92 = .ok (.getfield 20, 3) := by decide +kernel
theorem dX11_priceOf_95 : decode cX11_priceOf 95 = .ok (.iload 4, 2) := by decide +kernel
theorem dX11_priceOf_97 : decode cX11_priceOf 97 = .ok (.iconst 1, 1) := by decide +kernel
theorem dX11_priceOf_98 : decode cX11_priceOf 98 = .ok (.iadd, 1) := by decide +kernel
theorem dX11_priceOf_99 : decode cX11_priceOf 99 = .ok (.iaload, 1) := by decide +kernel
theorem dX11_priceOf_100 : decode cX11_priceOf 100 = .ok (.isub, 1) := by decide +kernel
theorem dX11_priceOf_101 : decode cX11_priceOf 101 = .ok (.invokestatic 75, 3) := by decide +kernel
theorem dX11_priceOf_104 : decode cX11_priceOf 104 = .ok (.iadd, 1) := by decide +kernel
theorem dX11_priceOf_105 : decode cX11_priceOf 105 = .ok (.istore 5, 2) := by decide +kernel
theorem dX11_priceOf_107 : decode cX11_priceOf 107 = .ok (.aload_n 0, 1) := by decide +kernel
theorem dX11_priceOf_108 : decode cX11_priceOf 108 = .ok (.getfield 20, 3) := by decide +kernel
theorem dX11_priceOf_111 : decode cX11_priceOf 111 = .ok (.iload_n 3, 1) := by decide +kernel
theorem dX11_priceOf_112 : decode cX11_priceOf 112 = .ok (.iconst 2, 1) := by decide +kernel
theorem dX11_priceOf_113 : decode cX11_priceOf 113 = .ok (.iadd, 1) := by decide +kernel
theorem dX11_priceOf_114 : decode cX11_priceOf 114 = .ok (.iaload, 1) := by decide +kernel
theorem dX11_priceOf_115 : decode cX11_priceOf 115 = .ok (.ifCond .lt 38, 3) := by decide +kernel
theorem dX11_priceOf_118 : decode cX11_priceOf 118 = .ok (.aload_n 0, 1) := by decide +kernel
theorem dX11_priceOf_119 : decode cX11_priceOf 119 = .ok (.getfield 20, 3) := by decide +kernel
theorem dX11_priceOf_122 : decode cX11_priceOf 122 = .ok (.iload 4, 2) := by decide +kernel
theorem dX11_priceOf_124 : decode cX11_priceOf 124 = .ok (.iconst 2, 1) := by decide +kernel
theorem dX11_priceOf_125 : decode cX11_priceOf 125 = .ok (.iadd, 1) := by decide +kernel
theorem dX11_priceOf_126 : decode cX11_priceOf 126 = .ok (.iaload, 1) := by decide +kernel
