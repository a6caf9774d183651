theorem dX11_priceOf_127 : decode cX11_priceOf 127 = .ok (.ifCond .lt 26, 3) := by decide +kernel
theorem dX11_priceOf_130 : decode cX11_priceOf 130 = .ok (.aload_n 0, 1) := by decide +kernel
theorem dX11_priceOf_131 : decode cX11_priceOf 131 = .ok (.getfield 20, 3) := by decide +kernel
theorem dX11_priceOf_134 : decode cX11_priceOf 134 = .ok (.iload_n 3, 1) := by decide +kernel
theorem dX11_priceOf_135 : decode cX11_priceOf 135 = .ok (.iconst 2, 1) := by decide +kernel
theorem dX11_priceOf_136 : decode cX11_priceOf 136 = .ok (.iadd, 1) := by decide +kernel
theorem dX11_priceOf_137 : decode cX11_priceOf 137 = .ok (.iaload, 1) := by decide +kernel
theorem dX11_priceOf_138 : decode cX11_priceOf 138 = .ok (.aload_n 0, 1) := by decide +kernel
theorem dX11_priceOf_139 : decode cX11_priceOf 139 = .ok (.getfield 20, 3) := by decide +kernel
theorem dX11_priceOf_142 : decode cX11_priceOf 142 = .ok (.iload 4, 2) := by decide +kernel
theorem dX11_priceOf_144 : decode cX11_priceOf 144 = .ok (.iconst 2, 1) := by decide +kernel
theorem dX11_priceOf_145 : decode cX11_priceOf 145 = .ok (.iadd, 1) := by decide +kernel
theorem dX11_priceOf_146 : decode cX11_priceOf 146 = .ok (.iaload, 1) := by decide +kernel
theorem dX11_priceOf_147 : decode cX11_priceOf 147 = .ok (.if_icmp .eq 6, 3) := by decide +kernel
theorem dX11_priceOf_150 : decode cX11_priceOf 150 = .ok (.iinc 5 7, 3) := by decide +kernel
theorem dX11_priceOf_153 : decode cX11_priceOf 153 = .ok (.iload 5, 2) := by decide +kernel
theorem dX11_priceOf_155 : decode cX11_priceOf 155 = .ok (.ireturn, 1) := by decide +kernel
theorem dX11_parts_0 : decode cX11_parts 0 = .ok (.iload_n 1, 1) := by decide +kernel
theorem dX11_parts_1 : decode cX11_parts 1 = .ok (.aload_n 0, 1) := by decide +kernel
theorem dX11_parts_2 : decode cX11_parts 2 = .ok (.getfield 20, 3) := by decide +kernel
theorem dX11_parts_5 : decode cX11_parts 5 = .ok (.bipush 8, 2) := by decide +kernel
theorem dX11_parts_7 : decode cX11_parts 7 = .ok (.iaload, 1) := by decide +kernel
theorem dX11_parts_8 : decode cX11_parts 8 = .ok (.if_icmp .ne 75, 3) := by decide +kernel
theorem dX11_parts_11 : decode cX11_parts 11 = .ok (.aload_n 0, 1) := by decide +kernel
theorem dX11_parts_12 : decode cX11_parts 12 = .ok (.getfield 354, 3) := by decide +kernel
theorem dX11_parts_15 : decode cX11_parts 15 = .ok (.ifCond .lt 28, 3) := by decide +kernel
theorem dX11_parts_18 : decode cX11_parts 18 = .ok (.iload_n 3, 1) := by decide +kernel
theorem dX11_parts_19 : decode cX11_parts 19 = .ok (.aload_n 0, 1) := by decide +kernel
theorem dX11_parts_20 : decode cX11_parts 20 = .ok (.getfield 354, 3) := by decide +kernel
theorem dX11_parts_23 : decode cX11_parts 23 = .ok (.if_icmp .gt 19, 3) := by decide +kernel
theorem dX11_parts_26 : decode cX11_parts 26 = .ok (.iload_n 3, 1) := by decide +kernel
theorem dX11_parts_27 : decode cX11_parts 27 = .ok (.aload_n 0, 1) := by decide +kernel
theorem dX11_parts_28 : decode cX11_parts 28 = .ok (.getfield 354, 3) := by decide +kernel
theorem dX11_parts_31 : decode cX11_parts 31 = .ok (.if_icmp .ne 12, 3) := by decide +kernel
theorem dX11_parts_34 : decode cX11_parts 34 = .ok (.iload_n 2, 1) := by decide +kernel
theorem dX11_parts_35 : decode cX11_parts 35 = .ok (.aload_n 0, 1) := by decide +kernel
theorem dX11_parts_36 : decode cX11_parts 36 = .ok (.getfield 357, 3) := by decide +kernel
theorem dX11_parts_39 : decode cX11_parts 39 = .ok (.if_icmp .lt 4, 3) := by decide +kernel
theorem dX11_parts_42 : decode cX11_parts 42 = .ok (.return_, 1) := by decide +kernel
theorem dX11_parts_43 : decode cX11_parts 43 = .ok (.aload_n 0, 1) := by decide +kernel
theorem dX11_parts_44 : decode cX11_parts 44 = .ok (.iload_n 3, 1) := by decide +kernel
theorem dX11_parts_45 : decode cX11_parts 45 = .ok (.putfield 354, 3) := by decide +kernel
theorem dX11_parts_48 : decode cX11_parts 48 = .ok (.aload_n 0, 1) := by decide +kernel
theorem dX11_parts_49 : decode cX11_parts 49 = .ok (.iload_n 2, 1) := by decide +kernel
theorem dX11_parts_50 : decode cX11_parts 50 = .ok (.putfield 357, 3) := by decide +kernel
theorem dX11_parts_53 : decode cX11_parts 53 = .ok (.iconst 0, 1) := by decide +kernel
theorem dX11_parts_54 : decode cX11_parts 54 = .ok (.istore 4, 2) := by decide +kernel
theorem dX11_parts_56 : decode cX11_parts 56 = .ok (.iload 4, 2) := by decide +kernel
theorem dX11_parts_58 : decode cX11_parts 58 = .ok (.iload_n 1, 1) := by decide +kernel
theorem dX11_parts_59 : decode cX11_parts 59 = .ok (.if_icmp .ge 23, 3) := by decide +kernel
theorem dX11_parts_62 : decode cX11_parts 62 = .ok (.aload_n 0, 1) := by decide +kernel
theorem dX11_parts_63 : decode cX11_parts 63 = .ok (.getfield 55, 3) := by decide +kernel
theorem dX11_parts_66 : decode cX11_parts 66 = .ok (.iload 4, 2) := by decide +kernel
theorem dX11_parts_68 : decode cX11_parts 68 = .ok (.aload_n 0, 1) := by decide +kernel
theorem dX11_parts_69 : decode cX11_parts 69 = .ok (.getfield 52, 3) := by decide +kernel
theorem dX11_parts_72 : decode cX11_parts 72 = .ok (.iload 4, 2) := by decide +kernel
theorem dX11_parts_74 : decode cX11_parts 74 = .ok (.iaload, 1) := by decide +kernel
theorem dX11_parts_75 : decode cX11_parts 75 = .ok (.iastore, 1) := by decide +kernel
theorem dX11_parts_76 : decode cX11_parts 76 = .ok (.iinc 4 1, 3) := by decide +kernel
theorem dX11_parts_79 : decode cX11_parts 79 = .ok (.goto (-23), 3) := by decide +kernel
theorem dX11_parts_82 : decode cX11_parts 82 = .ok (.return_, 1) := by decide +kernel
theorem dX11_parts_83 : decode cX11_parts 83 = .ok (.iconst 0, 1) := by decide +kernel
theorem dX11_parts_84 : decode cX11_parts 84 = .ok (.istore 4, 2) := by decide +kernel
theorem dX11_parts_86 : decode cX11_parts 86 = .ok (.iload 4, 2) := by decide +kernel
theorem dX11_parts_88 : decode cX11_parts 88 = .ok (.iload_n 2, 1) := by decide +kernel
theorem dX11_parts_89 : decode cX11_parts 89 = .ok (.if_icmp .gt 103, 3) := by decide +kernel
theorem dX11_parts_92 : decode cX11_parts 92 = .ok (.iload 4, 2) := by decide +kernel
theorem dX11_parts_94 : decode cX11_parts 94 = .ok (.iload_n 2, 1) := by decide +kernel
theorem dX11_parts_95 : decode cX11_parts 95 = .ok (.if_icmp .ne 13, 3) := by decide +kernel
theorem dX11_parts_98 : decode cX11_parts 98 = .ok (.aload_n 0, 1) := by decide +kernel
theorem dX11_parts_99 : decode cX11_parts 99 = .ok (.getfield 20, 3) := by decide +kernel
theorem dX11_parts_102 : decode cX11_parts 102 = .ok (.bipush 7, 2) := by decide +kernel
theorem dX11_parts_104 : decode cX11_parts 104 = .ok (.iaload, 1) := by decide +kernel
theorem dX11_parts_105 : decode cX11_parts 105 = .ok (.goto 4, 3) := by decide +kernel
theorem dX11_parts_108 : decode cX11_parts 108 = .ok (.iconst 0, 1) := by decide +kernel
theorem dX11_parts_109 : decode cX11_parts 109 = .ok (.istore 5, 2) := by decide +kernel
theorem dX11_parts_111 : decode cX11_parts 111 = .ok (.iconst 0, 1) := by decide +kernel
theorem dX11_parts_112 : decode cX11_parts 112 = .ok (.istore 6, 2) := by decide +kernel
theorem dX11_parts_114 : decode cX11_parts 114 = .ok (.iload 6, 2) := by decide +kernel
theorem dX11_parts_116 : decode cX11_parts 116 = .ok (.iload_n 1, 1) := by decide +kernel
theorem dX11_parts_117 : decode cX11_parts 117 = .ok (.if_icmp .ge 37, 3) := by decide +kernel
theorem dX11_parts_120 : decode cX11_parts 120 = .ok (.iload 5, 2) := by decide +kernel
theorem dX11_parts_122 : decode cX11_parts 122 = .ok (.aload_n 0, 1) := by decide +kernel
theorem dX11_parts_123 : decode cX11_parts 123 = .ok (.getfield 52, 3) := by decide +kernel
theorem dX11_parts_126 : decode cX11_parts 126 = .ok (.iload 6, 2) := by decide +kernel
theorem dX11_parts_128 : decode cX11_parts 128 = .ok (.iaload, 1) := by decide +kernel
theorem dX11_parts_129 : decode cX11_parts 129 = .ok (.iload 4, 2) := by decide +kernel
theorem dX11_parts_131 : decode cX11_parts 131 = .ok (.if_icmp .ne 13, 3) := by decide +kernel
theorem dX11_parts_134 : decode cX11_parts 134 = .ok (.aload_n 0, 1) := by decide +kernel
theorem dX11_parts_135 : decode cX11_parts 135 = .ok (.iload 6, 2) := by decide +kernel
theorem dX11_parts_137 : decode cX11_parts 137 = .ok (.iload_n 1, 1) := by decide +kernel
theorem dX11_parts_138 : decode cX11_parts 138 = .ok (.invokevirtual 360, 3) := by decide +kernel
theorem dX11_parts_141 : decode cX11_parts 141 = .ok (.goto 4, 3) := by decide +kernel
theorem dX11_parts_144 : decode cX11_parts 144 = .ok (.iconst 0, 1) := by decide +kernel
theorem dX11_parts_145 : decode cX11_parts 145 = .ok (.iadd, 1) := by decide +kernel
theorem dX11_parts_146 : decode cX11_parts 146 = .ok (.istore 5, 2) := by decide +kernel
theorem dX11_parts_148 : decode cX11_parts 148 = .ok (.iinc 6 1, 3) := by decide +kernel
theorem dX11_parts_151 : decode cX11_parts 151 = .ok (.goto (-37), 3) := by decide +kernel
theorem dX11_parts_154 : decode cX11_parts 154 = .ok (.aload_n 0, 1) := by decide +kernel
theorem dX11_parts_155 : decode cX11_parts 155 = .ok (.getfield 52, 3) := by decide +kernel
theorem dX11_parts_158 : decode cX11_parts 158 = .ok (.iload_n 1, 1) := by decide +kernel
theorem dX11_parts_159 : decode cX11_parts 159 = .ok (.iload 4, 2) := by decide +kernel
theorem dX11_parts_161 : decode cX11_parts 161 = .ok (.iastore, 1) := by decide +kernel
theorem dX11_parts_162 : decode cX11_parts 162 = .ok (.aload_n 0, 1) := by decide +kernel
theorem dX11_parts_163 : decode cX11_parts 163 = .ok (.iload_n 1, 1) := by decide +kernel
theorem dX11_parts_164 : decode cX11_parts 164 = .ok (.iconst 1, 1) := by decide +kernel
theorem dX11_parts_165 : decode cX11_parts 165 = .ok (.iadd, 1) := by decide +kernel
theorem dX11_parts_166 : decode cX11_parts 166 = .ok (.iload 4, 2) := by decide +kernel
theorem dX11_parts_168 : decode cX11_parts 168 = .ok (.iload_n 2, 1) := by decide +kernel
theorem dX11_parts_169 : decode cX11_parts 169 = .ok (.if_icmp .ne 9, 3) := by decide +kernel
theorem dX11_parts_172 : decode cX11_parts 172 = .ok (.iload_n 2, 1) := by decide +kernel
theorem dX11_parts_173 : decode cX11_parts 173 = .ok (.iconst 1, 1) := by decide +kernel
theorem dX11_parts_174 : decode cX11_parts 174 = .ok (.iadd, 1) := by decide +kernel
theorem dX11_parts_175 : decode cX11_parts 175 = .ok (.goto 4, 3) := by decide +kernel
theorem dX11_parts_178 : decode cX11_parts 178 = .ok (.iload_n 2, 1) := by decide +kernel
theorem dX11_parts_179 : decode cX11_parts 179 = .ok (.iload_n 3, 1) := by decide +kernel
theorem dX11_parts_180 : decode cX11_parts 180 = .ok (.iload 5, 2) := by decide +kernel
theorem dX11_parts_182 : decode cX11_parts 182 = .ok (.iadd, 1) := by decide +kernel
theorem dX11_parts_183 : decode cX11_parts 183 = .ok (.invokevirtual 363, 3) := by decide +kernel
theorem dX11_parts_186 : decode cX11_parts 186 = .ok (.iinc 4 1, 3) := by decide +kernel
theorem dX11_parts_189 : decode cX11_parts 189 = .ok (.goto (-103), 3) := by decide +kernel
theorem dX11_parts_192 : decode cX11_parts 192 = .ok (.return_, 1) := by decide +kernel
theorem dX11_parted_0 : decode cX11_parted 0 = .ok (.aload_n 0, 1) := by decide +kernel
theorem dX11_parted_1 : decode cX11_parted 1 = .ok (.iconst (-1), 1) := by decide +kernel
theorem dX11_parted_2 : decode cX11_parted 2 = .ok (.putfield 354, 3) := by decide +kernel
theorem dX11_parted_5 : decode cX11_parted 5 = .ok (.aload_n 0, 1) := by decide +kernel
theorem dX11_parted_6 : decode cX11_parted 6 = .ok (.iconst 0, 1) := by decide +kernel
theorem dX11_parted_7 : decode cX11_parted 7 = .ok (.iconst 0, 1) := by decide +kernel
theorem dX11_parted_8 : decode cX11_parted 8 = .ok (.iconst 0, 1) := by decide +kernel
theorem dX11_parted_9 : decode cX11_parted 9 = .ok (.invokevirtual 363, 3) := by decide +kernel
theorem dX11_parted_12 : decode cX11_parted 12 = .ok (.return_, 1) := by decide +kernel
theorem dX11_heaps_0 : decode cX11_heaps 0 = .ok (.aload_n 0, 1) := by decide +kernel
theorem dX11_heaps_1 : decode cX11_heaps 1 = .ok (.iconst 0, 1) := by decide +kernel
theorem dX11_heaps_2 : decode cX11_heaps 2 = .ok (.putfield 3, 3) := by decide +kernel
theorem dX11_heaps_5 : decode cX11_heaps 5 = .ok (.aload_n 0, 1) := by decide +kernel
theorem dX11_heaps_6 : decode cX11_heaps 6 = .ok (.iload_n 1, 1) := by decide +kernel
theorem dX11_heaps_7 : decode cX11_heaps 7 = .ok (.iconst 0, 1) := by decide +kernel
theorem dX11_heaps_8 : decode cX11_heaps 8 = .ok (.iconst 1, 1) := by decide +kernel
theorem dX11_heaps_9 : decode cX11_heaps 9 = .ok (.invokestatic 68, 3) := by decide +kernel
theorem dX11_heaps_12 : decode cX11_heaps 12 = .ok (.ifCond .ne 7, 3) := by decide +kernel
theorem dX11_heaps_15 : decode cX11_heaps 15 = .ok (.iconst 1, 1) := by decide +kernel
theorem dX11_heaps_16 : decode cX11_heaps 16 = .ok (.goto 4, 3) := by decide +kernel
theorem dX11_heaps_19 : decode cX11_heaps 19 = .ok (.iconst 0, 1) := by decide +kernel
theorem dX11_heaps_20 : decode cX11_heaps 20 = .ok (.iconst 1, 1) := by decide +kernel
theorem dX11_heaps_21 : decode cX11_heaps 21 = .ok (.invokevirtual 93, 3) := by decide +kernel
theorem dX11_heaps_24 : decode cX11_heaps 24 = .ok (.ifCond .eq 5, 3) := by decide +kernel
theorem dX11_heaps_27 : decode cX11_heaps 27 = .ok (.iconst 0, 1) := by decide +kernel
theorem dX11_heaps_28 : decode cX11_heaps 28 = .ok (.ireturn, 1) := by decide +kernel
theorem dX11_heaps_29 : decode cX11_heaps 29 = .ok (.aload_n 0, 1) := by decide +kernel
theorem dX11_heaps_30 : decode cX11_heaps 30 = .ok (.invokevirtual 367, 3) := by decide +kernel
theorem dX11_heaps_33 : decode cX11_heaps 33 = .ok (.iload_n 1, 1) := by decide +kernel
theorem dX11_heaps_34 : decode cX11_heaps 34 = .ok (.ifCond .ne 10, 3) := by decide +kernel
theorem dX11_heaps_37 : decode cX11_heaps 37 = .ok (.aload_n 0, 1) := by decide +kernel
theorem dX11_heaps_38 : decode cX11_heaps 38 = .ok (.getfield 354, 3) := by decide +kernel
theorem dX11_heaps_41 : decode cX11_heaps 41 = .ok (.goto 7, 3) := by decide +kernel
theorem dX11_heaps_44 : decode cX11_heaps 44 = .ok (.aload_n 0, 1) := by decide +kernel
theorem dX11_heaps_45 : decode cX11_heaps 45 = .ok (.getfield 357, 3) := by decide +kernel
theorem dX11_heaps_48 : decode cX11_heaps 48 = .ok (.ireturn, 1) := by decide +kernel
theorem dX11_heap_0 : decode cX11_heap 0 = .ok (.aload_n 0, 1) := by decide +kernel
theorem dX11_heap_1 : decode cX11_heap 1 = .ok (.iconst 0, 1) := by decide +kernel
theorem dX11_heap_2 : decode cX11_heap 2 = .ok (.putfield 3, 3) := by decide +kernel
theorem dX11_heap_5 : decode cX11_heap 5 = .ok (.aload_n 0, 1) := by decide +kernel
theorem dX11_heap_6 : decode cX11_heap 6 = .ok (.iload_n 1, 1) := by decide +kernel
theorem dX11_heap_7 : decode cX11_heap 7 = .ok (.iconst 0, 1) := by decide +kernel
theorem dX11_heap_8 : decode cX11_heap 8 = .ok (.aload_n 0, 1) := by decide +kernel
theorem dX11_heap_9 : decode cX11_heap 9 = .ok (.getfield 20, 3) := by decide +kernel
theorem dX11_heap_12 : decode cX11_heap 12 = .ok (.bipush 8, 2) := by decide +kernel
theorem dX11_heap_14 : decode cX11_heap 14 = .ok (.iaload, 1) := by decide +kernel
theorem dX11_heap_15 : decode cX11_heap 15 = .ok (.iconst 1, 1) := by decide +kernel
theorem dX11_heap_16 : decode cX11_heap 16 = .ok (.isub, 1) := by decide +kernel
theorem dX11_heap_17 : decode cX11_heap 17 = .ok (.invokestatic 68, 3) := by decide +kernel
theorem dX11_heap_20 : decode cX11_heap 20 = .ok (.ifCond .ne 7, 3) := by decide +kernel
theorem dX11_heap_23 : decode cX11_heap 23 = .ok (.iconst 1, 1) := by decide +kernel
theorem dX11_heap_24 : decode cX11_heap 24 = .ok (.goto 4, 3) := by decide +kernel
theorem dX11_heap_27 : decode cX11_heap 27 = .ok (.iconst 0, 1) := by decide +kernel
theorem dX11_heap_28 : decode cX11_heap 28 = .ok (.iconst 1, 1) := by decide +kernel
theorem dX11_heap_29 : decode cX11_heap 29 = .ok (.invokevirtual 93, 3) := by decide +kernel
theorem dX11_heap_32 : decode cX11_heap 32 = .ok (.ifCond .eq 5, 3) := by decide +kernel
theorem dX11_heap_35 : decode cX11_heap 35 = .ok (.iconst 0, 1) := by decide +kernel
theorem dX11_heap_36 : decode cX11_heap 36 = .ok (.ireturn, 1) := by decide +kernel
theorem dX11_heap_37 : decode cX11_heap 37 = .ok (.aload_n 0, 1) := by decide +kernel
theorem dX11_heap_38 : decode cX11_heap 38 = .ok (.invokevirtual 367, 3) := by decide +kernel
theorem dX11_heap_41 : decode cX11_heap 41 = .ok (.aload_n 0, 1) := by decide +kernel
theorem dX11_heap_42 : decode cX11_heap 42 = .ok (.getfield 55, 3) := by decide +kernel
theorem dX11_heap_45 : decode cX11_heap 45 = .ok (.iload_n 1, 1) := by decide +kernel
theorem dX11_heap_46 : decode cX11_heap 46 = .ok (.iaload, 1) := by decide +kernel
theorem dX11_heap_47 : decode cX11_heap 47 = .ok (.ireturn, 1) := by decide +kernel
theorem dX11_stones_0 : decode cX11_stones 0 = .ok (.aload_n 0, 1) := by decide +kernel
theorem dX11_stones_1 : decode cX11_stones 1 = .ok (.iconst 0, 1) := by decide +kernel
theorem dX11_stones_2 : decode cX11_stones 2 = .ok (.putfield 3, 3) := by decide +kernel
theorem dX11_stones_5 : decode cX11_stones 5 = .ok (.aload_n 0, 1) := by decide +kernel
theorem dX11_stones_6 : decode cX11_stones 6 = .ok (.iload_n 1, 1) := by decide +kernel
theorem dX11_stones_7 : decode cX11_stones 7 = .ok (.invokestatic 89, 3) := by decide +kernel
theorem dX11_stones_10 : decode cX11_stones 10 = .ok (.iconst 1, 1) := by decide +kernel
theorem dX11_stones_11 : decode cX11_stones 11 = .ok (.invokevirtual 93, 3) := by decide +kernel
theorem dX11_stones_14 : decode cX11_stones 14 = .ok (.ifCond .ne 83, 3) := by decide +kernel
theorem dX11_stones_17 : decode cX11_stones 17 = .ok (.aload_n 0, 1) := by decide +kernel
theorem dX11_stones_18 : decode cX11_stones 18 = .ok (.iload_n 2, 1) := by decide +kernel
theorem dX11_stones_19 : decode cX11_stones 19 = .ok (.iconst 0, 1) := by decide +kernel
theorem dX11_stones_20 : decode cX11_stones 20 = .ok (.bipush 100, 2) := by decide +kernel
theorem dX11_stones_22 : decode cX11_stones 22 = .ok (.invokestatic 68, 3) := by decide +kernel
theorem dX11_stones_25 : decode cX11_stones 25 = .ok (.ifCond .eq 36, 3) := by decide +kernel
theorem dX11_stones_28 : decode cX11_stones 28 = .ok (.iload_n 3, 1) := by decide +kernel
theorem dX11_stones_29 : decode cX11_stones 29 = .ok (.iconst 0, 1) := by decide +kernel
theorem dX11_stones_30 : decode cX11_stones 30 = .ok (.bipush 100, 2) := by decide +kernel
theorem dX11_stones_32 : decode cX11_stones 32 = .ok (.invokestatic 68, 3) := by decide +kernel
theorem dX11_stones_35 : decode cX11_stones 35 = .ok (.ifCond .eq 26, 3) := by decide +kernel
theorem dX11_stones_38 : decode cX11_stones 38 = .ok (.iload 4, 2) := by decide +kernel
theorem dX11_stones_40 : decode cX11_stones 40 = .ok (.iconst 0, 1) := by decide +kernel
theorem dX11_stones_41 : decode cX11_stones 41 = .ok (.bipush 20, 2) := by decide +kernel
theorem dX11_stones_43 : decode cX11_stones 43 = .ok (.invokestatic 68, 3) := by decide +kernel
theorem dX11_stones_46 : decode cX11_stones 46 = .ok (.ifCond .eq 15, 3) := by decide +kernel
theorem dX11_stones_49 : decode cX11_stones 49 = .ok (.iload 5, 2) := by decide +kernel
theorem dX11_stones_51 : decode cX11_stones 51 = .ok (.iconst 1, 1) := by decide +kernel
theorem dX11_stones_52 : decode cX11_stones 52 = .ok (.sipush 1000, 3) := by decide +kernel
theorem dX11_stones_55 : decode cX11_stones 55 = .ok (.invokestatic 68, 3) := by decide +kernel
theorem dX11_stones_58 : decode cX11_stones 58 = .ok (.ifCond .ne 7, 3) := by decide +kernel
theorem dX11_stones_61 : decode cX11_stones 61 = .ok (.iconst 1, 1) := by decide +kernel
theorem dX11_stones_62 : decode cX11_stones 62 = .ok (.goto 4, 3) := by decide +kernel
theorem dX11_stones_65 : decode cX11_stones 65 = .ok (.iconst 0, 1) := by decide +kernel
theorem dX11_stones_66 : decode cX11_stones 66 = .ok (.iconst 2, 1) := by decide +kernel
theorem dX11_stones_67 : decode cX11_stones 67 = .ok (.invokevirtual 93, 3) := by decide +kernel
theorem dX11_stones_70 : decode cX11_stones 70 = .ok (.ifCond .ne 27, 3) := by decide +kernel
theorem dX11_stones_73 : decode cX11_stones 73 = .ok (.aload_n 0, 1) := by decide +kernel
theorem dX11_stones_74 : decode cX11_stones 74 = .ok (.aload_n 0, 1) := by decide +kernel
theorem dX11_stones_75 : decode cX11_stones 75 = .ok (.getfield 20, 3) := by decide +kernel
theorem dX11_stones_78 : decode cX11_stones 78 = .ok (.bipush 9, 2) := by decide +kernel
theorem dX11_stones_80 : decode cX11_stones 80 = .ok (.iaload, 1) := by decide +kernel
theorem dX11_stones_81 : decode cX11_stones 81 = .ok (.iconst 5, 1) := by decide +kernel
theorem dX11_stones_82 : decode cX11_stones 82 = .ok (.if_icmp .ne 7, 3) := by decide +kernel
theorem dX11_stones_85 : decode cX11_stones 85 = .ok (.iconst 1, 1) := by decide +kernel
theorem dX11_stones_86 : decode cX11_stones 86 = .ok (.goto 4, 3) := by decide +kernel
theorem dX11_stones_89 : decode cX11_stones 89 = .ok (.iconst 0, 1) := by decide +kernel
theorem dX11_stones_90 : decode cX11_stones 90 = .ok (.iconst 3, 1) := by decide +kernel
theorem dX11_stones_91 : decode cX11_stones 91 = .ok (.invokevirtual 93, 3) := by decide +kernel
theorem dX11_stones_94 : decode cX11_stones 94 = .ok (.ifCond .eq 5, 3) := by decide +kernel
theorem dX11_stones_97 : decode cX11_stones 97 = .ok (.iconst 0, 1) := by decide +kernel
theorem dX11_stones_98 : decode cX11_stones 98 = .ok (.ireturn, 1) := by decide +kernel
theorem dX11_stones_99 : decode cX11_stones 99 = .ok (.aload_n 0, 1) := by decide +kernel
theorem dX11_stones_100 : decode cX11_stones 100 = .ok (.getfield 20, 3) := by decide +kernel
theorem dX11_stones_103 : decode cX11_stones 103 = .ok (.bipush 9, 2) := by decide +kernel
theorem dX11_stones_105 : decode cX11_stones 105 = .ok (.iaload, 1) := by decide +kernel
theorem dX11_stones_106 : decode cX11_stones 106 = .ok (.istore 6, 2) := by decide +kernel
theorem dX11_stones_108 : decode cX11_stones 108 = .ok (.sipush 1082, 3) := by decide +kernel
theorem dX11_stones_111 : decode cX11_stones 111 = .ok (.bipush 6, 2) := by decide +kernel
theorem dX11_stones_113 : decode cX11_stones 113 = .ok (.iload 6, 2) := by decide +kernel
theorem dX11_stones_115 : decode cX11_stones 115 = .ok (.imul, 1) := by decide +kernel
theorem dX11_stones_116 : decode cX11_stones 116 = .ok (.iadd, 1) := by decide +kernel
theorem dX11_stones_117 : decode cX11_stones 117 = .ok (.istore 7, 2) := by decide +kernel
theorem dX11_stones_119 : decode cX11_stones 119 = .ok (.aload_n 0, 1) := by decide +kernel
theorem dX11_stones_120 : decode cX11_stones 120 = .ok (.getfield 20, 3) := by decide +kernel
theorem dX11_stones_123 : decode cX11_stones 123 = .ok (.iload 7, 2) := by decide +kernel
theorem dX11_stones_125 : decode cX11_stones 125 = .ok (.iload_n 1, 1) := by decide +kernel
theorem dX11_stones_126 : decode cX11_stones 126 = .ok (.iastore, 1) := by decide +kernel
theorem dX11_stones_127 : decode cX11_stones 127 = .ok (.aload_n 0, 1) := by decide +kernel
theorem dX11_stones_128 : decode cX11_stones 128 = .ok (.getfield 20, 3) := by decide +kernel
theorem dX11_stones_131 : decode cX11_stones 131 = .ok (.iload 7, 2) := by decide +kernel
theorem dX11_stones_133 : decode cX11_stones 133 = .ok (.iconst 1, 1) := by decide +kernel
theorem dX11_stones_134 : decode cX11_stones 134 = .ok (.iadd, 1) := by decide +kernel
theorem dX11_stones_135 : decode cX11_stones 135 = .ok (.iload_n 2, 1) := by decide +kernel
theorem dX11_stones_136 : decode cX11_stones 136 = .ok (.iastore, 1) := by decide +kernel
theorem dX11_stones_137 : decode cX11_stones 137 = .ok (.aload_n 0, 1) := by decide +kernel
theorem dX11_stones_138 : decode cX11_stones 138 = .ok (.getfield 20, 3) := by decide +kernel
theorem dX11_stones_141 : decode cX11_stones 141 = .ok (.iload 7, 2) := by decide +kernel
theorem dX11_stones_143 : decode cX11_stones 143 = .ok (.iconst 2, 1) := by decide +kernel
theorem dX11_stones_144 : decode cX11_stones 144 = .ok (.iadd, 1) := by decide +kernel
theorem dX11_stones_145 : decode cX11_stones 145 = .ok (.iload_n 3, 1) := by decide +kernel
theorem dX11_stones_146 : decode cX11_stones 146 = .ok (.iastore, 1) := by decide +kernel
theorem dX11_stones_147 : decode cX11_stones 147 = .ok (.aload_n 0, 1) := by decide +kernel
theorem dX11_stones_148 : decode cX11_stones 148 = .ok (.getfield 20, 3) := by decide +kernel
theorem dX11_stones_151 : decode cX11_stones 151 = .ok (.iload 7, 2) := by decide +kernel
theorem dX11_stones_153 : decode cX11_stones 153 = .ok (.iconst 3, 1) := by decide +kernel
theorem dX11_stones_154 : decode cX11_stones 154 = .ok (.iadd, 1) := by decide +kernel
theorem dX11_stones_155 : decode cX11_stones 155 = .ok (.iload 4, 2) := by decide +kernel
theorem dX11_stones_157 : decode cX11_stones 157 = .ok (.iastore, 1) := by decide +kernel
theorem dX11_stones_158 : decode cX11_stones 158 = .ok (.aload_n 0, 1) := by decide +kernel
theorem dX11_stones_159 : decode cX11_stones 159 = .ok (.getfield 20, 3) := by decide +kernel
theorem dX11_stones_162 : decode cX11_stones 162 = .ok (.iload 7, 2) := by decide +kernel
theorem dX11_stones_164 : decode cX11_stones 164 = .ok (.iconst 4, 1) := by decide +kernel
theorem dX11_stones_165 : decode cX11_stones 165 = .ok (.iadd, 1) := by decide +kernel
theorem dX11_stones_166 : decode cX11_stones 166 = .ok (.iload 5, 2) := by decide +kernel
theorem dX11_stones_168 : decode cX11_stones 168 = .ok (.iastore, 1) := by decide +kernel
theorem dX11_stones_169 : decode cX11_stones 169 = .ok (.aload_n 0, 1) := by decide +kernel
theorem dX11_stones_170 : decode cX11_stones 170 = .ok (.getfield 20, 3) := by decide +kernel
theorem dX11_stones_173 : decode cX11_stones 173 = .ok (.iload 7, 2) := by decide +kernel
theorem dX11_stones_175 : decode cX11_stones 175 = .ok (.iconst 5, 1) := by decide +kernel
theorem dX11_stones_176 : decode cX11_stones 176 = .ok (.iadd, 1) := by decide +kernel
theorem dX11_stones_177 : decode cX11_stones 177 = .ok (.aload_n 0, 1) := by decide +kernel
theorem dX11_stones_178 : decode cX11_stones 178 = .ok (.invokevirtual 97, 3) := by decide +kernel
theorem dX11_stones_181 : decode cX11_stones 181 = .ok (.iastore, 1) := by decide +kernel
theorem dX11_stones_182 : decode cX11_stones 182 = .ok (.aload_n 0, 1) := by decide +kernel
theorem dX11_stones_183 : decode cX11_stones 183 = .ok (.getfield 20, 3) := by decide +kernel
theorem dX11_stones_186 : decode cX11_stones 186 = .ok (.bipush 9, 2) := by decide +kernel
theorem dX11_stones_188 : decode cX11_stones 188 = .ok (.dup2, 1) := by decide +kernel
theorem dX11_stones_189 : decode cX11_stones 189 = .ok (.iaload, 1) := by decide +kernel
theorem dX11_stones_190 : decode cX11_stones 190 = .ok (.iconst 1, 1) := by decide +kernel
theorem dX11_stones_191 : decode cX11_stones 191 = .ok (.iadd, 1) := by decide +kernel
theorem dX11_stones_192 : decode cX11_stones 192 = .ok (.iastore, 1) := by decide +kernel
theorem dX11_stones_193 : decode cX11_stones 193 = .ok (.iload 6, 2) := by decide +kernel
theorem dX11_stones_195 : decode cX11_stones 195 = .ok (.ireturn, 1) := by decide +kernel
theorem dX11_gang_0 : decode cX11_gang 0 = .ok (.aload_n 0, 1) := by decide +kernel
theorem dX11_gang_1 : decode cX11_gang 1 = .ok (.iconst 0, 1) := by decide +kernel
theorem dX11_gang_2 : decode cX11_gang 2 = .ok (.putfield 3, 3) := by decide +kernel
theorem dX11_gang_5 : decode cX11_gang 5 = .ok (.aload_n 0, 1) := by decide +kernel
theorem dX11_gang_6 : decode cX11_gang 6 = .ok (.iload_n 1, 1) := by decide +kernel
theorem dX11_gang_7 : decode cX11_gang 7 = .ok (.invokestatic 89, 3) := by decide +kernel
theorem dX11_gang_10 : decode cX11_gang 10 = .ok (.iconst 1, 1) := by decide +kernel
theorem dX11_gang_11 : decode cX11_gang 11 = .ok (.invokevirtual 93, 3) := by decide +kernel
theorem dX11_gang_14 : decode cX11_gang 14 = .ok (.ifCond .ne 50, 3) := by decide +kernel
theorem dX11_gang_17 : decode cX11_gang 17 = .ok (.aload_n 0, 1) := by decide +kernel
theorem dX11_gang_18 : decode cX11_gang 18 = .ok (.iload_n 2, 1) := by decide +kernel
theorem dX11_gang_19 : decode cX11_gang 19 = .ok (.iconst 1, 1) := by decide +kernel
theorem dX11_gang_20 : decode cX11_gang 20 = .ok (.bipush 100, 2) := by decide +kernel
theorem dX11_gang_22 : decode cX11_gang 22 = .ok (.invokestatic 68, 3) := by decide +kernel
theorem dX11_gang_25 : decode cX11_gang 25 = .ok (.ifCond .ne 7, 3) := by decide +kernel
theorem dX11_gang_28 : decode cX11_gang 28 = .ok (.iconst 1, 1) := by decide +kernel
theorem dX11_gang_29 : decode cX11_gang 29 = .ok (.goto 4, 3) := by decide +kernel
theorem dX11_gang_32 : decode cX11_gang 32 = .ok (.iconst 0, 1) := by decide +kernel
theorem dX11_gang_33 : decode cX11_gang 33 = .ok (.iconst 2, 1) := by decide +kernel
theorem dX11_gang_34 : decode cX11_gang 34 = .ok (.invokevirtual 93, 3) := by decide +kernel
theorem dX11_gang_37 : decode cX11_gang 37 = .ok (.ifCond .ne 27, 3) := by decide +kernel
theorem dX11_gang_40 : decode cX11_gang 40 = .ok (.aload_n 0, 1) := by decide +kernel
theorem dX11_gang_41 : decode cX11_gang 41 = .ok (.aload_n 0, 1) := by decide +kernel
theorem dX11_gang_42 : decode cX11_gang 42 = .ok (.getfield 20, 3) := by decide +kernel
theorem dX11_gang_45 : decode cX11_gang 45 = .ok (.bipush 10, 2) := by decide +kernel
theorem dX11_gang_47 : decode cX11_gang 47 = .ok (.iaload, 1) := by decide +kernel
theorem dX11_gang_48 : decode cX11_gang 48 = .ok (.iconst 4, 1) := by decide +kernel
theorem dX11_gang_49 : decode cX11_gang 49 = .ok (.if_icmp .ne 7, 3) := by decide +kernel
theorem dX11_gang_52 : decode cX11_gang 52 = .ok (.iconst 1, 1) := by decide +kernel
theorem dX11_gang_53 : decode cX11_gang 53 = .ok (.goto 4, 3) := by decide +kernel
theorem dX11_gang_56 : decode cX11_gang 56 = .ok (.iconst 0, 1) := by decide +kernel
theorem dX11_gang_57 : decode cX11_gang 57 = .ok (.iconst 3, 1) := by decide +kernel
theorem dX11_gang_58 : decode cX11_gang 58 = .ok (.invokevirtual 93, 3) := by decide +kernel
theorem dX11_gang_61 : decode cX11_gang 61 = .ok (.ifCond .eq 5, 3) := by decide +kernel
theorem dX11_gang_64 : decode cX11_gang 64 = .ok (.iconst 0, 1) := by decide +kernel
theorem dX11_gang_65 : decode cX11_gang 65 = .ok (.ireturn, 1) := by decide +kernel
theorem dX11_gang_66 : decode cX11_gang 66 = .ok (.aload_n 0, 1) := by decide +kernel
theorem dX11_gang_67 : decode cX11_gang 67 = .ok (.getfield 20, 3) := by decide +kernel
theorem dX11_gang_70 : decode cX11_gang 70 = .ok (.bipush 10, 2) := by decide +kernel
theorem dX11_gang_72 : decode cX11_gang 72 = .ok (.iaload, 1) := by decide +kernel
theorem dX11_gang_73 : decode cX11_gang 73 = .ok (.istore_n 3, 1) := by decide +kernel
theorem dX11_gang_74 : decode cX11_gang 74 = .ok (.aload_n 0, 1) := by decide +kernel
theorem dX11_gang_75 : decode cX11_gang 75 = .ok (.getfield 20, 3) := by decide +kernel
theorem dX11_gang_78 : decode cX11_gang 78 = .ok (.sipush 1112, 3) := by decide +kernel
theorem dX11_gang_81 : decode cX11_gang 81 = .ok (.iconst 2, 1) := by decide +kernel
theorem dX11_gang_82 : decode cX11_gang 82 = .ok (.iload_n 3, 1) := by decide +kernel
theorem dX11_gang_83 : decode cX11_gang 83 = .ok (.imul, 1) := by decide +kernel
theorem dX11_gang_84 : decode cX11_gang 84 = .ok (.iadd, 1) := by decide +kernel
theorem dX11_gang_85 : decode cX11_gang 85 = .ok (.iload_n 1, 1) := by decide +kernel
theorem dX11_gang_86 : decode cX11_gang 86 = .ok (.iastore, 1) := by decide +kernel
theorem dX11_gang_87 : decode cX11_gang 87 = .ok (.aload_n 0, 1) := by decide +kernel
theorem dX11_gang_88 : decode cX11_gang 88 = .ok (.getfield 20, 3) := by decide +kernel
theorem dX11_gang_91 : decode cX11_gang 91 = .ok (.sipush 1112, 3) := by decide +kernel
theorem dX11_gang_94 : decode cX11_gang 94 = .ok (.iconst 2, 1) := by decide +kernel
theorem dX11_gang_95 : decode cX11_gang 95 = .ok (.iload_n 3, 1) := by decide +kernel
theorem dX11_gang_96 : decode cX11_gang 96 = .ok (.imul, 1) := by decide +kernel
theorem dX11_gang_97 : decode cX11_gang 97 = .ok (.iadd, 1) := by decide +kernel
theorem dX11_gang_98 : decode cX11_gang 98 = .ok (.iconst 1, 1) := by decide +kernel
theorem dX11_gang_99 : decode cX11_gang 99 = .ok (.iadd, 1) := by decide +kernel
theorem dX11_gang_100 : decode cX11_gang 100 = .ok (.iload_n 2, 1) := by decide +kernel
theorem dX11_gang_101 : decode cX11_gang 101 = .ok (.iastore, 1) := by decide +kernel
theorem dX11_gang_102 : decode cX11_gang 102 = .ok (.aload_n 0, 1) := by decide +kernel
theorem dX11_gang_103 : decode cX11_gang 103 = .ok (.getfield 20, 3) := by decide +kernel
theorem dX11_gang_106 : decode cX11_gang 106 = .ok (.bipush 10, 2) := by decide +kernel
theorem dX11_gang_108 : decode cX11_gang 108 = .ok (.dup2, 1) := by decide +kernel
theorem dX11_gang_109 : decode cX11_gang 109 = .ok (.iaload, 1) := by decide +kernel
theorem dX11_gang_110 : decode cX11_gang 110 = .ok (.iconst 1, 1) := by decide +kernel
theorem dX11_gang_111 : decode cX11_gang 111 = .ok (.iadd, 1) := by decide +kernel
theorem dX11_gang_112 : decode cX11_gang 112 = .ok (.iastore, 1) := by decide +kernel
theorem dX11_gang_113 : decode cX11_gang 113 = .ok (.iload_n 3, 1) := by decide +kernel
theorem dX11_gang_114 : decode cX11_gang 114 = .ok (.ireturn, 1) := by decide +kernel
theorem dX11_noGang_0 : decode cX11_noGang 0 = .ok (.iload_n 1, 1) := by decide +kernel
theorem dX11_noGang_1 : decode cX11_noGang 1 = .ok (.iconst 0, 1) := by decide +kernel
theorem dX11_noGang_2 : decode cX11_noGang 2 = .ok (.aload_n 0, 1) := by decide +kernel
theorem dX11_noGang_3 : decode cX11_noGang 3 = .ok (.getfield 20, 3) := by decide +kernel
theorem dX11_noGang_6 : decode cX11_noGang 6 = .ok (.bipush 10, 2) := by decide +kernel
theorem dX11_noGang_8 : decode cX11_noGang 8 = .ok (.iaload, 1) := by decide +kernel
theorem dX11_noGang_9 : decode cX11_noGang 9 = .ok (.iconst 1, 1) := by decide +kernel
theorem dX11_noGang_10 : decode cX11_noGang 10 = .ok (.isub, 1) := by decide +kernel
theorem dX11_noGang_11 : decode cX11_noGang 11 = .ok (.invokestatic 68, 3) := by decide +kernel
theorem dX11_noGang_14 : decode cX11_noGang 14 = .ok (.ifCond .ne 7, 3) := by decide +kernel
theorem dX11_noGang_17 : decode cX11_noGang 17 = .ok (.iconst 1, 1) := by decide +kernel
theorem dX11_noGang_18 : decode cX11_noGang 18 = .ok (.goto 4, 3) := by decide +kernel
theorem dX11_noGang_21 : decode cX11_noGang 21 = .ok (.iconst 0, 1) := by decide +kernel
theorem dX11_noGang_22 : decode cX11_noGang 22 = .ok (.ireturn, 1) := by decide +kernel
theorem dX11_savedBy_0 : decode cX11_savedBy 0 = .ok (.sipush 1082, 3) := by decide +kernel
theorem dX11_savedBy_3 : decode cX11_savedBy 3 = .ok (.bipush 6, 2) := by decide +kernel
theorem dX11_savedBy_5 : decode cX11_savedBy 5 = .ok (.iload_n 2, 1) := by decide +kernel
theorem dX11_savedBy_6 : decode cX11_savedBy 6 = .ok (.imul, 1) := by decide +kernel
theorem dX11_savedBy_7 : decode cX11_savedBy 7 = .ok (.iadd, 1) := by decide +kernel
theorem dX11_savedBy_8 : decode cX11_savedBy 8 = .ok (.istore_n 3, 1) := by decide +kernel
theorem dX11_savedBy_9 : decode cX11_savedBy 9 = .ok (.aload_n 0, 1) := by decide +kernel
theorem dX11_savedBy_10 : decode cX11_savedBy 10 = .ok (.getfield 20, 3) := by decide +kernel
theorem dX11_savedBy_13 : decode cX11_savedBy 13 = .ok (.sipush 1112, 3) := by decide +kernel
theorem dX11_savedBy_16 : decode cX11_savedBy 16 = .ok (.iconst 2, 1) := by decide +kernel
theorem dX11_savedBy_17 : decode cX11_savedBy 17 = .ok (.iload_n 1, 1) := by decide +kernel
theorem dX11_savedBy_18 : decode cX11_savedBy 18 = .ok (.imul, 1) := by decide +kernel
theorem dX11_savedBy_19 : decode cX11_savedBy 19 = .ok (.iadd, 1) := by decide +kernel
theorem dX11_savedBy_20 : decode cX11_savedBy 20 = .ok (.iconst 1, 1) := by decide +kernel
theorem dX11_savedBy_21 : decode cX11_savedBy 21 = .ok (.iadd, 1) := by decide +kernel
theorem dX11_savedBy_22 : decode cX11_savedBy 22 = .ok (.iaload, 1) := by decide +kernel
theorem dX11_savedBy_23 : decode cX11_savedBy 23 = .ok (.istore 4, 2) := by decide +kernel
theorem dX11_savedBy_25 : decode cX11_savedBy 25 = .ok (.aload_n 0, 1) := by decide +kernel
theorem dX11_savedBy_26 : decode cX11_savedBy 26 = .ok (.invokevirtual 97, 3) := by decide +kernel
theorem dX11_savedBy_29 : decode cX11_savedBy 29 = .ok (.aload_n 0, 1) := by decide +kernel
theorem dX11_savedBy_30 : decode cX11_savedBy 30 = .ok (.getfield 20, 3) := by decide +kernel
theorem dX11_savedBy_33 : decode cX11_savedBy 33 = .ok (.sipush 1112, 3) := by decide +kernel
theorem dX11_savedBy_36 : decode cX11_savedBy 36 = .ok (.iconst 2, 1) := by decide +kernel
theorem dX11_savedBy_37 : decode cX11_savedBy 37 = .ok (.iload_n 1, 1) := by decide +kernel
theorem dX11_savedBy_38 : decode cX11_savedBy 38 = .ok (.imul, 1) := by decide +kernel
theorem dX11_savedBy_39 : decode cX11_savedBy 39 = .ok (.iadd, 1) := by decide +kernel
theorem dX11_savedBy_40 : decode cX11_savedBy 40 = .ok (.iaload, 1) := by decide +kernel
theorem dX11_savedBy_41 : decode cX11_savedBy 41 = .ok (.aload_n 0, 1) := by decide +kernel
theorem dX11_savedBy_42 : decode cX11_savedBy 42 = .ok (.getfield 20, 3) := by decide +kernel
theorem dX11_savedBy_45 : decode cX11_savedBy 45 = .ok (.iload_n 3, 1) := by decide +kernel
theorem dX11_savedBy_46 : decode cX11_savedBy 46 = .ok (.iaload, 1) := by decide +kernel
theorem dX11_savedBy_47 : decode cX11_savedBy 47 = .ok (.invokestatic 334, 3) := by decide +kernel
theorem dX11_savedBy_50 : decode cX11_savedBy 50 = .ok (.iadd, 1) := by decide +kernel
theorem dX11_savedBy_51 : decode cX11_savedBy 51 = .ok (.aload_n 0, 1) := by decide +kernel
theorem dX11_savedBy_52 : decode cX11_savedBy 52 = .ok (.getfield 20, 3) := by decide +kernel
theorem dX11_savedBy_55 : decode cX11_savedBy 55 = .ok (.iload_n 3, 1) := by decide +kernel
theorem dX11_savedBy_56 : decode cX11_savedBy 56 = .ok (.iconst 4, 1) := by decide +kernel
theorem dX11_savedBy_57 : decode cX11_savedBy 57 = .ok (.iadd, 1) := by decide +kernel
theorem dX11_savedBy_58 : decode cX11_savedBy 58 = .ok (.iaload, 1) := by decide +kernel
theorem dX11_savedBy_59 : decode cX11_savedBy 59 = .ok (.iload 4, 2) := by decide +kernel
theorem dX11_savedBy_61 : decode cX11_savedBy 61 = .ok (.iadd, 1) := by decide +kernel
theorem dX11_savedBy_62 : decode cX11_savedBy 62 = .ok (.iconst 1, 1) := by decide +kernel
theorem dX11_savedBy_63 : decode cX11_savedBy 63 = .ok (.isub, 1) := by decide +kernel
theorem dX11_savedBy_64 : decode cX11_savedBy 64 = .ok (.iload 4, 2) := by decide +kernel
theorem dX11_savedBy_66 : decode cX11_savedBy 66 = .ok (.idiv, 1) := by decide +kernel
theorem dX11_savedBy_67 : decode cX11_savedBy 67 = .ok (.iadd, 1) := by decide +kernel
theorem dX11_savedBy_68 : decode cX11_savedBy 68 = .ok (.istore 5, 2) := by decide +kernel
theorem dX11_savedBy_70 : decode cX11_savedBy 70 = .ok (.aload_n 0, 1) := by decide +kernel
theorem dX11_savedBy_71 : decode cX11_savedBy 71 = .ok (.getfield 20, 3) := by decide +kernel
theorem dX11_savedBy_74 : decode cX11_savedBy 74 = .ok (.iload_n 3, 1) := by decide +kernel
theorem dX11_savedBy_75 : decode cX11_savedBy 75 = .ok (.iconst 1, 1) := by decide +kernel
theorem dX11_savedBy_76 : decode cX11_savedBy 76 = .ok (.iadd, 1) := by decide +kernel
theorem dX11_savedBy_77 : decode cX11_savedBy 77 = .ok (.iaload, 1) := by decide +kernel
theorem dX11_savedBy_78 : decode cX11_savedBy 78 = .ok (.iconst 0, 1) := by decide +kernel
theorem dX11_savedBy_79 : decode cX11_savedBy 79 = .ok (.aload_n 0, 1) := by decide +kernel
theorem dX11_savedBy_80 : decode cX11_savedBy 80 = .ok (.getfield 20, 3) := by decide +kernel
theorem dX11_savedBy_83 : decode cX11_savedBy 83 = .ok (.iload_n 3, 1) := by decide +kernel
theorem dX11_savedBy_84 : decode cX11_savedBy 84 = .ok (.iconst 2, 1) := by decide +kernel
theorem dX11_savedBy_85 : decode cX11_savedBy 85 = .ok (.iadd, 1) := by decide +kernel
theorem dX11_savedBy_86 : decode cX11_savedBy 86 = .ok (.iaload, 1) := by decide +kernel
theorem dX11_savedBy_87 : decode cX11_savedBy 87 = .ok (.aload_n 0, 1) := by decide +kernel
theorem dX11_savedBy_88 : decode cX11_savedBy 88 = .ok (.getfield 20, 3) := by decide +kernel
theorem dX11_savedBy_91 : decode cX11_savedBy 91 = .ok (.iload_n 3, 1) := by decide +kernel
theorem dX11_savedBy_92 : decode cX11_savedBy 92 = .ok (.iconst 3, 1) := by decide +kernel
theorem dX11_savedBy_93 : decode cX11_savedBy 93 = .ok (.iadd, 1) := by decide +kernel
theorem dX11_savedBy_94 : decode cX11_savedBy 94 = .ok (.iaload, 1) := by decide +kernel
theorem dX11_savedBy_95 : decode cX11_savedBy 95 = .ok (.iload 5, 2) := by decide +kernel
theorem dX11_savedBy_97 : decode cX11_savedBy 97 = .ok (.aload_n 0, 1) := by decide +kernel
theorem dX11_savedBy_98 : decode cX11_savedBy 98 = .ok (.getfield 20, 3) := by decide +kernel
theorem dX11_savedBy_101 : decode cX11_savedBy 101 = .ok (.iload_n 3, 1) := by decide +kernel
theorem dX11_savedBy_102 : decode cX11_savedBy 102 = .ok (.iconst 5, 1) := by decide +kernel
theorem dX11_savedBy_103 : decode cX11_savedBy 103 = .ok (.iadd, 1) := by decide +kernel
theorem dX11_savedBy_104 : decode cX11_savedBy 104 = .ok (.iaload, 1) := by decide +kernel
theorem dX11_savedBy_105 : decode cX11_savedBy 105 = .ok (.isub, 1) := by decide +kernel
theorem dX11_savedBy_106 : decode cX11_savedBy 106 = .ok (.imul, 1) := by decide +kernel
theorem dX11_savedBy_107 : decode cX11_savedBy 107 = .ok (.isub, 1) := by decide +kernel
theorem dX11_savedBy_108 : decode cX11_savedBy 108 = .ok (.invokestatic 228, 3) := by decide +kernel
theorem dX11_savedBy_111 : decode cX11_savedBy 111 = .ok (.imul, 1) := by decide +kernel
theorem dX11_savedBy_112 : decode cX11_savedBy 112 = .ok (.ireturn, 1) := by decide +kernel
theorem dX11_saved_0 : decode cX11_saved 0 = .ok (.aload_n 0, 1) := by decide +kernel
theorem dX11_saved_1 : decode cX11_saved 1 = .ok (.iconst 0, 1) := by decide +kernel
theorem dX11_saved_2 : decode cX11_saved 2 = .ok (.putfield 3, 3) := by decide +kernel
theorem dX11_saved_5 : decode cX11_saved 5 = .ok (.aload_n 0, 1) := by decide +kernel
theorem dX11_saved_6 : decode cX11_saved 6 = .ok (.aload_n 0, 1) := by decide +kernel
theorem dX11_saved_7 : decode cX11_saved 7 = .ok (.iload_n 1, 1) := by decide +kernel
theorem dX11_saved_8 : decode cX11_saved 8 = .ok (.invokevirtual 370, 3) := by decide +kernel
theorem dX11_saved_11 : decode cX11_saved 11 = .ok (.ifCond .ne 20, 3) := by decide +kernel
theorem dX11_saved_14 : decode cX11_saved 14 = .ok (.iload_n 2, 1) := by decide +kernel
theorem dX11_saved_15 : decode cX11_saved 15 = .ok (.iconst 0, 1) := by decide +kernel
theorem dX11_saved_16 : decode cX11_saved 16 = .ok (.aload_n 0, 1) := by decide +kernel
theorem dX11_saved_17 : decode cX11_saved 17 = .ok (.getfield 20, 3) := by decide +kernel
theorem dX11_saved_20 : decode cX11_saved 20 = .ok (.bipush 9, 2) := by decide +kernel
theorem dX11_saved_22 : decode cX11_saved 22 = .ok (.iaload, 1) := by decide +kernel
theorem dX11_saved_23 : decode cX11_saved 23 = .ok (.iconst 1, 1) := by decide +kernel
theorem dX11_saved_24 : decode cX11_saved 24 = .ok (.isub, 1) := by decide +kernel
theorem dX11_saved_25 : decode cX11_saved 25 = .ok (.invokestatic 68, 3) := by decide +kernel
theorem dX11_saved_28 : decode cX11_saved 28 = .ok (.ifCond .ne 7, 3) := by decide +kernel
theorem dX11_saved_31 : decode cX11_saved 31 = .ok (.iconst 1, 1) := by decide +kernel
theorem dX11_saved_32 : decode cX11_saved 32 = .ok (.goto 4, 3) := by decide +kernel
theorem dX11_saved_35 : decode cX11_saved 35 = .ok (.iconst 0, 1) := by decide +kernel
theorem dX11_saved_36 : decode cX11_saved 36 = .ok (.iconst 1, 1) := by decide +kernel
theorem dX11_saved_37 : decode cX11_saved 37 = .ok (.invokevirtual 93, 3) := by decide +kernel
theorem dX11_saved_40 : decode cX11_saved 40 = .ok (.ifCond .eq 7, 3) := by decide +kernel
theorem dX11_saved_43 : decode cX11_saved 43 = .ok (.iconst 0, 1) := by decide +kernel
theorem dX11_saved_44 : decode cX11_saved 44 = .ok (.goto 9, 3) := by decide +kernel
theorem dX11_saved_47 : decode cX11_saved 47 = .ok (.aload_n 0, 1) := by decide +kernel
theorem dX11_saved_48 : decode cX11_saved 48 = .ok (.iload_n 1, 1) := by decide +kernel
theorem dX11_saved_49 : decode cX11_saved 49 = .ok (.iload_n 2, 1) := by decide +kernel
theorem dX11_saved_50 : decode cX11_saved 50 = .ok (.invokevirtual 373, 3) := by decide +kernel
theorem dX11_saved_53 : decode cX11_saved 53 = .ok (.ireturn, 1) := by decide +kernel
theorem dX11_sends_0 : decode cX11_sends 0 = .ok (.iload_n 1, 1) := by decide +kernel
theorem dX11_sends_1 : decode cX11_sends 1 = .ok (.aload_n 0, 1) := by decide +kernel
theorem dX11_sends_2 : decode cX11_sends 2 = .ok (.getfield 20, 3) := by decide +kernel
theorem dX11_sends_5 : decode cX11_sends 5 = .ok (.bipush 10, 2) := by decide +kernel
theorem dX11_sends_7 : decode cX11_sends 7 = .ok (.iaload, 1) := by decide +kernel
theorem dX11_sends_8 : decode cX11_sends 8 = .ok (.if_icmp .ne 47, 3) := by decide +kernel
theorem dX11_sends_11 : decode cX11_sends 11 = .ok (.iload_n 3, 1) := by decide +kernel
theorem dX11_sends_12 : decode cX11_sends 12 = .ok (.aload_n 0, 1) := by decide +kernel
theorem dX11_sends_13 : decode cX11_sends 13 = .ok (.getfield 376, 3) := by decide +kernel
theorem dX11_sends_16 : decode cX11_sends 16 = .ok (.if_icmp .gt 4, 3) := by decide +kernel
theorem dX11_sends_19 : decode cX11_sends 19 = .ok (.return_, 1) := by decide +kernel
theorem dX11_sends_20 : decode cX11_sends 20 = .ok (.aload_n 0, 1) := by decide +kernel
theorem dX11_sends_21 : decode cX11_sends 21 = .ok (.iload_n 3, 1) := by decide +kernel
theorem dX11_sends_22 : decode cX11_sends 22 = .ok (.putfield 376, 3) := by decide +kernel
theorem dX11_sends_25 : decode cX11_sends 25 = .ok (.iconst 0, 1) := by decide +kernel
theorem dX11_sends_26 : decode cX11_sends 26 = .ok (.istore 4, 2) := by decide +kernel
theorem dX11_sends_28 : decode cX11_sends 28 = .ok (.iload 4, 2) := by decide +kernel
theorem dX11_sends_30 : decode cX11_sends 30 = .ok (.iload_n 1, 1) := by decide +kernel
theorem dX11_sends_31 : decode cX11_sends 31 = .ok (.if_icmp .ge 23, 3) := by decide +kernel
theorem dX11_sends_34 : decode cX11_sends 34 = .ok (.aload_n 0, 1) := by decide +kernel
theorem dX11_sends_35 : decode cX11_sends 35 = .ok (.getfield 61, 3) := by decide +kernel
theorem dX11_sends_38 : decode cX11_sends 38 = .ok (.iload 4, 2) := by decide +kernel
theorem dX11_sends_40 : decode cX11_sends 40 = .ok (.aload_n 0, 1) := by decide +kernel
theorem dX11_sends_41 : decode cX11_sends 41 = .ok (.getfield 58, 3) := by decide +kernel
theorem dX11_sends_44 : decode cX11_sends 44 = .ok (.iload 4, 2) := by decide +kernel
theorem dX11_sends_46 : decode cX11_sends 46 = .ok (.iaload, 1) := by decide +kernel
theorem dX11_sends_47 : decode cX11_sends 47 = .ok (.iastore, 1) := by decide +kernel
theorem dX11_sends_48 : decode cX11_sends 48 = .ok (.iinc 4 1, 3) := by decide +kernel
theorem dX11_sends_51 : decode cX11_sends 51 = .ok (.goto (-23), 3) := by decide +kernel
theorem dX11_sends_54 : decode cX11_sends 54 = .ok (.return_, 1) := by decide +kernel
theorem dX11_sends_55 : decode cX11_sends 55 = .ok (.iconst 0, 1) := by decide +kernel
theorem dX11_sends_56 : decode cX11_sends 56 = .ok (.istore 4, 2) := by decide +kernel
theorem dX11_sends_58 : decode cX11_sends 58 = .ok (.iload 4, 2) := by decide +kernel
theorem dX11_sends_60 : decode cX11_sends 60 = .ok (.aload_n 0, 1) := by decide +kernel
theorem dX11_sends_61 : decode cX11_sends 61 = .ok (.getfield 20, 3) := by decide +kernel
theorem dX11_sends_64 : decode cX11_sends 64 = .ok (.bipush 9, 2) := by decide +kernel
theorem dX11_sends_66 : decode cX11_sends 66 = .ok (.iaload, 1) := by decide +kernel
theorem dX11_sends_67 : decode cX11_sends 67 = .ok (.if_icmp .ge 52, 3) := by decide +kernel
theorem dX11_sends_70 : decode cX11_sends 70 = .ok (.iload_n 2, 1) := by decide +kernel
theorem dX11_sends_71 : decode cX11_sends 71 = .ok (.iload 4, 2) := by decide +kernel
theorem dX11_sends_73 : decode cX11_sends 73 = .ok (.ishr, 1) := by decide +kernel
theorem dX11_sends_74 : decode cX11_sends 74 = .ok (.iconst 1, 1) := by decide +kernel
theorem dX11_sends_75 : decode cX11_sends 75 = .ok (.iand, 1) := by decide +kernel
theorem dX11_sends_76 : decode cX11_sends 76 = .ok (.iconst 1, 1) := by decide +kernel
theorem dX11_sends_77 : decode cX11_sends 77 = .ok (.if_icmp .ne 6, 3) := by decide +kernel
theorem dX11_sends_80 : decode cX11_sends 80 = .ok (.goto 33, 3) := by decide +kernel
theorem dX11_sends_83 : decode cX11_sends 83 = .ok (.aload_n 0, 1) := by decide +kernel
theorem dX11_sends_84 : decode cX11_sends 84 = .ok (.getfield 58, 3) := by decide +kernel
theorem dX11_sends_87 : decode cX11_sends 87 = .ok (.iload_n 1, 1) := by decide +kernel
theorem dX11_sends_88 : decode cX11_sends 88 = .ok (.iload 4, 2) := by decide +kernel
theorem dX11_sends_90 : decode cX11_sends 90 = .ok (.iastore, 1) := by decide +kernel
theorem dX11_sends_91 : decode cX11_sends 91 = .ok (.aload_n 0, 1) := by decide +kernel
theorem dX11_sends_92 : decode cX11_sends 92 = .ok (.iload_n 1, 1) := by decide +kernel
theorem dX11_sends_93 : decode cX11_sends 93 = .ok (.iconst 1, 1) := by decide +kernel
theorem dX11_sends_94 : decode cX11_sends 94 = .ok (.iadd, 1) := by decide +kernel
theorem dX11_sends_95 : decode cX11_sends 95 = .ok (.iload_n 2, 1) := by decide +kernel
theorem dX11_sends_96 : decode cX11_sends 96 = .ok (.iconst 1, 1) := by decide +kernel
theorem dX11_sends_97 : decode cX11_sends 97 = .ok (.iload 4, 2) := by decide +kernel
theorem dX11_sends_99 : decode cX11_sends 99 = .ok (.ishl, 1) := by decide +kernel
theorem dX11_sends_100 : decode cX11_sends 100 = .ok (.ior, 1) := by decide +kernel
theorem dX11_sends_101 : decode cX11_sends 101 = .ok (.iload_n 3, 1) := by decide +kernel
theorem dX11_sends_102 : decode cX11_sends 102 = .ok (.aload_n 0, 1) := by decide +kernel
theorem dX11_sends_103 : decode cX11_sends 103 = .ok (.iload_n 1, 1) := by decide +kernel
theorem dX11_sends_104 : decode cX11_sends 104 = .ok (.iload 4, 2) := by decide +kernel
theorem dX11_sends_106 : decode cX11_sends 106 = .ok (.invokevirtual 373, 3) := by decide +kernel
theorem dX11_sends_109 : decode cX11_sends 109 = .ok (.iadd, 1) := by decide +kernel
theorem dX11_sends_110 : decode cX11_sends 110 = .ok (.invokevirtual 379, 3) := by decide +kernel
theorem dX11_sends_113 : decode cX11_sends 113 = .ok (.iinc 4 1, 3) := by decide +kernel
theorem dX11_sends_116 : decode cX11_sends 116 = .ok (.goto (-58), 3) := by decide +kernel
theorem dX11_sends_119 : decode cX11_sends 119 = .ok (.aload_n 0, 1) := by decide +kernel
theorem dX11_sends_120 : decode cX11_sends 120 = .ok (.getfield 58, 3) := by decide +kernel
theorem dX11_sends_123 : decode cX11_sends 123 = .ok (.iload_n 1, 1) := by decide +kernel
theorem dX11_sends_124 : decode cX11_sends 124 = .ok (.iconst (-1), 1) := by decide +kernel
theorem dX11_sends_125 : decode cX11_sends 125 = .ok (.iastore, 1) := by decide +kernel
theorem dX11_sends_126 : decode cX11_sends 126 = .ok (.aload_n 0, 1) := by decide +kernel
theorem dX11_sends_127 : decode cX11_sends 127 = .ok (.iload_n 1, 1) := by decide +kernel
theorem dX11_sends_128 : decode cX11_sends 128 = .ok (.iconst 1, 1) := by decide +kernel
theorem dX11_sends_129 : decode cX11_sends 129 = .ok (.iadd, 1) := by decide +kernel
theorem dX11_sends_130 : decode cX11_sends 130 = .ok (.iload_n 2, 1) := by decide +kernel
theorem dX11_sends_131 : decode cX11_sends 131 = .ok (.iload_n 3, 1) := by decide +kernel
theorem dX11_sends_132 : decode cX11_sends 132 = .ok (.invokevirtual 379, 3) := by decide +kernel
theorem dX11_sends_135 : decode cX11_sends 135 = .ok (.return_, 1) := by decide +kernel
theorem dX11_send_0 : decode cX11_send 0 = .ok (.aload_n 0, 1) := by decide +kernel
theorem dX11_send_1 : decode cX11_send 1 = .ok (.iconst 0, 1) := by decide +kernel
theorem dX11_send_2 : decode cX11_send 2 = .ok (.putfield 3, 3) := by decide +kernel
theorem dX11_send_5 : decode cX11_send 5 = .ok (.aload_n 0, 1) := by decide +kernel
theorem dX11_send_6 : decode cX11_send 6 = .ok (.iload_n 1, 1) := by decide +kernel
theorem dX11_send_7 : decode cX11_send 7 = .ok (.iconst (-1), 1) := by decide +kernel
theorem dX11_send_8 : decode cX11_send 8 = .ok (.if_icmp .eq 15, 3) := by decide +kernel
theorem dX11_send_11 : decode cX11_send 11 = .ok (.aload_n 0, 1) := by decide +kernel
theorem dX11_send_12 : decode cX11_send 12 = .ok (.iload_n 1, 1) := by decide +kernel
theorem dX11_send_13 : decode cX11_send 13 = .ok (.invokevirtual 370, 3) := by decide +kernel
theorem dX11_send_16 : decode cX11_send 16 = .ok (.ifCond .eq 7, 3) := by decide +kernel
theorem dX11_send_19 : decode cX11_send 19 = .ok (.iconst 1, 1) := by decide +kernel
theorem dX11_send_20 : decode cX11_send 20 = .ok (.goto 4, 3) := by decide +kernel
theorem dX11_send_23 : decode cX11_send 23 = .ok (.iconst 0, 1) := by decide +kernel
theorem dX11_send_24 : decode cX11_send 24 = .ok (.iconst 1, 1) := by decide +kernel
theorem dX11_send_25 : decode cX11_send 25 = .ok (.invokevirtual 93, 3) := by decide +kernel
theorem dX11_send_28 : decode cX11_send 28 = .ok (.ifCond .eq 5, 3) := by decide +kernel
theorem dX11_send_31 : decode cX11_send 31 = .ok (.iconst 0, 1) := by decide +kernel
theorem dX11_send_32 : decode cX11_send 32 = .ok (.ireturn, 1) := by decide +kernel
theorem dX11_send_33 : decode cX11_send 33 = .ok (.aload_n 0, 1) := by decide +kernel
theorem dX11_send_34 : decode cX11_send 34 = .ok (.iconst (-1), 1) := by decide +kernel
theorem dX11_send_35 : decode cX11_send 35 = .ok (.putfield 376, 3) := by decide +kernel
theorem dX11_send_38 : decode cX11_send 38 = .ok (.aload_n 0, 1) := by decide +kernel
theorem dX11_send_39 : decode cX11_send 39 = .ok (.iconst 0, 1) := by decide +kernel
theorem dX11_send_40 : decode cX11_send 40 = .ok (.iconst 0, 1) := by decide +kernel
theorem dX11_send_41 : decode cX11_send 41 = .ok (.iconst 0, 1) := by decide +kernel
theorem dX11_send_42 : decode cX11_send 42 = .ok (.invokevirtual 379, 3) := by decide +kernel
theorem dX11_send_45 : decode cX11_send 45 = .ok (.iload_n 1, 1) := by decide +kernel
theorem dX11_send_46 : decode cX11_send 46 = .ok (.iconst (-1), 1) := by decide +kernel
theorem dX11_send_47 : decode cX11_send 47 = .ok (.if_icmp .ne 10, 3) := by decide +kernel
theorem dX11_send_50 : decode cX11_send 50 = .ok (.aload_n 0, 1) := by decide +kernel
theorem dX11_send_51 : decode cX11_send 51 = .ok (.getfield 376, 3) := by decide +kernel
theorem dX11_send_54 : decode cX11_send 54 = .ok (.goto 9, 3) := by decide +kernel
theorem dX11_send_57 : decode cX11_send 57 = .ok (.aload_n 0, 1) := by decide +kernel
theorem dX11_send_58 : decode cX11_send 58 = .ok (.getfield 61, 3) := by decide +kernel
theorem dX11_send_61 : decode cX11_send 61 = .ok (.iload_n 1, 1) := by decide +kernel
theorem dX11_send_62 : decode cX11_send 62 = .ok (.iaload, 1) := by decide +kernel
theorem dX11_send_63 : decode cX11_send 63 = .ok (.ireturn, 1) := by decide +kernel
theorem dX11_hide_0 : decode cX11_hide 0 = .ok (.aload_n 0, 1) := by decide +kernel
theorem dX11_hide_1 : decode cX11_hide 1 = .ok (.iconst 0, 1) := by decide +kernel
theorem dX11_hide_2 : decode cX11_hide 2 = .ok (.putfield 3, 3) := by decide +kernel
theorem dX11_hide_5 : decode cX11_hide 5 = .ok (.aload_n 0, 1) := by decide +kernel
theorem dX11_hide_6 : decode cX11_hide 6 = .ok (.iload_n 1, 1) := by decide +kernel
theorem dX11_hide_7 : decode cX11_hide 7 = .ok (.invokestatic 312, 3) := by decide +kernel
theorem dX11_hide_10 : decode cX11_hide 10 = .ok (.iconst 1, 1) := by decide +kernel
theorem dX11_hide_11 : decode cX11_hide 11 = .ok (.invokevirtual 93, 3) := by decide +kernel
theorem dX11_hide_14 : decode cX11_hide 14 = .ok (.ifCond .ne 25, 3) := by decide +kernel
theorem dX11_hide_17 : decode cX11_hide 17 = .ok (.aload_n 0, 1) := by decide +kernel
theorem dX11_hide_18 : decode cX11_hide 18 = .ok (.getfield 20, 3) := by decide +kernel
theorem dX11_hide_21 : decode cX11_hide 21 = .ok (.sipush 1120, 3) := by decide +kernel
theorem dX11_hide_24 : decode cX11_hide 24 = .ok (.iload_n 1, 1) := by decide +kernel
theorem dX11_hide_25 : decode cX11_hide 25 = .ok (.iadd, 1) := by decide +kernel
theorem dX11_hide_26 : decode cX11_hide 26 = .ok (.iaload, 1) := by decide +kernel
theorem dX11_hide_27 : decode cX11_hide 27 = .ok (.iload_n 2, 1) := by decide +kernel
theorem dX11_hide_28 : decode cX11_hide 28 = .ok (.ifCond .eq 7, 3) := by decide +kernel
theorem dX11_hide_31 : decode cX11_hide 31 = .ok (.iconst 1, 1) := by decide +kernel
theorem dX11_hide_32 : decode cX11_hide 32 = .ok (.goto 4, 3) := by decide +kernel
theorem dX11_hide_35 : decode cX11_hide 35 = .ok (.iconst 0, 1) := by decide +kernel
theorem dX11_hide_36 : decode cX11_hide 36 = .ok (.if_icmp .ne 5, 3) := by decide +kernel
theorem dX11_hide_39 : decode cX11_hide 39 = .ok (.iconst 0, 1) := by decide +kernel
theorem dX11_hide_40 : decode cX11_hide 40 = .ok (.ireturn, 1) := by decide +kernel
theorem dX11_hide_41 : decode cX11_hide 41 = .ok (.aload_n 0, 1) := by decide +kernel
theorem dX11_hide_42 : decode cX11_hide 42 = .ok (.getfield 20, 3) := by decide +kernel
theorem dX11_hide_45 : decode cX11_hide 45 = .ok (.sipush 1120, 3) := by decide +kernel
theorem dX11_hide_48 : decode cX11_hide 48 = .ok (.iload_n 1, 1) := by decide +kernel
theorem dX11_hide_49 : decode cX11_hide 49 = .ok (.iadd, 1) := by decide +kernel
theorem dX11_hide_50 : decode cX11_hide 50 = .ok (.iload_n 2, 1) := by decide +kernel
theorem dX11_hide_51 : decode cX11_hide 51 = .ok (.ifCond .eq 7, 3) := by decide +kernel
theorem dX11_hide_54 : decode cX11_hide 54 = .ok (.iconst 1, 1) := by decide +kernel
theorem dX11_hide_55 : decode cX11_hide 55 = .ok (.goto 4, 3) := by decide +kernel
theorem dX11_hide_58 : decode cX11_hide 58 = .ok (.iconst 0, 1) := by decide +kernel
theorem dX11_hide_59 : decode cX11_hide 59 = .ok (.iastore, 1) := by decide +kernel
theorem dX11_hide_60 : decode cX11_hide 60 = .ok (.iconst 1, 1) := by decide +kernel
theorem dX11_hide_61 : decode cX11_hide 61 = .ok (.ireturn, 1) := by decide +kernel
theorem dX11_ask_0 : decode cX11_ask 0 = .ok (.aload_n 0, 1) := by decide +kernel
theorem dX11_ask_1 : decode cX11_ask 1 = .ok (.iconst 0, 1) := by decide +kernel
theorem dX11_ask_2 : decode cX11_ask 2 = .ok (.putfield 3, 3) := by decide +kernel
theorem dX11_ask_5 : decode cX11_ask 5 = .ok (.aload_n 0, 1) := by decide +kernel
theorem dX11_ask_6 : decode cX11_ask 6 = .ok (.iload_n 1, 1) := by decide +kernel
theorem dX11_ask_7 : decode cX11_ask 7 = .ok (.invokestatic 312, 3) := by decide +kernel
theorem dX11_ask_10 : decode cX11_ask 10 = .ok (.iconst 1, 1) := by decide +kernel
theorem dX11_ask_11 : decode cX11_ask 11 = .ok (.invokevirtual 93, 3) := by decide +kernel
theorem dX11_ask_14 : decode cX11_ask 14 = .ok (.ifCond .eq 5, 3) := by decide +kernel
theorem dX11_ask_17 : decode cX11_ask 17 = .ok (.iconst 0, 1) := by decide +kernel
theorem dX11_ask_18 : decode cX11_ask 18 = .ok (.ireturn, 1) := by decide +kernel
theorem dX11_ask_19 : decode cX11_ask 19 = .ok (.aload_n 0, 1) := by decide +kernel
theorem dX11_ask_20 : decode cX11_ask 20 = .ok (.iload_n 1, 1) := by decide +kernel
theorem dX11_ask_21 : decode cX11_ask 21 = .ok (.aload_n 0, 1) := by decide +kernel
theorem dX11_ask_22 : decode cX11_ask 22 = .ok (.invokevirtual 97, 3) := by decide +kernel
theorem dX11_ask_25 : decode cX11_ask 25 = .ok (.aload_n 0, 1) := by decide +kernel
theorem dX11_ask_26 : decode cX11_ask 26 = .ok (.invokevirtual 97, 3) := by decide +kernel
theorem dX11_ask_29 : decode cX11_ask 29 = .ok (.invokevirtual 345, 3) := by decide +kernel
theorem dX11_ask_32 : decode cX11_ask 32 = .ok (.istore_n 3, 1) := by decide +kernel
theorem dX11_ask_33 : decode cX11_ask 33 = .ok (.aload_n 0, 1) := by decide +kernel
theorem dX11_ask_34 : decode cX11_ask 34 = .ok (.getfield 328, 3) := by decide +kernel
theorem dX11_ask_37 : decode cX11_ask 37 = .ok (.ifCond .ne 5, 3) := by decide +kernel
theorem dX11_ask_40 : decode cX11_ask 40 = .ok (.iconst 0, 1) := by decide +kernel
theorem dX11_ask_41 : decode cX11_ask 41 = .ok (.ireturn, 1) := by decide +kernel
theorem dX11_ask_42 : decode cX11_ask 42 = .ok (.iconst 0, 1) := by decide +kernel
theorem dX11_ask_43 : decode cX11_ask 43 = .ok (.istore 4, 2) := by decide +kernel
theorem dX11_ask_45 : decode cX11_ask 45 = .ok (.iload 4, 2) := by decide +kernel
theorem dX11_ask_47 : decode cX11_ask 47 = .ok (.bipush 7, 2) := by decide +kernel
theorem dX11_ask_49 : decode cX11_ask 49 = .ok (.if_icmp .ge 32, 3) := by decide +kernel
theorem dX11_ask_52 : decode cX11_ask 52 = .ok (.aload_n 0, 1) := by decide +kernel
theorem dX11_ask_53 : decode cX11_ask 53 = .ok (.getfield 36, 3) := by decide +kernel
theorem dX11_ask_56 : decode cX11_ask 56 = .ok (.iload 4, 2) := by decide +kernel
theorem dX11_ask_58 : decode cX11_ask 58 = .ok (.iload 4, 2) := by decide +kernel
theorem dX11_ask_60 : decode cX11_ask 60 = .ok (.bipush 6, 2) := by decide +kernel
theorem dX11_ask_62 : decode cX11_ask 62 = .ok (.if_icmp .ne 11, 3) := by decide +kernel
theorem dX11_ask_65 : decode cX11_ask 65 = .ok (.iload_n 2, 1) := by decide +kernel
theorem dX11_ask_66 : decode cX11_ask 66 = .ok (.ifCond .eq 7, 3) := by decide +kernel
theorem dX11_ask_69 : decode cX11_ask 69 = .ok (.iconst 1, 1) := by decide +kernel
theorem dX11_ask_70 : decode cX11_ask 70 = .ok (.goto 4, 3) := by decide +kernel
theorem dX11_ask_73 : decode cX11_ask 73 = .ok (.iconst 0, 1) := by decide +kernel
theorem dX11_ask_74 : decode cX11_ask 74 = .ok (.bastore, 1) := by decide +kernel
theorem dX11_ask_75 : decode cX11_ask 75 = .ok (.iinc 4 1, 3) := by decide +kernel
theorem dX11_ask_78 : decode cX11_ask 78 = .ok (.goto (-33), 3) := by decide +kernel
theorem dX11_ask_81 : decode cX11_ask 81 = .ok (.iconst 0, 1) := by decide +kernel
theorem dX11_ask_82 : decode cX11_ask 82 = .ok (.istore 4, 2) := by decide +kernel
theorem dX11_ask_84 : decode cX11_ask 84 = .ok (.iload 4, 2) := by decide +kernel
theorem dX11_ask_86 : decode cX11_ask 86 = .ok (.iconst 5, 1) := by decide +kernel
theorem dX11_ask_87 : decode cX11_ask 87 = .ok (.if_icmp .ge 17, 3) := by decide +kernel
theorem dX11_ask_90 : decode cX11_ask 90 = .ok (.aload_n 0, 1) := by decide +kernel
theorem dX11_ask_91 : decode cX11_ask 91 = .ok (.getfield 40, 3) := by decide +kernel
theorem dX11_ask_94 : decode cX11_ask 94 = .ok (.iload 4, 2) := by decide +kernel
theorem dX11_ask_96 : decode cX11_ask 96 = .ok (.iconst 0, 1) := by decide +kernel
theorem dX11_ask_97 : decode cX11_ask 97 = .ok (.iastore, 1) := by decide +kernel
theorem dX11_ask_98 : decode cX11_ask 98 = .ok (.iinc 4 1, 3) := by decide +kernel
theorem dX11_ask_101 : decode cX11_ask 101 = .ok (.goto (-17), 3) := by decide +kernel
theorem dX11_ask_104 : decode cX11_ask 104 = .ok (.aload_n 0, 1) := by decide +kernel
theorem dX11_ask_105 : decode cX11_ask 105 = .ok (.getfield 20, 3) := by decide +kernel
theorem dX11_ask_108 : decode cX11_ask 108 = .ok (.sipush 1120, 3) := by decide +kernel
theorem dX11_ask_111 : decode cX11_ask 111 = .ok (.iload_n 1, 1) := by decide +kernel
theorem dX11_ask_112 : decode cX11_ask 112 = .ok (.iadd, 1) := by decide +kernel
theorem dX11_ask_113 : decode cX11_ask 113 = .ok (.iaload, 1) := by decide +kernel
theorem dX11_ask_114 : decode cX11_ask 114 = .ok (.ifCond .ne 7, 3) := by decide +kernel
theorem dX11_ask_117 : decode cX11_ask 117 = .ok (.iconst 1, 1) := by decide +kernel
theorem dX11_ask_118 : decode cX11_ask 118 = .ok (.goto 4, 3) := by decide +kernel
theorem dX11_ask_121 : decode cX11_ask 121 = .ok (.iconst 0, 1) := by decide +kernel
theorem dX11_ask_122 : decode cX11_ask 122 = .ok (.istore 4, 2) := by decide +kernel
theorem dX11_ask_124 : decode cX11_ask 124 = .ok (.iconst 0, 1) := by decide +kernel
theorem dX11_ask_125 : decode cX11_ask 125 = .ok (.istore 5, 2) := by decide +kernel
theorem dX11_ask_127 : decode cX11_ask 127 = .ok (.iload 5, 2) := by decide +kernel
theorem dX11_ask_129 : decode cX11_ask 129 = .ok (.aload_n 0, 1) := by decide +kernel
theorem dX11_ask_130 : decode cX11_ask 130 = .ok (.invokevirtual 252, 3) := by decide +kernel
theorem dX11_ask_133 : decode cX11_ask 133 = .ok (.if_icmp .ge 48, 3) := by decide +kernel
theorem dX11_ask_136 : decode cX11_ask 136 = .ok (.iload 4, 2) := by decide +kernel
theorem dX11_ask_138 : decode cX11_ask 138 = .ok (.ifCond .ne 30, 3) := by decide +kernel
theorem dX11_ask_141 : decode cX11_ask 141 = .ok (.aload_n 0, 1) := by decide +kernel
theorem dX11_ask_142 : decode cX11_ask 142 = .ok (.getfield 20, 3) := by decide +kernel
theorem dX11_ask_145 : decode cX11_ask 145 = .ok (.aload_n 0, 1) := by decide +kernel
theorem dX11_ask_146 : decode cX11_ask 146 = .ok (.getfield 246, 3) := by decide +kernel
theorem dX11_ask_149 : decode cX11_ask 149 = .ok (.iload 5, 2) := by decide +kernel
theorem dX11_ask_151 : decode cX11_ask 151 = .ok (.invokestatic 209, 3) := by decide +kernel
theorem dX11_ask_154 : decode cX11_ask 154 = .ok (.iaload, 1) := by decide +kernel
theorem dX11_ask_155 : decode cX11_ask 155 = .ok (.iconst 3, 1) := by decide +kernel
theorem dX11_ask_156 : decode cX11_ask 156 = .ok (.if_icmp .ne 16, 3) := by decide +kernel
theorem dX11_ask_159 : decode cX11_ask 159 = .ok (.aload_n 0, 1) := by decide +kernel
theorem dX11_ask_160 : decode cX11_ask 160 = .ok (.iload 5, 2) := by decide +kernel
theorem dX11_ask_162 : decode cX11_ask 162 = .ok (.invokevirtual 255, 3) := by decide +kernel
theorem dX11_ask_165 : decode cX11_ask 165 = .ok (.ifCond .eq 7, 3) := by decide +kernel
theorem dX11_ask_168 : decode cX11_ask 168 = .ok (.iconst 1, 1) := by decide +kernel
theorem dX11_ask_169 : decode cX11_ask 169 = .ok (.goto 4, 3) := by decide +kernel
theorem dX11_ask_172 : decode cX11_ask 172 = .ok (.iconst 0, 1) := by decide +kernel
theorem dX11_ask_173 : decode cX11_ask 173 = .ok (.istore 4, 2) := by decide +kernel
theorem dX11_ask_175 : decode cX11_ask 175 = .ok (.iinc 5 1, 3) := by decide +kernel
theorem dX11_ask_178 : decode cX11_ask 178 = .ok (.goto (-51), 3) := by decide +kernel
theorem dX11_ask_181 : decode cX11_ask 181 = .ok (.iload 4, 2) := by decide +kernel
theorem dX11_ask_183 : decode cX11_ask 183 = .ok (.ifCond .eq 7, 3) := by decide +kernel
theorem dX11_ask_186 : decode cX11_ask 186 = .ok (.iload_n 3, 1) := by decide +kernel
theorem dX11_ask_187 : decode cX11_ask 187 = .ok (.goto 4, 3) := by decide +kernel
theorem dX11_ask_190 : decode cX11_ask 190 = .ok (.iconst 0, 1) := by decide +kernel
theorem dX11_ask_191 : decode cX11_ask 191 = .ok (.ireturn, 1) := by decide +kernel
theorem dX11_runs_0 : decode cX11_runs 0 = .ok (.aload_n 0, 1) := by decide +kernel
theorem dX11_runs_1 : decode cX11_runs 1 = .ok (.getfield 17, 3) := by decide +kernel
theorem dX11_runs_4 : decode cX11_runs 4 = .ok (.iconst 0, 1) := by decide +kernel
theorem dX11_runs_5 : decode cX11_runs 5 = .ok (.iaload, 1) := by decide +kernel
theorem dX11_runs_6 : decode cX11_runs 6 = .ok (.ifCond .le 34, 3) := by decide +kernel
theorem dX11_runs_9 : decode cX11_runs 9 = .ok (.iconst 0, 1) := by decide +kernel
theorem dX11_runs_10 : decode cX11_runs 10 = .ok (.istore_n 2, 1) := by decide +kernel
theorem dX11_runs_11 : decode cX11_runs 11 = .ok (.iload_n 2, 1) := by decide +kernel
theorem dX11_runs_12 : decode cX11_runs 12 = .ok (.sipush 2301, 3) := by decide +kernel
theorem dX11_runs_15 : decode cX11_runs 15 = .ok (.if_icmp .ge 25, 3) := by decide +kernel
theorem dX11_runs_18 : decode cX11_runs 18 = .ok (.aload_n 0, 1) := by decide +kernel
theorem dX11_runs_19 : decode cX11_runs 19 = .ok (.getfield 13, 3) := by decide +kernel
theorem dX11_runs_22 : decode cX11_runs 22 = .ok (.iload_n 2, 1) := by decide +kernel
theorem dX11_runs_23 : decode cX11_runs 23 = .ok (.aload_n 0, 1) := by decide +kernel
theorem dX11_runs_24 : decode cX11_runs 24 = .ok (.getfield 20, 3) := by decide +kernel
theorem dX11_runs_27 : decode cX11_runs 27 = .ok (.sipush 1938, 3) := by decide +kernel
theorem dX11_runs_30 : decode cX11_runs 30 = .ok (.iload_n 2, 1) := by decide +kernel
theorem dX11_runs_31 : decode cX11_runs 31 = .ok (.iadd, 1) := by decide +kernel
theorem dX11_runs_32 : decode cX11_runs 32 = .ok (.iaload, 1) := by decide +kernel
theorem dX11_runs_33 : decode cX11_runs 33 = .ok (.iastore, 1) := by decide +kernel
theorem dX11_runs_34 : decode cX11_runs 34 = .ok (.iinc 2 1, 3) := by decide +kernel
theorem dX11_runs_37 : decode cX11_runs 37 = .ok (.goto (-26), 3) := by decide +kernel
theorem dX11_runs_40 : decode cX11_runs 40 = .ok (.aload_n 0, 1) := by decide +kernel
theorem dX11_runs_41 : decode cX11_runs 41 = .ok (.invokevirtual 97, 3) := by decide +kernel
theorem dX11_runs_44 : decode cX11_runs 44 = .ok (.iload_n 1, 1) := by decide +kernel
theorem dX11_runs_45 : decode cX11_runs 45 = .ok (.if_icmp .ge 44, 3) := by decide +kernel
theorem dX11_runs_48 : decode cX11_runs 48 = .ok (.aload_n 0, 1) := by decide +kernel
theorem dX11_runs_49 : decode cX11_runs 49 = .ok (.invokevirtual 306, 3) := by decide +kernel
theorem dX11_runs_52 : decode cX11_runs 52 = .ok (.iconst 0, 1) := by decide +kernel
theorem dX11_runs_53 : decode cX11_runs 53 = .ok (.istore_n 2, 1) := by decide +kernel
theorem dX11_runs_54 : decode cX11_runs 54 = .ok (.iload_n 2, 1) := by decide +kernel
theorem dX11_runs_55 : decode cX11_runs 55 = .ok (.aload_n 0, 1) := by decide +kernel
theorem dX11_runs_56 : decode cX11_runs 56 = .ok (.invokevirtual 72, 3) := by decide +kernel
theorem dX11_runs_59 : decode cX11_runs 59 = .ok (.if_icmp .ge 27, 3) := by decide +kernel
theorem dX11_runs_62 : decode cX11_runs 62 = .ok (.aload_n 0, 1) := by decide +kernel
theorem dX11_runs_63 : decode cX11_runs 63 = .ok (.iload_n 2, 1) := by decide +kernel
theorem dX11_runs_64 : decode cX11_runs 64 = .ok (.iconst 2, 1) := by decide +kernel
theorem dX11_runs_65 : decode cX11_runs 65 = .ok (.invokevirtual 240, 3) := by decide +kernel
theorem dX11_runs_68 : decode cX11_runs 68 = .ok (.aload_n 0, 1) := by decide +kernel
theorem dX11_runs_69 : decode cX11_runs 69 = .ok (.invokevirtual 97, 3) := by decide +kernel
theorem dX11_runs_72 : decode cX11_runs 72 = .ok (.if_icmp .ne 8, 3) := by decide +kernel
theorem dX11_runs_75 : decode cX11_runs 75 = .ok (.aload_n 0, 1) := by decide +kernel
theorem dX11_runs_76 : decode cX11_runs 76 = .ok (.iload_n 2, 1) := by decide +kernel
theorem dX11_runs_77 : decode cX11_runs 77 = .ok (.invokevirtual 318, 3) := by decide +kernel
theorem dX11_runs_80 : decode cX11_runs 80 = .ok (.iinc 2 1, 3) := by decide +kernel
theorem dX11_runs_83 : decode cX11_runs 83 = .ok (.goto (-29), 3) := by decide +kernel
theorem dX11_runs_86 : decode cX11_runs 86 = .ok (.goto (-46), 3) := by decide +kernel
theorem dX11_runs_89 : decode cX11_runs 89 = .ok (.return_, 1) := by decide +kernel
theorem dX11_copy__0 : decode cX11_copy_ 0 = .ok (.iconst 0, 1) := by decide +kernel
theorem dX11_copy__1 : decode cX11_copy_ 1 = .ok (.istore_n 3, 1) := by decide +kernel
theorem dX11_copy__2 : decode cX11_copy_ 2 = .ok (.iload_n 3, 1) := by decide +kernel
theorem dX11_copy__3 : decode cX11_copy_ 3 = .ok (.sipush 2301, 3) := by decide +kernel
theorem dX11_copy__6 : decode cX11_copy_ 6 = .ok (.if_icmp .ge 15, 3) := by decide +kernel
theorem dX11_copy__9 : decode cX11_copy_ 9 = .ok (.aload_n 2, 1) := by decide +kernel
theorem dX11_copy__10 : decode cX11_copy_ 10 = .ok (.iload_n 3, 1) := by decide +kernel
theorem dX11_copy__11 : decode cX11_copy_ 11 = .ok (.aload_n 1, 1) := by decide +kernel
theorem dX11_copy__12 : decode cX11_copy_ 12 = .ok (.iload_n 3, 1) := by decide +kernel
theorem dX11_copy__13 : decode cX11_copy_ 13 = .ok (.iaload, 1) := by decide +kernel
theorem dX11_copy__14 : decode cX11_copy_ 14 = .ok (.iastore, 1) := by decide +kernel
theorem dX11_copy__15 : decode cX11_copy_ 15 = .ok (.iinc 3 1, 3) := by decide +kernel
theorem dX11_copy__18 : decode cX11_copy_ 18 = .ok (.goto (-16), 3) := by decide +kernel
theorem dX11_copy__21 : decode cX11_copy_ 21 = .ok (.return_, 1) := by decide +kernel
theorem dX11_far_0 : decode cX11_far 0 = .ok (.aload_n 0, 1) := by decide +kernel
theorem dX11_far_1 : decode cX11_far 1 = .ok (.iconst 0, 1) := by decide +kernel
theorem dX11_far_2 : decode cX11_far 2 = .ok (.putfield 3, 3) := by decide +kernel
theorem dX11_far_5 : decode cX11_far 5 = .ok (.aload_n 0, 1) := by decide +kernel
theorem dX11_far_6 : decode cX11_far 6 = .ok (.aload_n 0, 1) := by decide +kernel
theorem dX11_far_7 : decode cX11_far 7 = .ok (.iload_n 1, 1) := by decide +kernel
theorem dX11_far_8 : decode cX11_far 8 = .ok (.invokevirtual 322, 3) := by decide +kernel
theorem dX11_far_11 : decode cX11_far 11 = .ok (.iconst 1, 1) := by decide +kernel
theorem dX11_far_12 : decode cX11_far 12 = .ok (.invokevirtual 93, 3) := by decide +kernel
theorem dX11_far_15 : decode cX11_far 15 = .ok (.ifCond .ne 20, 3) := by decide +kernel
theorem dX11_far_18 : decode cX11_far 18 = .ok (.aload_n 0, 1) := by decide +kernel
theorem dX11_far_19 : decode cX11_far 19 = .ok (.iload_n 2, 1) := by decide +kernel
theorem dX11_far_20 : decode cX11_far 20 = .ok (.ifCond .ge 7, 3) := by decide +kernel
theorem dX11_far_23 : decode cX11_far 23 = .ok (.iconst 1, 1) := by decide +kernel
theorem dX11_far_24 : decode cX11_far 24 = .ok (.goto 4, 3) := by decide +kernel
theorem dX11_far_27 : decode cX11_far 27 = .ok (.iconst 0, 1) := by decide +kernel
theorem dX11_far_28 : decode cX11_far 28 = .ok (.iconst 2, 1) := by decide +kernel
theorem dX11_far_29 : decode cX11_far 29 = .ok (.invokevirtual 93, 3) := by decide +kernel
theorem dX11_far_32 : decode cX11_far 32 = .ok (.ifCond .eq 5, 3) := by decide +kernel
theorem dX11_far_35 : decode cX11_far 35 = .ok (.iconst 0, 1) := by decide +kernel
theorem dX11_far_36 : decode cX11_far 36 = .ok (.ireturn, 1) := by decide +kernel
theorem dX11_far_37 : decode cX11_far 37 = .ok (.iload_n 2, 1) := by decide +kernel
theorem dX11_far_38 : decode cX11_far 38 = .ok (.aload_n 0, 1) := by decide +kernel
theorem dX11_far_39 : decode cX11_far 39 = .ok (.invokevirtual 97, 3) := by decide +kernel
theorem dX11_far_42 : decode cX11_far 42 = .ok (.invokestatic 280, 3) := by decide +kernel
theorem dX11_far_45 : decode cX11_far 45 = .ok (.istore_n 3, 1) := by decide +kernel
theorem dX11_far_46 : decode cX11_far 46 = .ok (.aload_n 0, 1) := by decide +kernel
theorem dX11_far_47 : decode cX11_far 47 = .ok (.iload_n 1, 1) := by decide +kernel
theorem dX11_far_48 : decode cX11_far 48 = .ok (.iconst 2, 1) := by decide +kernel
theorem dX11_far_49 : decode cX11_far 49 = .ok (.invokevirtual 240, 3) := by decide +kernel
theorem dX11_far_52 : decode cX11_far 52 = .ok (.iload_n 3, 1) := by decide +kernel
theorem dX11_far_53 : decode cX11_far 53 = .ok (.if_icmp .le 5, 3) := by decide +kernel
theorem dX11_far_56 : decode cX11_far 56 = .ok (.iconst 0, 1) := by decide +kernel
theorem dX11_far_57 : decode cX11_far 57 = .ok (.ireturn, 1) := by decide +kernel
theorem dX11_far_58 : decode cX11_far 58 = .ok (.aload_n 0, 1) := by decide +kernel
theorem dX11_far_59 : decode cX11_far 59 = .ok (.aload_n 0, 1) := by decide +kernel
theorem dX11_far_60 : decode cX11_far 60 = .ok (.getfield 13, 3) := by decide +kernel
theorem dX11_far_63 : decode cX11_far 63 = .ok (.aload_n 0, 1) := by decide +kernel
theorem dX11_far_64 : decode cX11_far 64 = .ok (.getfield 17, 3) := by decide +kernel
theorem dX11_far_67 : decode cX11_far 67 = .ok (.invokevirtual 382, 3) := by decide +kernel
theorem dX11_far_70 : decode cX11_far 70 = .ok (.iconst 0, 1) := by decide +kernel
theorem dX11_far_71 : decode cX11_far 71 = .ok (.istore 4, 2) := by decide +kernel
theorem dX11_far_73 : decode cX11_far 73 = .ok (.iconst 0, 1) := by decide +kernel
theorem dX11_far_74 : decode cX11_far 74 = .ok (.istore 5, 2) := by decide +kernel
theorem dX11_far_76 : decode cX11_far 76 = .ok (.iload 5, 2) := by decide +kernel
theorem dX11_far_78 : decode cX11_far 78 = .ok (.iconst 4, 1) := by decide +kernel
theorem dX11_far_79 : decode cX11_far 79 = .ok (.if_icmp .ge 50, 3) := by decide +kernel
theorem dX11_far_82 : decode cX11_far 82 = .ok (.iload 5, 2) := by decide +kernel
theorem dX11_far_84 : decode cX11_far 84 = .ok (.ifCond .le 18, 3) := by decide +kernel
theorem dX11_far_87 : decode cX11_far 87 = .ok (.aload_n 0, 1) := by decide +kernel
theorem dX11_far_88 : decode cX11_far 88 = .ok (.getfield 20, 3) := by decide +kernel
theorem dX11_far_91 : decode cX11_far 91 = .ok (.iconst 2, 1) := by decide +kernel
theorem dX11_far_92 : decode cX11_far 92 = .ok (.iload 5, 2) := by decide +kernel
theorem dX11_far_94 : decode cX11_far 94 = .ok (.iadd, 1) := by decide +kernel
theorem dX11_far_95 : decode cX11_far 95 = .ok (.iaload, 1) := by decide +kernel
theorem dX11_far_96 : decode cX11_far 96 = .ok (.ifCond .ne 6, 3) := by decide +kernel
theorem dX11_far_99 : decode cX11_far 99 = .ok (.goto 24, 3) := by decide +kernel
theorem dX11_far_102 : decode cX11_far 102 = .ok (.aload_n 0, 1) := by decide +kernel
theorem dX11_far_103 : decode cX11_far 103 = .ok (.iload 5, 2) := by decide +kernel
theorem dX11_far_105 : decode cX11_far 105 = .ok (.putfield 107, 3) := by decide +kernel
theorem dX11_far_108 : decode cX11_far 108 = .ok (.aload_n 0, 1) := by decide +kernel
theorem dX11_far_109 : decode cX11_far 109 = .ok (.iload_n 3, 1) := by decide +kernel
theorem dX11_far_110 : decode cX11_far 110 = .ok (.invokevirtual 386, 3) := by decide +kernel
theorem dX11_far_113 : decode cX11_far 113 = .ok (.iload 4, 2) := by decide +kernel
theorem dX11_far_115 : decode cX11_far 115 = .ok (.aload_n 0, 1) := by decide +kernel
theorem dX11_far_116 : decode cX11_far 116 = .ok (.iload_n 1, 1) := by decide +kernel
theorem dX11_far_117 : decode cX11_far 117 = .ok (.invokevirtual 243, 3) := by decide +kernel
theorem dX11_far_120 : decode cX11_far 120 = .ok (.iadd, 1) := by decide +kernel
theorem dX11_far_121 : decode cX11_far 121 = .ok (.istore 4, 2) := by decide +kernel
theorem dX11_far_123 : decode cX11_far 123 = .ok (.iinc 5 1, 3) := by decide +kernel
theorem dX11_far_126 : decode cX11_far 126 = .ok (.goto (-50), 3) := by decide +kernel
theorem dX11_far_129 : decode cX11_far 129 = .ok (.aload_n 0, 1) := by decide +kernel
theorem dX11_far_130 : decode cX11_far 130 = .ok (.iconst 0, 1) := by decide +kernel
theorem dX11_far_131 : decode cX11_far 131 = .ok (.putfield 107, 3) := by decide +kernel
theorem dX11_far_134 : decode cX11_far 134 = .ok (.aload_n 0, 1) := by decide +kernel
theorem dX11_far_135 : decode cX11_far 135 = .ok (.aload_n 0, 1) := by decide +kernel
theorem dX11_far_136 : decode cX11_far 136 = .ok (.getfield 17, 3) := by decide +kernel
theorem dX11_far_139 : decode cX11_far 139 = .ok (.aload_n 0, 1) := by decide +kernel
theorem dX11_far_140 : decode cX11_far 140 = .ok (.getfield 13, 3) := by decide +kernel
theorem dX11_far_143 : decode cX11_far 143 = .ok (.invokevirtual 382, 3) := by decide +kernel
theorem dX11_far_146 : decode cX11_far 146 = .ok (.iload 4, 2) := by decide +kernel
theorem dX11_far_148 : decode cX11_far 148 = .ok (.ireturn, 1) := by decide +kernel
theorem dX11_would_0 : decode cX11_would 0 = .ok (.aload_n 0, 1) := by decide +kernel
theorem dX11_would_1 : decode cX11_would 1 = .ok (.invokevirtual 231, 3) := by decide +kernel
theorem dX11_would_4 : decode cX11_would 4 = .ok (.aload_n 0, 1) := by decide +kernel
theorem dX11_would_5 : decode cX11_would 5 = .ok (.aload_n 0, 1) := by decide +kernel
theorem dX11_would_6 : decode cX11_would 6 = .ok (.iload_n 1, 1) := by decide +kernel
theorem dX11_would_7 : decode cX11_would 7 = .ok (.invokevirtual 322, 3) := by decide +kernel
theorem dX11_would_10 : decode cX11_would 10 = .ok (.iconst 1, 1) := by decide +kernel
theorem dX11_would_11 : decode cX11_would 11 = .ok (.invokevirtual 93, 3) := by decide +kernel
theorem dX11_would_14 : decode cX11_would 14 = .ok (.ifCond .eq 5, 3) := by decide +kernel
theorem dX11_would_17 : decode cX11_would 17 = .ok (.iconst 0, 1) := by decide +kernel
theorem dX11_would_18 : decode cX11_would 18 = .ok (.ireturn, 1) := by decide +kernel
theorem dX11_would_19 : decode cX11_would 19 = .ok (.aload_n 0, 1) := by decide +kernel
theorem dX11_would_20 : decode cX11_would 20 = .ok (.aload_n 0, 1) := by decide +kernel
theorem dX11_would_21 : decode cX11_would 21 = .ok (.invokevirtual 234, 3) := by decide +kernel
theorem dX11_would_24 : decode cX11_would 24 = .ok (.ifCond .ne 7, 3) := by decide +kernel
theorem dX11_would_27 : decode cX11_would 27 = .ok (.iconst 1, 1) := by decide +kernel
theorem dX11_would_28 : decode cX11_would 28 = .ok (.goto 4, 3) := by decide +kernel
theorem dX11_would_31 : decode cX11_would 31 = .ok (.iconst 0, 1) := by decide +kernel
theorem dX11_would_32 : decode cX11_would 32 = .ok (.iconst 2, 1) := by decide +kernel
theorem dX11_would_33 : decode cX11_would 33 = .ok (.invokevirtual 93, 3) := by decide +kernel
theorem dX11_would_36 : decode cX11_would 36 = .ok (.ifCond .eq 5, 3) := by decide +kernel
theorem dX11_would_39 : decode cX11_would 39 = .ok (.iconst 0, 1) := by decide +kernel
theorem dX11_would_40 : decode cX11_would 40 = .ok (.ireturn, 1) := by decide +kernel
theorem dX11_would_41 : decode cX11_would 41 = .ok (.aload_n 0, 1) := by decide +kernel
theorem dX11_would_42 : decode cX11_would 42 = .ok (.aload_n 0, 1) := by decide +kernel
theorem dX11_would_43 : decode cX11_would 43 = .ok (.getfield 13, 3) := by decide +kernel
theorem dX11_would_46 : decode cX11_would 46 = .ok (.aload_n 0, 1) := by decide +kernel
theorem dX11_would_47 : decode cX11_would 47 = .ok (.getfield 17, 3) := by decide +kernel
theorem dX11_would_50 : decode cX11_would 50 = .ok (.invokevirtual 382, 3) := by decide +kernel
theorem dX11_would_53 : decode cX11_would 53 = .ok (.aload_n 0, 1) := by decide +kernel
theorem dX11_would_54 : decode cX11_would 54 = .ok (.iconst 1, 1) := by decide +kernel
theorem dX11_would_55 : decode cX11_would 55 = .ok (.putfield 246, 3) := by decide +kernel
theorem dX11_would_58 : decode cX11_would 58 = .ok (.aload_n 0, 1) := by decide +kernel
theorem dX11_would_59 : decode cX11_would 59 = .ok (.aload_n 0, 1) := by decide +kernel
theorem dX11_would_60 : decode cX11_would 60 = .ok (.getfield 17, 3) := by decide +kernel
theorem dX11_would_63 : decode cX11_would 63 = .ok (.iconst 0, 1) := by decide +kernel
theorem dX11_would_64 : decode cX11_would 64 = .ok (.iaload, 1) := by decide +kernel
theorem dX11_would_65 : decode cX11_would 65 = .ok (.invokevirtual 386, 3) := by decide +kernel
theorem dX11_would_68 : decode cX11_would 68 = .ok (.aload_n 0, 1) := by decide +kernel
theorem dX11_would_69 : decode cX11_would 69 = .ok (.iconst 0, 1) := by decide +kernel
theorem dX11_would_70 : decode cX11_would 70 = .ok (.putfield 246, 3) := by decide +kernel
theorem dX11_would_73 : decode cX11_would 73 = .ok (.aload_n 0, 1) := by decide +kernel
theorem dX11_would_74 : decode cX11_would 74 = .ok (.getfield 13, 3) := by decide +kernel
theorem dX11_would_77 : decode cX11_would 77 = .ok (.iload_n 1, 1) := by decide +kernel
theorem dX11_would_78 : decode cX11_would 78 = .ok (.iconst 0, 1) := by decide +kernel
theorem dX11_would_79 : decode cX11_would 79 = .ok (.invokestatic 261, 3) := by decide +kernel
theorem dX11_would_82 : decode cX11_would 82 = .ok (.iaload, 1) := by decide +kernel
theorem dX11_would_83 : decode cX11_would 83 = .ok (.istore_n 2, 1) := by decide +kernel
theorem dX11_would_84 : decode cX11_would 84 = .ok (.aload_n 0, 1) := by decide +kernel
theorem dX11_would_85 : decode cX11_would 85 = .ok (.aload_n 0, 1) := by decide +kernel
theorem dX11_would_86 : decode cX11_would 86 = .ok (.getfield 17, 3) := by decide +kernel
theorem dX11_would_89 : decode cX11_would 89 = .ok (.aload_n 0, 1) := by decide +kernel
theorem dX11_would_90 : decode cX11_would 90 = .ok (.getfield 13, 3) := by decide +kernel
theorem dX11_would_93 : decode cX11_would 93 = .ok (.invokevirtual 382, 3) := by decide +kernel
theorem dX11_would_96 : decode cX11_would 96 = .ok (.iload_n 2, 1) := by decide +kernel
theorem dX11_would_97 : decode cX11_would 97 = .ok (.ireturn, 1) := by decide +kernel
theorem dX11_rowAt_0 : decode cX11_rowAt 0 = .ok (.bipush 8, 2) := by decide +kernel
theorem dX11_rowAt_2 : decode cX11_rowAt 2 = .ok (.aload_n 0, 1) := by decide +kernel
theorem dX11_rowAt_3 : decode cX11_rowAt 3 = .ok (.invokevirtual 97, 3) := by decide +kernel
theorem dX11_rowAt_6 : decode cX11_rowAt 6 = .ok (.invokestatic 280, 3) := by decide +kernel
theorem dX11_rowAt_9 : decode cX11_rowAt 9 = .ok (.istore_n 2, 1) := by decide +kernel
theorem dX11_rowAt_10 : decode cX11_rowAt 10 = .ok (.iload_n 1, 1) := by decide +kernel
theorem dX11_rowAt_11 : decode cX11_rowAt 11 = .ok (.iconst 0, 1) := by decide +kernel
theorem dX11_rowAt_12 : decode cX11_rowAt 12 = .ok (.iload_n 2, 1) := by decide +kernel
theorem dX11_rowAt_13 : decode cX11_rowAt 13 = .ok (.iconst 1, 1) := by decide +kernel
theorem dX11_rowAt_14 : decode cX11_rowAt 14 = .ok (.isub, 1) := by decide +kernel
theorem dX11_rowAt_15 : decode cX11_rowAt 15 = .ok (.invokestatic 68, 3) := by decide +kernel
theorem dX11_rowAt_18 : decode cX11_rowAt 18 = .ok (.ifCond .eq 22, 3) := by decide +kernel
theorem dX11_rowAt_21 : decode cX11_rowAt 21 = .ok (.sipush 1136, 3) := by decide +kernel
theorem dX11_rowAt_24 : decode cX11_rowAt 24 = .ok (.iconst 2, 1) := by decide +kernel
theorem dX11_rowAt_25 : decode cX11_rowAt 25 = .ok (.aload_n 0, 1) := by decide +kernel
theorem dX11_rowAt_26 : decode cX11_rowAt 26 = .ok (.invokevirtual 97, 3) := by decide +kernel
theorem dX11_rowAt_29 : decode cX11_rowAt 29 = .ok (.iload_n 2, 1) := by decide +kernel
theorem dX11_rowAt_30 : decode cX11_rowAt 30 = .ok (.isub, 1) := by decide +kernel
theorem dX11_rowAt_31 : decode cX11_rowAt 31 = .ok (.iconst 1, 1) := by decide +kernel
theorem dX11_rowAt_32 : decode cX11_rowAt 32 = .ok (.iadd, 1) := by decide +kernel
theorem dX11_rowAt_33 : decode cX11_rowAt 33 = .ok (.iload_n 1, 1) := by decide +kernel
theorem dX11_rowAt_34 : decode cX11_rowAt 34 = .ok (.iadd, 1) := by decide +kernel
theorem dX11_rowAt_35 : decode cX11_rowAt 35 = .ok (.imul, 1) := by decide +kernel
theorem dX11_rowAt_36 : decode cX11_rowAt 36 = .ok (.iadd, 1) := by decide +kernel
theorem dX11_rowAt_37 : decode cX11_rowAt 37 = .ok (.goto 4, 3) := by decide +kernel
theorem dX11_rowAt_40 : decode cX11_rowAt 40 = .ok (.iconst (-1), 1) := by decide +kernel
theorem dX11_rowAt_41 : decode cX11_rowAt 41 = .ok (.ireturn, 1) := by decide +kernel
theorem dX11_tear_0 : decode cX11_tear 0 = .ok (.aload_n 0, 1) := by decide +kernel
theorem dX11_tear_1 : decode cX11_tear 1 = .ok (.iconst 0, 1) := by decide +kernel
theorem dX11_tear_2 : decode cX11_tear 2 = .ok (.putfield 3, 3) := by decide +kernel
theorem dX11_tear_5 : decode cX11_tear 5 = .ok (.aload_n 0, 1) := by decide +kernel
theorem dX11_tear_6 : decode cX11_tear 6 = .ok (.aload_n 0, 1) := by decide +kernel
theorem dX11_tear_7 : decode cX11_tear 7 = .ok (.iload_n 1, 1) := by decide +kernel
theorem dX11_tear_8 : decode cX11_tear 8 = .ok (.invokevirtual 389, 3) := by decide +kernel
theorem dX11_tear_11 : decode cX11_tear 11 = .ok (.ifCond .ge 7, 3) := by decide +kernel
theorem dX11_tear_14 : decode cX11_tear 14 = .ok (.iconst 1, 1) := by decide +kernel
theorem dX11_tear_15 : decode cX11_tear 15 = .ok (.goto 4, 3) := by decide +kernel
theorem dX11_tear_18 : decode cX11_tear 18 = .ok (.iconst 0, 1) := by decide +kernel
theorem dX11_tear_19 : decode cX11_tear 19 = .ok (.iconst 1, 1) := by decide +kernel
theorem dX11_tear_20 : decode cX11_tear 20 = .ok (.invokevirtual 93, 3) := by decide +kernel
theorem dX11_tear_23 : decode cX11_tear 23 = .ok (.ifCond .eq 5, 3) := by decide +kernel
theorem dX11_tear_26 : decode cX11_tear 26 = .ok (.iconst 0, 1) := by decide +kernel
theorem dX11_tear_27 : decode cX11_tear 27 = .ok (.ireturn, 1) := by decide +kernel
theorem dX11_tear_28 : decode cX11_tear 28 = .ok (.aload_n 0, 1) := by decide +kernel
theorem dX11_tear_29 : decode cX11_tear 29 = .ok (.getfield 20, 3) := by decide +kernel
theorem dX11_tear_32 : decode cX11_tear 32 = .ok (.aload_n 0, 1) := by decide +kernel
theorem dX11_tear_33 : decode cX11_tear 33 = .ok (.iload_n 1, 1) := by decide +kernel
theorem dX11_tear_34 : decode cX11_tear 34 = .ok (.invokevirtual 389, 3) := by decide +kernel
theorem dX11_tear_37 : decode cX11_tear 37 = .ok (.dup2, 1) := by decide +kernel
theorem dX11_tear_38 : decode cX11_tear 38 = .ok (.iaload, 1) := by decide +kernel
theorem dX11_tear_39 : decode cX11_tear 39 = .ok (.iload_n 2, 1) := by decide +kernel
theorem dX11_tear_40 : decode cX11_tear 40 = .ok (.ixor, 1) := by decide +kernel
theorem dX11_tear_41 : decode cX11_tear 41 = .ok (.iastore, 1) := by decide +kernel
theorem dX11_tear_42 : decode cX11_tear 42 = .ok (.aload_n 0, 1) := by decide +kernel
theorem dX11_tear_43 : decode cX11_tear 43 = .ok (.getfield 20, 3) := by decide +kernel
theorem dX11_tear_46 : decode cX11_tear 46 = .ok (.aload_n 0, 1) := by decide +kernel
theorem dX11_tear_47 : decode cX11_tear 47 = .ok (.iload_n 1, 1) := by decide +kernel
theorem dX11_tear_48 : decode cX11_tear 48 = .ok (.invokevirtual 389, 3) := by decide +kernel
theorem dX11_tear_51 : decode cX11_tear 51 = .ok (.iaload, 1) := by decide +kernel
theorem dX11_tear_52 : decode cX11_tear 52 = .ok (.ireturn, 1) := by decide +kernel
theorem dX11_check_0 : decode cX11_check 0 = .ok (.aload_n 0, 1) := by decide +kernel
theorem dX11_check_1 : decode cX11_check 1 = .ok (.iconst 0, 1) := by decide +kernel
theorem dX11_check_2 : decode cX11_check 2 = .ok (.putfield 3, 3) := by decide +kernel
theorem dX11_check_5 : decode cX11_check 5 = .ok (.iconst 0, 1) := by decide +kernel
theorem dX11_check_6 : decode cX11_check 6 = .ok (.istore_n 1, 1) := by decide +kernel
theorem dX11_check_7 : decode cX11_check 7 = .ok (.iload_n 1, 1) := by decide +kernel
theorem dX11_check_8 : decode cX11_check 8 = .ok (.bipush 8, 2) := by decide +kernel
theorem dX11_check_10 : decode cX11_check 10 = .ok (.aload_n 0, 1) := by decide +kernel
theorem dX11_check_11 : decode cX11_check 11 = .ok (.invokevirtual 97, 3) := by decide +kernel
theorem dX11_check_14 : decode cX11_check 14 = .ok (.invokestatic 280, 3) := by decide +kernel
theorem dX11_check_17 : decode cX11_check 17 = .ok (.if_icmp .ge 36, 3) := by decide +kernel
theorem dX11_check_20 : decode cX11_check 20 = .ok (.aload_n 0, 1) := by decide +kernel
theorem dX11_check_21 : decode cX11_check 21 = .ok (.getfield 20, 3) := by decide +kernel
theorem dX11_check_24 : decode cX11_check 24 = .ok (.aload_n 0, 1) := by decide +kernel
theorem dX11_check_25 : decode cX11_check 25 = .ok (.iload_n 1, 1) := by decide +kernel
theorem dX11_check_26 : decode cX11_check 26 = .ok (.invokevirtual 389, 3) := by decide +kernel
theorem dX11_check_29 : decode cX11_check 29 = .ok (.iaload, 1) := by decide +kernel
theorem dX11_check_30 : decode cX11_check 30 = .ok (.aload_n 0, 1) := by decide +kernel
theorem dX11_check_31 : decode cX11_check 31 = .ok (.getfield 20, 3) := by decide +kernel
theorem dX11_check_34 : decode cX11_check 34 = .ok (.aload_n 0, 1) := by decide +kernel
theorem dX11_check_35 : decode cX11_check 35 = .ok (.iload_n 1, 1) := by decide +kernel
theorem dX11_check_36 : decode cX11_check 36 = .ok (.invokevirtual 389, 3) := by decide +kernel
theorem dX11_check_39 : decode cX11_check 39 = .ok (.iconst 1, 1) := by decide +kernel
theorem dX11_check_40 : decode cX11_check 40 = .ok (.iadd, 1) := by decide +kernel
theorem dX11_check_41 : decode cX11_check 41 = .ok (.iaload, 1) := by decide +kernel
theorem dX11_check_42 : decode cX11_check 42 = .ok (.if_icmp .eq 5, 3) := by decide +kernel
theorem dX11_check_45 : decode cX11_check 45 = .ok (.iload_n 1, 1) := by decide +kernel
theorem dX11_check_46 : decode cX11_check 46 = .ok (.ireturn, 1) := by decide +kernel
theorem dX11_check_47 : decode cX11_check 47 = .ok (.iinc 1 1, 3) := by decide +kernel
theorem dX11_check_50 : decode cX11_check 50 = .ok (.goto (-43), 3) := by decide +kernel
theorem dX11_check_53 : decode cX11_check 53 = .ok (.iconst (-1), 1) := by decide +kernel
theorem dX11_check_54 : decode cX11_check 54 = .ok (.ireturn, 1) := by decide +kernel
theorem dX11_sumOf_0 : decode cX11_sumOf 0 = .ok (.iconst 0, 1) := by decide +kernel
theorem dX11_sumOf_1 : decode cX11_sumOf 1 = .ok (.istore_n 2, 1) := by decide +kernel
theorem dX11_sumOf_2 : decode cX11_sumOf 2 = .ok (.iconst 0, 1) := by decide +kernel
theorem dX11_sumOf_3 : decode cX11_sumOf 3 = .ok (.istore_n 3, 1) := by decide +kernel
theorem dX11_sumOf_4 : decode cX11_sumOf 4 = .ok (.iload_n 3, 1) := by decide +kernel
theorem dX11_sumOf_5 : decode cX11_sumOf 5 = .ok (.aload_n 0, 1) := by decide +kernel
theorem dX11_sumOf_6 : decode cX11_sumOf 6 = .ok (.invokevirtual 64, 3) := by decide +kernel
theorem dX11_sumOf_9 : decode cX11_sumOf 9 = .ok (.if_icmp .ge 22, 3) := by decide +kernel
theorem dX11_sumOf_12 : decode cX11_sumOf 12 = .ok (.iload_n 2, 1) := by decide +kernel
theorem dX11_sumOf_13 : decode cX11_sumOf 13 = .ok (.aload_n 0, 1) := by decide +kernel
theorem dX11_sumOf_14 : decode cX11_sumOf 14 = .ok (.getfield 13, 3) := by decide +kernel
theorem dX11_sumOf_17 : decode cX11_sumOf 17 = .ok (.iload_n 3, 1) := by decide +kernel
theorem dX11_sumOf_18 : decode cX11_sumOf 18 = .ok (.iload_n 1, 1) := by decide +kernel
theorem dX11_sumOf_19 : decode cX11_sumOf 19 = .ok (.invokestatic 100, 3) := by decide +kernel
theorem dX11_sumOf_22 : decode cX11_sumOf 22 = .ok (.iaload, 1) := by decide +kernel
theorem dX11_sumOf_23 : decode cX11_sumOf 23 = .ok (.iadd, 1) := by decide +kernel
theorem dX11_sumOf_24 : decode cX11_sumOf 24 = .ok (.istore_n 2, 1) := by decide +kernel
theorem dX11_sumOf_25 : decode cX11_sumOf 25 = .ok (.iinc 3 1, 3) := by decide +kernel
theorem dX11_sumOf_28 : decode cX11_sumOf 28 = .ok (.goto (-24), 3) := by decide +kernel
theorem dX11_sumOf_31 : decode cX11_sumOf 31 = .ok (.iload_n 2, 1) := by decide +kernel
theorem dX11_sumOf_32 : decode cX11_sumOf 32 = .ok (.ireturn, 1) := by decide +kernel
theorem dX11_count_0 : decode cX11_count 0 = .ok (.aload_n 0, 1) := by decide +kernel
theorem dX11_count_1 : decode cX11_count 1 = .ok (.iconst 0, 1) := by decide +kernel
theorem dX11_count_2 : decode cX11_count 2 = .ok (.putfield 3, 3) := by decide +kernel
theorem dX11_count_5 : decode cX11_count 5 = .ok (.iconst 0, 1) := by decide +kernel
theorem dX11_count_6 : decode cX11_count 6 = .ok (.istore_n 2, 1) := by decide +kernel
theorem dX11_count_7 : decode cX11_count 7 = .ok (.iload_n 1, 1) := by decide +kernel
theorem dX11_count_8 : decode cX11_count 8 = .ok (.tableswitch 203 0 11 #[64, 69, 74, 79, 89, 94, 100, 106, 145, 153, 161, 169], 64) := by decide +kernel
theorem dX11_count_72 : decode cX11_count 72 = .ok (.aload_n 0, 1) := by decide +kernel
theorem dX11_count_73 : decode cX11_count 73 = .ok (.invokevirtual 97, 3) := by decide +kernel
theorem dX11_count_76 : decode cX11_count 76 = .ok (.ireturn, 1) := by decide +kernel
theorem dX11_count_77 : decode cX11_count 77 = .ok (.aload_n 0, 1) := by decide +kernel
theorem dX11_count_78 : decode cX11_count 78 = .ok (.invokevirtual 64, 3) := by decide +kernel
theorem dX11_count_81 : decode cX11_count 81 = .ok (.ireturn, 1) := by decide +kernel
theorem dX11_count_82 : decode cX11_count 82 = .ok (.aload_n 0, 1) := by decide +kernel
theorem dX11_count_83 : decode cX11_count 83 = .ok (.invokevirtual 72, 3) := by decide +kernel
theorem dX11_count_86 : decode cX11_count 86 = .ok (.ireturn, 1) := by decide +kernel
theorem dX11_count_87 : decode cX11_count 87 = .ok (.aload_n 0, 1) := by decide +kernel
theorem dX11_count_88 : decode cX11_count 88 = .ok (.getfield 20, 3) := by decide +kernel
theorem dX11_count_91 : decode cX11_count 91 = .ok (.iconst 0, 1) := by decide +kernel
theorem dX11_count_92 : decode cX11_count 92 = .ok (.invokestatic 148, 3) := by decide +kernel
theorem dX11_count_95 : decode cX11_count 95 = .ok (.iaload, 1) := by decide +kernel
theorem dX11_count_96 : decode cX11_count 96 = .ok (.ireturn, 1) := by decide +kernel
theorem dX11_count_97 : decode cX11_count 97 = .ok (.aload_n 0, 1) := by decide +kernel
theorem dX11_count_98 : decode cX11_count 98 = .ok (.invokevirtual 309, 3) := by decide +kernel
theorem dX11_count_101 : decode cX11_count 101 = .ok (.ireturn, 1) := by decide +kernel
theorem dX11_count_102 : decode cX11_count 102 = .ok (.aload_n 0, 1) := by decide +kernel
theorem dX11_count_103 : decode cX11_count 103 = .ok (.iconst 2, 1) := by decide +kernel
theorem dX11_count_104 : decode cX11_count 104 = .ok (.invokevirtual 392, 3) := by decide +kernel
theorem dX11_count_107 : decode cX11_count 107 = .ok (.ireturn, 1) := by decide +kernel
theorem dX11_count_108 : decode cX11_count 108 = .ok (.aload_n 0, 1) := by decide +kernel
theorem dX11_count_109 : decode cX11_count 109 = .ok (.iconst 4, 1) := by decide +kernel
theorem dX11_count_110 : decode cX11_count 110 = .ok (.invokevirtual 392, 3) := by decide +kernel
theorem dX11_count_113 : decode cX11_count 113 = .ok (.ireturn, 1) := by decide +kernel
theorem dX11_count_114 : decode cX11_count 114 = .ok (.iconst 0, 1) := by decide +kernel
theorem dX11_count_115 : decode cX11_count 115 = .ok (.istore_n 3, 1) := by decide +kernel
theorem dX11_count_116 : decode cX11_count 116 = .ok (.iload_n 3, 1) := by decide +kernel
theorem dX11_count_117 : decode cX11_count 117 = .ok (.aload_n 0, 1) := by decide +kernel
theorem dX11_count_118 : decode cX11_count 118 = .ok (.invokevirtual 72, 3) := by decide +kernel
theorem dX11_count_121 : decode cX11_count 121 = .ok (.if_icmp .ge 30, 3) := by decide +kernel
theorem dX11_count_124 : decode cX11_count 124 = .ok (.iload_n 2, 1) := by decide +kernel
theorem dX11_count_125 : decode cX11_count 125 = .ok (.aload_n 0, 1) := by decide +kernel
theorem dX11_count_126 : decode cX11_count 126 = .ok (.getfield 13, 3) := by decide +kernel
theorem dX11_count_129 : decode cX11_count 129 = .ok (.iload_n 3, 1) := by decide +kernel
theorem dX11_count_130 : decode cX11_count 130 = .ok (.iconst 0, 1) := by decide +kernel
theorem dX11_count_131 : decode cX11_count 131 = .ok (.invokestatic 261, 3) := by decide +kernel
theorem dX11_count_134 : decode cX11_count 134 = .ok (.iaload, 1) := by decide +kernel
theorem dX11_count_135 : decode cX11_count 135 = .ok (.ifCond .lt 7, 3) := by decide +kernel
theorem dX11_count_138 : decode cX11_count 138 = .ok (.iconst 1, 1) := by decide +kernel
theorem dX11_count_139 : decode cX11_count 139 = .ok (.goto 4, 3) := by decide +kernel
theorem dX11_count_142 : decode cX11_count 142 = .ok (.iconst 0, 1) := by decide +kernel
theorem dX11_count_143 : decode cX11_count 143 = .ok (.iadd, 1) := by decide +kernel
theorem dX11_count_144 : decode cX11_count 144 = .ok (.istore_n 2, 1) := by decide +kernel
theorem dX11_count_145 : decode cX11_count 145 = .ok (.iinc 3 1, 3) := by decide +kernel
theorem dX11_count_148 : decode cX11_count 148 = .ok (.goto (-32), 3) := by decide +kernel
theorem dX11_count_151 : decode cX11_count 151 = .ok (.iload_n 2, 1) := by decide +kernel
theorem dX11_count_152 : decode cX11_count 152 = .ok (.ireturn, 1) := by decide +kernel
theorem dX11_count_153 : decode cX11_count 153 = .ok (.aload_n 0, 1) := by decide +kernel
theorem dX11_count_154 : decode cX11_count 154 = .ok (.getfield 20, 3) := by decide +kernel
theorem dX11_count_157 : decode cX11_count 157 = .ok (.bipush 8, 2) := by decide +kernel
theorem dX11_count_159 : decode cX11_count 159 = .ok (.iaload, 1) := by decide +kernel
theorem dX11_count_160 : decode cX11_count 160 = .ok (.ireturn, 1) := by decide +kernel
theorem dX11_count_161 : decode cX11_count 161 = .ok (.aload_n 0, 1) := by decide +kernel
theorem dX11_count_162 : decode cX11_count 162 = .ok (.getfield 20, 3) := by decide +kernel
theorem dX11_count_165 : decode cX11_count 165 = .ok (.bipush 9, 2) := by decide +kernel
theorem dX11_count_167 : decode cX11_count 167 = .ok (.iaload, 1) := by decide +kernel
theorem dX11_count_168 : decode cX11_count 168 = .ok (.ireturn, 1) := by decide +kernel
theorem dX11_count_169 : decode cX11_count 169 = .ok (.aload_n 0, 1) := by decide +kernel
theorem dX11_count_170 : decode cX11_count 170 = .ok (.getfield 20, 3) := by decide +kernel
theorem dX11_count_173 : decode cX11_count 173 = .ok (.bipush 10, 2) := by decide +kernel
theorem dX11_count_175 : decode cX11_count 175 = .ok (.iaload, 1) := by decide +kernel
theorem dX11_count_176 : decode cX11_count 176 = .ok (.ireturn, 1) := by decide +kernel
theorem dX11_count_177 : decode cX11_count 177 = .ok (.iconst 0, 1) := by decide +kernel
theorem dX11_count_178 : decode cX11_count 178 = .ok (.istore_n 3, 1) := by decide +kernel
theorem dX11_count_179 : decode cX11_count 179 = .ok (.iload_n 3, 1) := by decide +kernel
theorem dX11_count_180 : decode cX11_count 180 = .ok (.iconst 4, 1) := by decide +kernel
theorem dX11_count_181 : decode cX11_count 181 = .ok (.if_icmp .ge 28, 3) := by decide +kernel
theorem dX11_count_184 : decode cX11_count 184 = .ok (.iload_n 2, 1) := by decide +kernel
theorem dX11_count_185 : decode cX11_count 185 = .ok (.aload_n 0, 1) := by decide +kernel
theorem dX11_count_186 : decode cX11_count 186 = .ok (.getfield 20, 3) := by decide +kernel
theorem dX11_count_189 : decode cX11_count 189 = .ok (.iconst 2, 1) := by decide +kernel
theorem dX11_count_190 : decode cX11_count 190 = .ok (.iload_n 3, 1) := by decide +kernel
theorem dX11_count_191 : decode cX11_count 191 = .ok (.iadd, 1) := by decide +kernel
theorem dX11_count_192 : decode cX11_count 192 = .ok (.iaload, 1) := by decide +kernel
theorem dX11_count_193 : decode cX11_count 193 = .ok (.ifCond .le 7, 3) := by decide +kernel
theorem dX11_count_196 : decode cX11_count 196 = .ok (.iconst 1, 1) := by decide +kernel
theorem dX11_count_197 : decode cX11_count 197 = .ok (.goto 4, 3) := by decide +kernel
theorem dX11_count_200 : decode cX11_count 200 = .ok (.iconst 0, 1) := by decide +kernel
theorem dX11_count_201 : decode cX11_count 201 = .ok (.iadd, 1) := by decide +kernel
theorem dX11_count_202 : decode cX11_count 202 = .ok (.istore_n 2, 1) := by decide +kernel
theorem dX11_count_203 : decode cX11_count 203 = .ok (.iinc 3 1, 3) := by decide +kernel
theorem dX11_count_206 : decode cX11_count 206 = .ok (.goto (-27), 3) := by decide +kernel
theorem dX11_count_209 : decode cX11_count 209 = .ok (.iload_n 2, 1) := by decide +kernel
theorem dX11_count_210 : decode cX11_count 210 = .ok (.ireturn, 1) := by decide +kernel
theorem dX11_count_211 : decode cX11_count 211 = .ok (.iconst (-1), 1) := by decide +kernel
theorem dX11_count_212 : decode cX11_count 212 = .ok (.ireturn, 1) := by decide +kernel
theorem dJ6_bitCount_0f7a4_0 : decode cJ6_bitCount_0f7a4 0 = .ok (.iload_n 0, 1) := by decide +kernel
theorem dJ6_bitCount_0f7a4_1 : decode cJ6_bitCount_0f7a4 1 = .ok (.iload_n 0, 1) := by decide +kernel
theorem dJ6_bitCount_0f7a4_2 : decode cJ6_bitCount_0f7a4 2 = .ok (.iconst 1, 1) := by decide +kernel
theorem dJ6_bitCount_0f7a4_3 : decode cJ6_bitCount_0f7a4 3 = .ok (.iushr, 1) := by decide +kernel
theorem dJ6_bitCount_0f7a4_4 : decode cJ6_bitCount_0f7a4 4 = .ok (.ldc_w 265, 3) := by decide +kernel
theorem dJ6_bitCount_0f7a4_7 : decode cJ6_bitCount_0f7a4 7 = .ok (.iand, 1) := by decide +kernel
theorem dJ6_bitCount_0f7a4_8 : decode cJ6_bitCount_0f7a4 8 = .ok (.isub, 1) := by decide +kernel
theorem dJ6_bitCount_0f7a4_9 : decode cJ6_bitCount_0f7a4 9 = .ok (.istore_n 0, 1) := by decide +kernel
theorem dJ6_bitCount_0f7a4_10 : decode cJ6_bitCount_0f7a4 10 = .ok (.iload_n 0, 1) := by decide +kernel
theorem dJ6_bitCount_0f7a4_11 : decode cJ6_bitCount_0f7a4 11 = .ok (.ldc_w 266, 3) := by decide +kernel
theorem dJ6_bitCount_0f7a4_14 : decode cJ6_bitCount_0f7a4 14 = .ok (.iand, 1) := by decide +kernel
theorem dJ6_bitCount_0f7a4_15 : decode cJ6_bitCount_0f7a4 15 = .ok (.iload_n 0, 1) := by decide +kernel
theorem dJ6_bitCount_0f7a4_16 : decode cJ6_bitCount_0f7a4 16 = .ok (.iconst 2, 1) := by decide +kernel
theorem dJ6_bitCount_0f7a4_17 : decode cJ6_bitCount_0f7a4 17 = .ok (.iushr, 1) := by decide +kernel
theorem dJ6_bitCount_0f7a4_18 : decode cJ6_bitCount_0f7a4 18 = .ok (.ldc_w 266, 3) := by decide +kernel
theorem dJ6_bitCount_0f7a4_21 : decode cJ6_bitCount_0f7a4 21 = .ok (.iand, 1) := by decide +kernel
theorem dJ6_bitCount_0f7a4_22 : decode cJ6_bitCount_0f7a4 22 = .ok (.iadd, 1) := by decide +kernel
theorem dJ6_bitCount_0f7a4_23 : decode cJ6_bitCount_0f7a4 23 = .ok (.istore_n 0, 1) := by decide +kernel
theorem dJ6_bitCount_0f7a4_24 : decode cJ6_bitCount_0f7a4 24 = .ok (.iload_n 0, 1) := by decide +kernel
theorem dJ6_bitCount_0f7a4_25 : decode cJ6_bitCount_0f7a4 25 = .ok (.iload_n 0, 1) := by decide +kernel
theorem dJ6_bitCount_0f7a4_26 : decode cJ6_bitCount_0f7a4 26 = .ok (.iconst 4, 1) := by decide +kernel
theorem dJ6_bitCount_0f7a4_27 : decode cJ6_bitCount_0f7a4 27 = .ok (.iushr, 1) := by decide +kernel
theorem dJ6_bitCount_0f7a4_28 : decode cJ6_bitCount_0f7a4 28 = .ok (.iadd, 1) := by decide +kernel
theorem dJ6_bitCount_0f7a4_29 : decode cJ6_bitCount_0f7a4 29 = .ok (.ldc_w 267, 3) := by decide +kernel
theorem dJ6_bitCount_0f7a4_32 : decode cJ6_bitCount_0f7a4 32 = .ok (.iand, 1) := by decide +kernel
theorem dJ6_bitCount_0f7a4_33 : decode cJ6_bitCount_0f7a4 33 = .ok (.istore_n 0, 1) := by decide +kernel
theorem dJ6_bitCount_0f7a4_34 : decode cJ6_bitCount_0f7a4 34 = .ok (.iload_n 0, 1) := by decide +kernel
theorem dJ6_bitCount_0f7a4_35 : decode cJ6_bitCount_0f7a4 35 = .ok (.iload_n 0, 1) := by decide +kernel
theorem dJ6_bitCount_0f7a4_36 : decode cJ6_bitCount_0f7a4 36 = .ok (.bipush 8, 2) := by decide +kernel
theorem dJ6_bitCount_0f7a4_38 : decode cJ6_bitCount_0f7a4 38 = .ok (.iushr, 1) := by decide +kernel
theorem dJ6_bitCount_0f7a4_39 : decode cJ6_bitCount_0f7a4 39 = .ok (.iadd, 1) := by decide +kernel
theorem dJ6_bitCount_0f7a4_40 : decode cJ6_bitCount_0f7a4 40 = .ok (.istore_n 0, 1) := by decide +kernel
theorem dJ6_bitCount_0f7a4_41 : decode cJ6_bitCount_0f7a4 41 = .ok (.iload_n 0, 1) := by decide +kernel
theorem dJ6_bitCount_0f7a4_42 : decode cJ6_bitCount_0f7a4 42 = .ok (.iload_n 0, 1) := by decide +kernel
theorem dJ6_bitCount_0f7a4_43 : decode cJ6_bitCount_0f7a4 43 = .ok (.bipush 16, 2) := by decide +kernel
theorem dJ6_bitCount_0f7a4_45 : decode cJ6_bitCount_0f7a4 45 = .ok (.iushr, 1) := by decide +kernel
theorem dJ6_bitCount_0f7a4_46 : decode cJ6_bitCount_0f7a4 46 = .ok (.iadd, 1) := by decide +kernel
theorem dJ6_bitCount_0f7a4_47 : decode cJ6_bitCount_0f7a4 47 = .ok (.istore_n 0, 1) := by decide +kernel
theorem dJ6_bitCount_0f7a4_48 : decode cJ6_bitCount_0f7a4 48 = .ok (.iload_n 0, 1) := by decide +kernel
theorem dJ6_bitCount_0f7a4_49 : decode cJ6_bitCount_0f7a4 49 = .ok (.bipush 63, 2) := by decide +kernel
theorem dJ6_bitCount_0f7a4_51 : decode cJ6_bitCount_0f7a4 51 = .ok (.iand, 1) := by decide +kernel
theorem dJ6_bitCount_0f7a4_52 : decode cJ6_bitCount_0f7a4 52 = .ok (.ireturn, 1) := by decide +kernel
theorem dJ9_abs_0f7a4_0 : decode cJ9_abs_0f7a4 0 = .ok (.iload_n 0, 1) := by decide +kernel
theorem dJ9_abs_0f7a4_1 : decode cJ9_abs_0f7a4 1 = .ok (.ifCond .ge 8, 3) := by decide +kernel
theorem dJ9_abs_0f7a4_4 : decode cJ9_abs_0f7a4 4 = .ok (.iload_n 0, 1) := by decide +kernel
theorem dJ9_abs_0f7a4_5 : decode cJ9_abs_0f7a4 5 = .ok (.ineg, 1) := by decide +kernel
theorem dJ9_abs_0f7a4_6 : decode cJ9_abs_0f7a4 6 = .ok (.goto 4, 3) := by decide +kernel
theorem dJ9_abs_0f7a4_9 : decode cJ9_abs_0f7a4 9 = .ok (.iload_n 0, 1) := by decide +kernel
theorem dJ9_abs_0f7a4_10 : decode cJ9_abs_0f7a4 10 = .ok (.ireturn, 1) := by decide +kernel
theorem dJ9_max_7cf53_0 : decode cJ9_max_7cf53 0 = .ok (.iload_n 0, 1) := by decide +kernel
theorem dJ9_max_7cf53_1 : decode cJ9_max_7cf53 1 = .ok (.iload_n 1, 1) := by decide +kernel
theorem dJ9_max_7cf53_2 : decode cJ9_max_7cf53 2 = .ok (.if_icmp .lt 7, 3) := by decide +kernel
theorem dJ9_max_7cf53_5 : decode cJ9_max_7cf53 5 = .ok (.iload_n 0, 1) := by decide +kernel
theorem dJ9_max_7cf53_6 : decode cJ9_max_7cf53 6 = .ok (.goto 4, 3) := by decide +kernel
theorem dJ9_max_7cf53_9 : decode cJ9_max_7cf53 9 = .ok (.iload_n 1, 1) := by decide +kernel
theorem dJ9_max_7cf53_10 : decode cJ9_max_7cf53 10 = .ok (.ireturn, 1) := by decide +kernel
theorem dJ9_min_7cf53_0 : decode cJ9_min_7cf53 0 = .ok (.iload_n 0, 1) := by decide +kernel
theorem dJ9_min_7cf53_1 : decode cJ9_min_7cf53 1 = .ok (.iload_n 1, 1) := by decide +kernel
theorem dJ9_min_7cf53_2 : decode cJ9_min_7cf53 2 = .ok (.if_icmp .gt 7, 3) := by decide +kernel
theorem dJ9_min_7cf53_5 : decode cJ9_min_7cf53 5 = .ok (.iload_n 0, 1) := by decide +kernel
theorem dJ9_min_7cf53_6 : decode cJ9_min_7cf53 6 = .ok (.goto 4, 3) := by decide +kernel
theorem dJ9_min_7cf53_9 : decode cJ9_min_7cf53 9 = .ok (.iload_n 1, 1) := by decide +kernel
theorem dJ9_min_7cf53_10 : decode cJ9_min_7cf53 10 = .ok (.ireturn, 1) := by decide +kernel
theorem dJ0_length_8abf5_0 : decode cJ0_length_8abf5 0 = .ok (.aload_n 0, 1) := by decide +kernel
theorem dJ0_length_8abf5_1 : decode cJ0_length_8abf5 1 = .ok (.getfield 9, 3) := by decide +kernel
theorem dJ0_length_8abf5_4 : decode cJ0_length_8abf5 4 = .ok (.arraylength, 1) := by decide +kernel
theorem dJ0_length_8abf5_5 : decode cJ0_length_8abf5 5 = .ok (.aload_n 0, 1) := by decide +kernel
theorem dJ0_length_8abf5_6 : decode cJ0_length_8abf5 6 = .ok (.invokevirtual 335, 3) := by decide +kernel
theorem dJ0_length_8abf5_9 : decode cJ0_length_8abf5 9 = .ok (.ishr, 1) := by decide +kernel
theorem dJ0_length_8abf5_10 : decode cJ0_length_8abf5 10 = .ok (.ireturn, 1) := by decide +kernel
theorem dJ0_charAt_5068e_0 : decode cJ0_charAt_5068e 0 = .ok (.aload_n 0, 1) := by decide +kernel
theorem dJ0_charAt_5068e_1 : decode cJ0_charAt_5068e 1 = .ok (.invokevirtual 492, 3) := by decide +kernel
theorem dJ0_charAt_5068e_4 : decode cJ0_charAt_5068e 4 = .ok (.ifCond .eq 12, 3) := by decide +kernel
theorem dJ0_charAt_5068e_7 : decode cJ0_charAt_5068e 7 = .ok (.aload_n 0, 1) := by decide +kernel
theorem dJ0_charAt_5068e_8 : decode cJ0_charAt_5068e 8 = .ok (.getfield 9, 3) := by decide +kernel
theorem dJ0_charAt_5068e_11 : decode cJ0_charAt_5068e 11 = .ok (.iload_n 1, 1) := by decide +kernel
theorem dJ0_charAt_5068e_12 : decode cJ0_charAt_5068e 12 = .ok (.invokestatic 495, 3) := by decide +kernel
theorem dJ0_charAt_5068e_15 : decode cJ0_charAt_5068e 15 = .ok (.ireturn, 1) := by decide +kernel
theorem dJ0_charAt_5068e_16 : decode cJ0_charAt_5068e 16 = .ok (.aload_n 0, 1) := by decide +kernel
theorem dJ0_charAt_5068e_17 : decode cJ0_charAt_5068e 17 = .ok (.getfield 9, 3) := by decide +kernel
theorem dJ0_charAt_5068e_20 : decode cJ0_charAt_5068e 20 = .ok (.iload_n 1, 1) := by decide +kernel
theorem dJ0_charAt_5068e_21 : decode cJ0_charAt_5068e 21 = .ok (.invokestatic 498, 3) := by decide +kernel
theorem dJ0_charAt_5068e_24 : decode cJ0_charAt_5068e 24 = .ok (.ireturn, 1) := by decide +kernel
theorem dJ0_coder_7d493_0 : decode cJ0_coder_7d493 0 = .ok (.getstatic 38, 3) := by decide +kernel
theorem dJ0_coder_7d493_3 : decode cJ0_coder_7d493 3 = .ok (.ifCond .eq 10, 3) := by decide +kernel
theorem dJ0_coder_7d493_6 : decode cJ0_coder_7d493 6 = .ok (.aload_n 0, 1) := by decide +kernel
theorem dJ0_coder_7d493_7 : decode cJ0_coder_7d493 7 = .ok (.getfield 15, 3) := by decide +kernel
theorem dJ0_coder_7d493_10 : decode cJ0_coder_7d493 10 = .ok (.goto 4, 3) := by decide +kernel
theorem dJ0_coder_7d493_13 : decode cJ0_coder_7d493 13 = .ok (.iconst 1, 1) := by decide +kernel
theorem dJ0_coder_7d493_14 : decode cJ0_coder_7d493 14 = .ok (.ireturn, 1) := by decide +kernel
theorem dJ0_isLatin1_aae02_0 : decode cJ0_isLatin1_aae02 0 = .ok (.getstatic 38, 3) := by decide +kernel
theorem dJ0_isLatin1_aae02_3 : decode cJ0_isLatin1_aae02 3 = .ok (.ifCond .eq 14, 3) := by decide +kernel
theorem dJ0_isLatin1_aae02_6 : decode cJ0_isLatin1_aae02 6 = .ok (.aload_n 0, 1) := by decide +kernel
theorem dJ0_isLatin1_aae02_7 : decode cJ0_isLatin1_aae02 7 = .ok (.getfield 15, 3) := by decide +kernel
theorem dJ0_isLatin1_aae02_10 : decode cJ0_isLatin1_aae02 10 = .ok (.ifCond .ne 7, 3) := by decide +kernel
theorem dJ0_isLatin1_aae02_13 : decode cJ0_isLatin1_aae02 13 = .ok (.iconst 1, 1) := by decide +kernel
theorem dJ0_isLatin1_aae02_14 : decode cJ0_isLatin1_aae02 14 = .ok (.goto 4, 3) := by decide +kernel
theorem dJ0_isLatin1_aae02_17 : decode cJ0_isLatin1_aae02 17 = .ok (.iconst 0, 1) := by decide +kernel
theorem dJ0_isLatin1_aae02_18 : decode cJ0_isLatin1_aae02 18 = .ok (.ireturn, 1) := by decide +kernel
theorem dJ0_checkIndex_df160_0 : decode cJ0_checkIndex_df160 0 = .ok (.iload_n 0, 1) := by decide +kernel
theorem dJ0_checkIndex_df160_1 : decode cJ0_checkIndex_df160 1 = .ok (.iload_n 1, 1) := by decide +kernel
theorem dJ0_checkIndex_df160_2 : decode cJ0_checkIndex_df160 2 = .ok (.getstatic 1053, 3) := by decide +kernel
theorem dJ0_checkIndex_df160_5 : decode cJ0_checkIndex_df160 5 = .ok (.invokestatic 1059, 3) := by decide +kernel
theorem dJ0_checkIndex_df160_8 : decode cJ0_checkIndex_df160 8 = .ok (.pop, 1) := by decide +kernel
theorem dJ0_checkIndex_df160_9 : decode cJ0_checkIndex_df160 9 = .ok (.return_, 1) := by decide +kernel
theorem dJ1_charAt_3b067_0 : decode cJ1_charAt_3b067 0 = .ok (.iload_n 1, 1) := by decide +kernel
theorem dJ1_charAt_3b067_1 : decode cJ1_charAt_3b067 1 = .ok (.aload_n 0, 1) := by decide +kernel
theorem dJ1_charAt_3b067_2 : decode cJ1_charAt_3b067 2 = .ok (.arraylength, 1) := by decide +kernel
theorem dJ1_charAt_3b067_3 : decode cJ1_charAt_3b067 3 = .ok (.invokestatic 9, 3) := by decide +kernel
theorem dJ1_charAt_3b067_6 : decode cJ1_charAt_3b067 6 = .ok (.aload_n 0, 1) := by decide +kernel
theorem dJ1_charAt_3b067_7 : decode cJ1_charAt_3b067 7 = .ok (.iload_n 1, 1) := by decide +kernel
theorem dJ1_charAt_3b067_8 : decode cJ1_charAt_3b067 8 = .ok (.baload, 1) := by decide +kernel
theorem dJ1_charAt_3b067_9 : decode cJ1_charAt_3b067 9 = .ok (.sipush 255, 3) := by decide +kernel
theorem dJ1_charAt_3b067_12 : decode cJ1_charAt_3b067 12 = .ok (.iand, 1) := by decide +kernel
theorem dJ1_charAt_3b067_13 : decode cJ1_charAt_3b067 13 = .ok (.i2c, 1) := by decide +kernel
theorem dJ1_charAt_3b067_14 : decode cJ1_charAt_3b067 14 = .ok (.ireturn, 1) := by decide +kernel
theorem dJ2_getChar_3b067_0 : decode cJ2_getChar_3b067 0 = .ok (.getstatic 44, 3) := by decide +kernel
theorem dJ2_getChar_3b067_3 : decode cJ2_getChar_3b067 3 = .ok (.ifCond .ne 25, 3) := by decide +kernel
theorem dJ2_getChar_3b067_6 : decode cJ2_getChar_3b067 6 = .ok (.iload_n 1, 1) := by decide +kernel
theorem dJ2_getChar_3b067_7 : decode cJ2_getChar_3b067 7 = .ok (.ifCond .lt 11, 3) := by decide +kernel
theorem dJ2_getChar_3b067_10 : decode cJ2_getChar_3b067 10 = .ok (.iload_n 1, 1) := by decide +kernel
theorem dJ2_getChar_3b067_11 : decode cJ2_getChar_3b067 11 = .ok (.aload_n 0, 1) := by decide +kernel
theorem dJ2_getChar_3b067_12 : decode cJ2_getChar_3b067 12 = .ok (.invokestatic 48, 3) := by decide +kernel
theorem dJ2_getChar_3b067_15 : decode cJ2_getChar_3b067 15 = .ok (.if_icmp .lt 13, 3) := by decide +kernel
theorem dJ2_getChar_3b067_18 : decode cJ2_getChar_3b067 18 = .ok (.new 52, 3) := by decide +kernel
theorem dJ2_getChar_3b067_21 : decode cJ2_getChar_3b067 21 = .ok (.dup, 1) := by decide +kernel
theorem dJ2_getChar_3b067_22 : decode cJ2_getChar_3b067 22 = .ok (.ldc 54, 2) := by decide +kernel
theorem dJ2_getChar_3b067_24 : decode cJ2_getChar_3b067 24 = .ok (.invokespecial 56, 3) := by decide +kernel
theorem dJ2_getChar_3b067_27 : decode cJ2_getChar_3b067 27 = .ok (.athrow, 1) := by decide +kernel
theorem dJ2_getChar_3b067_28 : decode cJ2_getChar_3b067 28 = .ok (.iload_n 1, 1) := by decide +kernel
theorem dJ2_getChar_3b067_29 : decode cJ2_getChar_3b067 29 = .ok (.iconst 1, 1) := by decide +kernel
theorem dJ2_getChar_3b067_30 : decode cJ2_getChar_3b067 30 = .ok (.ishl, 1) := by decide +kernel
theorem dJ2_getChar_3b067_31 : decode cJ2_getChar_3b067 31 = .ok (.istore_n 1, 1) := by decide +kernel
theorem dJ2_getChar_3b067_32 : decode cJ2_getChar_3b067 32 = .ok (.aload_n 0, 1) := by decide +kernel
theorem dJ2_getChar_3b067_33 : decode cJ2_getChar_3b067 33 = .ok (.iload_n 1, 1) := by decide +kernel
theorem dJ2_getChar_3b067_34 : decode cJ2_getChar_3b067 34 = .ok (.iinc 1 1, 3) := by decide +kernel
theorem dJ2_getChar_3b067_37 : decode cJ2_getChar_3b067 37 = .ok (.baload, 1) := by decide +kernel
theorem dJ2_getChar_3b067_38 : decode cJ2_getChar_3b067 38 = .ok (.sipush 255, 3) := by decide +kernel
theorem dJ2_getChar_3b067_41 : decode cJ2_getChar_3b067 41 = .ok (.iand, 1) := by decide +kernel
theorem dJ2_getChar_3b067_42 : decode cJ2_getChar_3b067 42 = .ok (.getstatic 59, 3) := by decide +kernel
theorem dJ2_getChar_3b067_45 : decode cJ2_getChar_3b067 45 = .ok (.ishl, 1) := by decide +kernel
theorem dJ2_getChar_3b067_46 : decode cJ2_getChar_3b067 46 = .ok (.aload_n 0, 1) := by decide +kernel
theorem dJ2_getChar_3b067_47 : decode cJ2_getChar_3b067 47 = .ok (.iload_n 1, 1) := by decide +kernel
theorem dJ2_getChar_3b067_48 : decode cJ2_getChar_3b067 48 = .ok (.baload, 1) := by decide +kernel
theorem dJ2_getChar_3b067_49 : decode cJ2_getChar_3b067 49 = .ok (.sipush 255, 3) := by decide +kernel
theorem dJ2_getChar_3b067_52 : decode cJ2_getChar_3b067 52 = .ok (.iand, 1) := by decide +kernel
theorem dJ2_getChar_3b067_53 : decode cJ2_getChar_3b067 53 = .ok (.getstatic 63, 3) := by decide +kernel
theorem dJ2_getChar_3b067_56 : decode cJ2_getChar_3b067 56 = .ok (.ishl, 1) := by decide +kernel
theorem dJ2_getChar_3b067_57 : decode cJ2_getChar_3b067 57 = .ok (.ior, 1) := by decide +kernel
theorem dJ2_getChar_3b067_58 : decode cJ2_getChar_3b067 58 = .ok (.i2c, 1) := by decide +kernel
theorem dJ2_getChar_3b067_59 : decode cJ2_getChar_3b067 59 = .ok (.ireturn, 1) := by decide +kernel
theorem dJ2_length_9d52b_0 : decode cJ2_length_9d52b 0 = .ok (.aload_n 0, 1) := by decide +kernel
theorem dJ2_length_9d52b_1 : decode cJ2_length_9d52b 1 = .ok (.arraylength, 1) := by decide +kernel
theorem dJ2_length_9d52b_2 : decode cJ2_length_9d52b 2 = .ok (.iconst 1, 1) := by decide +kernel
theorem dJ2_length_9d52b_3 : decode cJ2_length_9d52b 3 = .ok (.ishr, 1) := by decide +kernel
theorem dJ2_length_9d52b_4 : decode cJ2_length_9d52b 4 = .ok (.ireturn, 1) := by decide +kernel
theorem dJ2_charAt_3b067_0 : decode cJ2_charAt_3b067 0 = .ok (.iload_n 1, 1) := by decide +kernel
theorem dJ2_charAt_3b067_1 : decode cJ2_charAt_3b067 1 = .ok (.aload_n 0, 1) := by decide +kernel
theorem dJ2_charAt_3b067_2 : decode cJ2_charAt_3b067 2 = .ok (.invokestatic 67, 3) := by decide +kernel
theorem dJ2_charAt_3b067_5 : decode cJ2_charAt_3b067 5 = .ok (.aload_n 0, 1) := by decide +kernel
theorem dJ2_charAt_3b067_6 : decode cJ2_charAt_3b067 6 = .ok (.iload_n 1, 1) := by decide +kernel
theorem dJ2_charAt_3b067_7 : decode cJ2_charAt_3b067 7 = .ok (.invokestatic 71, 3) := by decide +kernel
theorem dJ2_charAt_3b067_10 : decode cJ2_charAt_3b067 10 = .ok (.ireturn, 1) := by decide +kernel
theorem dJ2_checkIndex_2214a_0 : decode cJ2_checkIndex_2214a 0 = .ok (.iload_n 0, 1) := by decide +kernel
theorem dJ2_checkIndex_2214a_1 : decode cJ2_checkIndex_2214a 1 = .ok (.aload_n 1, 1) := by decide +kernel
theorem dJ2_checkIndex_2214a_2 : decode cJ2_checkIndex_2214a 2 = .ok (.invokestatic 48, 3) := by decide +kernel
theorem dJ2_checkIndex_2214a_5 : decode cJ2_checkIndex_2214a 5 = .ok (.invokestatic 414, 3) := by decide +kernel
theorem dJ2_checkIndex_2214a_8 : decode cJ2_checkIndex_2214a 8 = .ok (.return_, 1) := by decide +kernel
theorem dJ7_fill_53178_0 : decode cJ7_fill_53178 0 = .ok (.iconst 0, 1) := by decide +kernel
theorem dJ7_fill_53178_1 : decode cJ7_fill_53178 1 = .ok (.istore_n 2, 1) := by decide +kernel
theorem dJ7_fill_53178_2 : decode cJ7_fill_53178 2 = .ok (.aload_n 0, 1) := by decide +kernel
theorem dJ7_fill_53178_3 : decode cJ7_fill_53178 3 = .ok (.arraylength, 1) := by decide +kernel
theorem dJ7_fill_53178_4 : decode cJ7_fill_53178 4 = .ok (.istore_n 3, 1) := by decide +kernel
theorem dJ7_fill_53178_5 : decode cJ7_fill_53178 5 = .ok (.iload_n 2, 1) := by decide +kernel
theorem dJ7_fill_53178_6 : decode cJ7_fill_53178 6 = .ok (.iload_n 3, 1) := by decide +kernel
theorem dJ7_fill_53178_7 : decode cJ7_fill_53178 7 = .ok (.if_icmp .ge 13, 3) := by decide +kernel
theorem dJ7_fill_53178_10 : decode cJ7_fill_53178 10 = .ok (.aload_n 0, 1) := by decide +kernel
theorem dJ7_fill_53178_11 : decode cJ7_fill_53178 11 = .ok (.iload_n 2, 1) := by decide +kernel
theorem dJ7_fill_53178_12 : decode cJ7_fill_53178 12 = .ok (.iload_n 1, 1) := by decide +kernel
theorem dJ7_fill_53178_13 : decode cJ7_fill_53178 13 = .ok (.iastore, 1) := by decide +kernel
theorem dJ7_fill_53178_14 : decode cJ7_fill_53178 14 = .ok (.iinc 2 1, 3) := by decide +kernel
theorem dJ7_fill_53178_17 : decode cJ7_fill_53178 17 = .ok (.goto (-12), 3) := by decide +kernel
theorem dJ7_fill_53178_20 : decode cJ7_fill_53178 20 = .ok (.return_, 1) := by decide +kernel
theorem dJ3_checkIndex_8e157_0 : decode cJ3_checkIndex_8e157 0 = .ok (.iload_n 0, 1) := by decide +kernel
theorem dJ3_checkIndex_8e157_1 : decode cJ3_checkIndex_8e157 1 = .ok (.ifCond .lt 8, 3) := by decide +kernel
theorem dJ3_checkIndex_8e157_4 : decode cJ3_checkIndex_8e157 4 = .ok (.iload_n 0, 1) := by decide +kernel
theorem dJ3_checkIndex_8e157_5 : decode cJ3_checkIndex_8e157 5 = .ok (.iload_n 1, 1) := by decide +kernel
theorem dJ3_checkIndex_8e157_6 : decode cJ3_checkIndex_8e157 6 = .ok (.if_icmp .lt 10, 3) := by decide +kernel
theorem dJ3_checkIndex_8e157_9 : decode cJ3_checkIndex_8e157 9 = .ok (.aload_n 2, 1) := by decide +kernel
theorem dJ3_checkIndex_8e157_10 : decode cJ3_checkIndex_8e157 10 = .ok (.iload_n 0, 1) := by decide +kernel
theorem dJ3_checkIndex_8e157_11 : decode cJ3_checkIndex_8e157 11 = .ok (.iload_n 1, 1) := by decide +kernel
theorem dJ3_checkIndex_8e157_12 : decode cJ3_checkIndex_8e157 12 = .ok (.invokestatic 95, 3) := by decide +kernel
theorem dJ3_checkIndex_8e157_15 : decode cJ3_checkIndex_8e157 15 = .ok (.athrow, 1) := by decide +kernel
theorem dJ3_checkIndex_8e157_16 : decode cJ3_checkIndex_8e157 16 = .ok (.iload_n 0, 1) := by decide +kernel
theorem dJ3_checkIndex_8e157_17 : decode cJ3_checkIndex_8e157 17 = .ok (.ireturn, 1) := by decide +kernel
theorem dL_phone_0 : decode cL_phone 0 = .ok (.aload 5, 2) := by decide +kernel
theorem dL_phone_2 : decode cL_phone 2 = .ok (.iconst 0, 1) := by decide +kernel
theorem dL_phone_3 : decode cL_phone 3 = .ok (.aload_n 0, 1) := by decide +kernel
theorem dL_phone_4 : decode cL_phone 4 = .ok (.iload_n 1, 1) := by decide +kernel
theorem dL_phone_5 : decode cL_phone 5 = .ok (.iload_n 2, 1) := by decide +kernel
theorem dL_phone_6 : decode cL_phone 6 = .ok (.iload_n 3, 1) := by decide +kernel
theorem dL_phone_7 : decode cL_phone 7 = .ok (.iload 4, 2) := by decide +kernel
theorem dL_phone_9 : decode cL_phone 9 = .ok (.invokevirtual 7, 3) := by decide +kernel
theorem dL_phone_12 : decode cL_phone 12 = .ok (.i2l, 1) := by decide +kernel
theorem dL_phone_13 : decode cL_phone 13 = .ok (.lastore, 1) := by decide +kernel
theorem dL_phone_14 : decode cL_phone 14 = .ok (.goto 19, 3) := by decide +kernel
theorem dL_phone_17 : decode cL_phone 17 = .ok (.astore 6, 2) := by decide +kernel
theorem dL_phone_19 : decode cL_phone 19 = .ok (.iconst 1, 1) := by decide +kernel
theorem dL_phone_20 : decode cL_phone 20 = .ok (.ireturn, 1) := by decide +kernel
theorem dL_phone_21 : decode cL_phone 21 = .ok (.astore 6, 2) := by decide +kernel
theorem dL_phone_23 : decode cL_phone 23 = .ok (.iconst 2, 1) := by decide +kernel
theorem dL_phone_24 : decode cL_phone 24 = .ok (.ireturn, 1) := by decide +kernel
theorem dL_phone_25 : decode cL_phone 25 = .ok (.astore 6, 2) := by decide +kernel
theorem dL_phone_27 : decode cL_phone 27 = .ok (.iconst 3, 1) := by decide +kernel
theorem dL_phone_28 : decode cL_phone 28 = .ok (.ireturn, 1) := by decide +kernel
theorem dL_phone_29 : decode cL_phone 29 = .ok (.astore 6, 2) := by decide +kernel
theorem dL_phone_31 : decode cL_phone 31 = .ok (.iconst 4, 1) := by decide +kernel
theorem dL_phone_32 : decode cL_phone 32 = .ok (.ireturn, 1) := by decide +kernel
theorem dL_phone_33 : decode cL_phone 33 = .ok (.iconst 0, 1) := by decide +kernel
theorem dL_phone_34 : decode cL_phone 34 = .ok (.ireturn, 1) := by decide +kernel
theorem dL_move_0 : decode cL_move 0 = .ok (.aload 5, 2) := by decide +kernel
theorem dL_move_2 : decode cL_move 2 = .ok (.iconst 0, 1) := by decide +kernel
theorem dL_move_3 : decode cL_move 3 = .ok (.aload_n 0, 1) := by decide +kernel
theorem dL_move_4 : decode cL_move 4 = .ok (.iload_n 1, 1) := by decide +kernel
theorem dL_move_5 : decode cL_move 5 = .ok (.iload_n 2, 1) := by decide +kernel
theorem dL_move_6 : decode cL_move 6 = .ok (.iload_n 3, 1) := by decide +kernel
theorem dL_move_7 : decode cL_move 7 = .ok (.iload 4, 2) := by decide +kernel
theorem dL_move_9 : decode cL_move 9 = .ok (.invokevirtual 21, 3) := by decide +kernel
theorem dL_move_12 : decode cL_move 12 = .ok (.i2l, 1) := by decide +kernel
theorem dL_move_13 : decode cL_move 13 = .ok (.lastore, 1) := by decide +kernel
theorem dL_move_14 : decode cL_move 14 = .ok (.goto 11, 3) := by decide +kernel
theorem dL_move_17 : decode cL_move 17 = .ok (.astore 6, 2) := by decide +kernel
theorem dL_move_19 : decode cL_move 19 = .ok (.iconst 1, 1) := by decide +kernel
theorem dL_move_20 : decode cL_move 20 = .ok (.ireturn, 1) := by decide +kernel
theorem dL_move_21 : decode cL_move 21 = .ok (.astore 6, 2) := by decide +kernel
theorem dL_move_23 : decode cL_move 23 = .ok (.iconst 2, 1) := by decide +kernel
theorem dL_move_24 : decode cL_move 24 = .ok (.ireturn, 1) := by decide +kernel
theorem dL_move_25 : decode cL_move 25 = .ok (.iconst 0, 1) := by decide +kernel
theorem dL_move_26 : decode cL_move 26 = .ok (.ireturn, 1) := by decide +kernel
theorem dL_rules_0 : decode cL_rules 0 = .ok (.aload_n 1, 1) := by decide +kernel
theorem dL_rules_1 : decode cL_rules 1 = .ok (.iconst 0, 1) := by decide +kernel
theorem dL_rules_2 : decode cL_rules 2 = .ok (.aload_n 0, 1) := by decide +kernel
theorem dL_rules_3 : decode cL_rules 3 = .ok (.invokevirtual 24, 3) := by decide +kernel
theorem dL_rules_6 : decode cL_rules 6 = .ok (.i2l, 1) := by decide +kernel
theorem dL_rules_7 : decode cL_rules 7 = .ok (.lastore, 1) := by decide +kernel
theorem dL_rules_8 : decode cL_rules 8 = .ok (.goto 9, 3) := by decide +kernel
theorem dL_rules_11 : decode cL_rules 11 = .ok (.astore_n 2, 1) := by decide +kernel
theorem dL_rules_12 : decode cL_rules 12 = .ok (.iconst 1, 1) := by decide +kernel
theorem dL_rules_13 : decode cL_rules 13 = .ok (.ireturn, 1) := by decide +kernel
theorem dL_rules_14 : decode cL_rules 14 = .ok (.astore_n 2, 1) := by decide +kernel
theorem dL_rules_15 : decode cL_rules 15 = .ok (.iconst 2, 1) := by decide +kernel
theorem dL_rules_16 : decode cL_rules 16 = .ok (.ireturn, 1) := by decide +kernel
theorem dL_rules_17 : decode cL_rules 17 = .ok (.iconst 0, 1) := by decide +kernel
theorem dL_rules_18 : decode cL_rules 18 = .ok (.ireturn, 1) := by decide +kernel
theorem dL_say_0 : decode cL_say 0 = .ok (.aload 8, 2) := by decide +kernel
theorem dL_say_2 : decode cL_say 2 = .ok (.iconst 0, 1) := by decide +kernel
theorem dL_say_3 : decode cL_say 3 = .ok (.aload_n 0, 1) := by decide +kernel
theorem dL_say_4 : decode cL_say 4 = .ok (.iload_n 1, 1) := by decide +kernel
theorem dL_say_5 : decode cL_say 5 = .ok (.iload_n 2, 1) := by decide +kernel
theorem dL_say_6 : decode cL_say 6 = .ok (.iload_n 3, 1) := by decide +kernel
theorem dL_say_7 : decode cL_say 7 = .ok (.iload 4, 2) := by decide +kernel
theorem dL_say_9 : decode cL_say 9 = .ok (.iload 5, 2) := by decide +kernel
theorem dL_say_11 : decode cL_say 11 = .ok (.iload 6, 2) := by decide +kernel
theorem dL_say_13 : decode cL_say 13 = .ok (.iload 7, 2) := by decide +kernel
theorem dL_say_15 : decode cL_say 15 = .ok (.invokevirtual 28, 3) := by decide +kernel
theorem dL_say_18 : decode cL_say 18 = .ok (.i2l, 1) := by decide +kernel
theorem dL_say_19 : decode cL_say 19 = .ok (.lastore, 1) := by decide +kernel
theorem dL_say_20 : decode cL_say 20 = .ok (.goto 15, 3) := by decide +kernel
theorem dL_say_23 : decode cL_say 23 = .ok (.astore 9, 2) := by decide +kernel
theorem dL_say_25 : decode cL_say 25 = .ok (.iconst 1, 1) := by decide +kernel
theorem dL_say_26 : decode cL_say 26 = .ok (.ireturn, 1) := by decide +kernel
theorem dL_say_27 : decode cL_say 27 = .ok (.astore 9, 2) := by decide +kernel
theorem dL_say_29 : decode cL_say 29 = .ok (.iconst 2, 1) := by decide +kernel
theorem dL_say_30 : decode cL_say 30 = .ok (.ireturn, 1) := by decide +kernel
theorem dL_say_31 : decode cL_say 31 = .ok (.astore 9, 2) := by decide +kernel
theorem dL_say_33 : decode cL_say 33 = .ok (.iconst 3, 1) := by decide +kernel
theorem dL_say_34 : decode cL_say 34 = .ok (.ireturn, 1) := by decide +kernel
theorem dL_say_35 : decode cL_say 35 = .ok (.iconst 0, 1) := by decide +kernel
theorem dL_say_36 : decode cL_say 36 = .ok (.ireturn, 1) := by decide +kernel
theorem dL_undo_0 : decode cL_undo 0 = .ok (.aload 4, 2) := by decide +kernel
theorem dL_undo_2 : decode cL_undo 2 = .ok (.iconst 0, 1) := by decide +kernel
theorem dL_undo_3 : decode cL_undo 3 = .ok (.aload_n 0, 1) := by decide +kernel
theorem dL_undo_4 : decode cL_undo 4 = .ok (.iload_n 1, 1) := by decide +kernel
theorem dL_undo_5 : decode cL_undo 5 = .ok (.iload_n 2, 1) := by decide +kernel
theorem dL_undo_6 : decode cL_undo 6 = .ok (.iload_n 3, 1) := by decide +kernel
theorem dL_undo_7 : decode cL_undo 7 = .ok (.invokevirtual 32, 3) := by decide +kernel
theorem dL_undo_10 : decode cL_undo 10 = .ok (.i2l, 1) := by decide +kernel
theorem dL_undo_11 : decode cL_undo 11 = .ok (.lastore, 1) := by decide +kernel
theorem dL_undo_12 : decode cL_undo 12 = .ok (.goto 15, 3) := by decide +kernel
theorem dL_undo_15 : decode cL_undo 15 = .ok (.astore 5, 2) := by decide +kernel
theorem dL_undo_17 : decode cL_undo 17 = .ok (.iconst 1, 1) := by decide +kernel
theorem dL_undo_18 : decode cL_undo 18 = .ok (.ireturn, 1) := by decide +kernel
theorem dL_undo_19 : decode cL_undo 19 = .ok (.astore 5, 2) := by decide +kernel
theorem dL_undo_21 : decode cL_undo 21 = .ok (.iconst 2, 1) := by decide +kernel
theorem dL_undo_22 : decode cL_undo 22 = .ok (.ireturn, 1) := by decide +kernel
theorem dL_undo_23 : decode cL_undo 23 = .ok (.astore 5, 2) := by decide +kernel
theorem dL_undo_25 : decode cL_undo 25 = .ok (.iconst 3, 1) := by decide +kernel
theorem dL_undo_26 : decode cL_undo 26 = .ok (.ireturn, 1) := by decide +kernel
theorem dL_undo_27 : decode cL_undo 27 = .ok (.iconst 0, 1) := by decide +kernel
theorem dL_undo_28 : decode cL_undo 28 = .ok (.ireturn, 1) := by decide +kernel
theorem dL_ticks_0 : decode cL_ticks 0 = .ok (.aload_n 2, 1) := by decide +kernel
theorem dL_ticks_1 : decode cL_ticks 1 = .ok (.iconst 0, 1) := by decide +kernel
theorem dL_ticks_2 : decode cL_ticks 2 = .ok (.aload_n 0, 1) := by decide +kernel
theorem dL_ticks_3 : decode cL_ticks 3 = .ok (.iload_n 1, 1) := by decide +kernel
theorem dL_ticks_4 : decode cL_ticks 4 = .ok (.invokevirtual 36, 3) := by decide +kernel
theorem dL_ticks_7 : decode cL_ticks 7 = .ok (.i2l, 1) := by decide +kernel
theorem dL_ticks_8 : decode cL_ticks 8 = .ok (.lastore, 1) := by decide +kernel
theorem dL_ticks_9 : decode cL_ticks 9 = .ok (.goto 6, 3) := by decide +kernel
theorem dL_ticks_12 : decode cL_ticks 12 = .ok (.astore_n 3, 1) := by decide +kernel
theorem dL_ticks_13 : decode cL_ticks 13 = .ok (.iconst 1, 1) := by decide +kernel
theorem dL_ticks_14 : decode cL_ticks 14 = .ok (.ireturn, 1) := by decide +kernel
theorem dL_ticks_15 : decode cL_ticks 15 = .ok (.iconst 0, 1) := by decide +kernel
theorem dL_ticks_16 : decode cL_ticks 16 = .ok (.ireturn, 1) := by decide +kernel
theorem dL_look_0 : decode cL_look 0 = .ok (.aload_n 3, 1) := by decide +kernel
theorem dL_look_1 : decode cL_look 1 = .ok (.iconst 0, 1) := by decide +kernel
theorem dL_look_2 : decode cL_look 2 = .ok (.aload_n 0, 1) := by decide +kernel
theorem dL_look_3 : decode cL_look 3 = .ok (.iload_n 1, 1) := by decide +kernel
theorem dL_look_4 : decode cL_look 4 = .ok (.iload_n 2, 1) := by decide +kernel
theorem dL_look_5 : decode cL_look 5 = .ok (.invokevirtual 40, 3) := by decide +kernel
theorem dL_look_8 : decode cL_look 8 = .ok (.i2l, 1) := by decide +kernel
theorem dL_look_9 : decode cL_look 9 = .ok (.lastore, 1) := by decide +kernel
theorem dL_look_10 : decode cL_look 10 = .ok (.goto 11, 3) := by decide +kernel
theorem dL_look_13 : decode cL_look 13 = .ok (.astore 4, 2) := by decide +kernel
theorem dL_look_15 : decode cL_look 15 = .ok (.iconst 1, 1) := by decide +kernel
theorem dL_look_16 : decode cL_look 16 = .ok (.ireturn, 1) := by decide +kernel
theorem dL_look_17 : decode cL_look 17 = .ok (.astore 4, 2) := by decide +kernel
theorem dL_look_19 : decode cL_look 19 = .ok (.iconst 2, 1) := by decide +kernel
theorem dL_look_20 : decode cL_look 20 = .ok (.ireturn, 1) := by decide +kernel
theorem dL_look_21 : decode cL_look 21 = .ok (.iconst 0, 1) := by decide +kernel
theorem dL_look_22 : decode cL_look 22 = .ok (.ireturn, 1) := by decide +kernel
theorem dL_copy_0 : decode cL_copy 0 = .ok (.aload 4, 2) := by decide +kernel
theorem dL_copy_2 : decode cL_copy 2 = .ok (.iconst 0, 1) := by decide +kernel
theorem dL_copy_3 : decode cL_copy 3 = .ok (.aload_n 0, 1) := by decide +kernel
theorem dL_copy_4 : decode cL_copy 4 = .ok (.iload_n 1, 1) := by decide +kernel
theorem dL_copy_5 : decode cL_copy 5 = .ok (.iload_n 2, 1) := by decide +kernel
theorem dL_copy_6 : decode cL_copy 6 = .ok (.iload_n 3, 1) := by decide +kernel
theorem dL_copy_7 : decode cL_copy 7 = .ok (.invokevirtual 46, 3) := by decide +kernel
theorem dL_copy_10 : decode cL_copy 10 = .ok (.i2l, 1) := by decide +kernel
theorem dL_copy_11 : decode cL_copy 11 = .ok (.lastore, 1) := by decide +kernel
theorem dL_copy_12 : decode cL_copy 12 = .ok (.goto 11, 3) := by decide +kernel
theorem dL_copy_15 : decode cL_copy 15 = .ok (.astore 5, 2) := by decide +kernel
theorem dL_copy_17 : decode cL_copy 17 = .ok (.iconst 1, 1) := by decide +kernel
