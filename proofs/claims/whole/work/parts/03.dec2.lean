theorem dX9_odds_79 : decode cX9_odds 79 = .ok (.lstore_n 3, 1) := by decide +kernel
theorem dX9_odds_80 : decode cX9_odds 80 = .ok (.iinc 5 1, 3) := by decide +kernel
theorem dX9_odds_83 : decode cX9_odds 83 = .ok (.goto (-55), 3) := by decide +kernel
theorem dX9_odds_86 : decode cX9_odds 86 = .ok (.aload_n 0, 1) := by decide +kernel
theorem dX9_odds_87 : decode cX9_odds 87 = .ok (.lload_n 3, 1) := by decide +kernel
theorem dX9_odds_88 : decode cX9_odds 88 = .ok (.ldc2_w 257, 3) := by decide +kernel
theorem dX9_odds_91 : decode cX9_odds 91 = .ok (.aload_n 0, 1) := by decide +kernel
theorem dX9_odds_92 : decode cX9_odds 92 = .ok (.getfield 71, 3) := by decide +kernel
theorem dX9_odds_95 : decode cX9_odds 95 = .ok (.getfield 127, 3) := by decide +kernel
theorem dX9_odds_98 : decode cX9_odds 98 = .ok (.invokestatic 259, 3) := by decide +kernel
theorem dX9_odds_101 : decode cX9_odds 101 = .ok (.invokevirtual 245, 3) := by decide +kernel
theorem dX9_odds_104 : decode cX9_odds 104 = .ok (.iconst 1, 1) := by decide +kernel
theorem dX9_odds_105 : decode cX9_odds 105 = .ok (.ireturn, 1) := by decide +kernel
theorem dX9_mid_0 : decode cX9_mid 0 = .ok (.iload_n 1, 1) := by decide +kernel
theorem dX9_mid_1 : decode cX9_mid 1 = .ok (.ifCond .lt 9, 3) := by decide +kernel
theorem dX9_mid_4 : decode cX9_mid 4 = .ok (.iload_n 1, 1) := by decide +kernel
theorem dX9_mid_5 : decode cX9_mid 5 = .ok (.bipush 12, 2) := by decide +kernel
theorem dX9_mid_7 : decode cX9_mid 7 = .ok (.if_icmp .le 5, 3) := by decide +kernel
theorem dX9_mid_10 : decode cX9_mid 10 = .ok (.iconst (-1), 1) := by decide +kernel
theorem dX9_mid_11 : decode cX9_mid 11 = .ok (.ireturn, 1) := by decide +kernel
theorem dX9_mid_12 : decode cX9_mid 12 = .ok (.aload_n 0, 1) := by decide +kernel
theorem dX9_mid_13 : decode cX9_mid 13 = .ok (.getfield 71, 3) := by decide +kernel
theorem dX9_mid_16 : decode cX9_mid 16 = .ok (.getfield 127, 3) := by decide +kernel
theorem dX9_mid_19 : decode cX9_mid 19 = .ok (.ifCond .ne 6, 3) := by decide +kernel
theorem dX9_mid_22 : decode cX9_mid 22 = .ok (.bipush (-4), 2) := by decide +kernel
theorem dX9_mid_24 : decode cX9_mid 24 = .ok (.ireturn, 1) := by decide +kernel
theorem dX9_mid_25 : decode cX9_mid 25 = .ok (.lconst 0, 1) := by decide +kernel
theorem dX9_mid_26 : decode cX9_mid 26 = .ok (.lstore_n 2, 1) := by decide +kernel
theorem dX9_mid_27 : decode cX9_mid 27 = .ok (.iconst 0, 1) := by decide +kernel
theorem dX9_mid_28 : decode cX9_mid 28 = .ok (.istore 4, 2) := by decide +kernel
theorem dX9_mid_30 : decode cX9_mid 30 = .ok (.iload 4, 2) := by decide +kernel
theorem dX9_mid_32 : decode cX9_mid 32 = .ok (.iconst 1, 1) := by decide +kernel
theorem dX9_mid_33 : decode cX9_mid 33 = .ok (.aload_n 0, 1) := by decide +kernel
theorem dX9_mid_34 : decode cX9_mid 34 = .ok (.getfield 71, 3) := by decide +kernel
theorem dX9_mid_37 : decode cX9_mid 37 = .ok (.getfield 127, 3) := by decide +kernel
theorem dX9_mid_40 : decode cX9_mid 40 = .ok (.ishl, 1) := by decide +kernel
theorem dX9_mid_41 : decode cX9_mid 41 = .ok (.if_icmp .ge 49, 3) := by decide +kernel
theorem dX9_mid_44 : decode cX9_mid 44 = .ok (.aload_n 0, 1) := by decide +kernel
theorem dX9_mid_45 : decode cX9_mid 45 = .ok (.getfield 74, 3) := by decide +kernel
theorem dX9_mid_48 : decode cX9_mid 48 = .ok (.aload_n 0, 1) := by decide +kernel
theorem dX9_mid_49 : decode cX9_mid 49 = .ok (.getfield 71, 3) := by decide +kernel
theorem dX9_mid_52 : decode cX9_mid 52 = .ok (.invokevirtual 120, 3) := by decide +kernel
theorem dX9_mid_55 : decode cX9_mid 55 = .ok (.aload_n 0, 1) := by decide +kernel
theorem dX9_mid_56 : decode cX9_mid 56 = .ok (.getfield 74, 3) := by decide +kernel
theorem dX9_mid_59 : decode cX9_mid 59 = .ok (.iload 4, 2) := by decide +kernel
theorem dX9_mid_61 : decode cX9_mid 61 = .ok (.invokevirtual 203, 3) := by decide +kernel
theorem dX9_mid_64 : decode cX9_mid 64 = .ok (.pop, 1) := by decide +kernel
theorem dX9_mid_65 : decode cX9_mid 65 = .ok (.lload_n 2, 1) := by decide +kernel
theorem dX9_mid_66 : decode cX9_mid 66 = .ok (.aload_n 0, 1) := by decide +kernel
theorem dX9_mid_67 : decode cX9_mid 67 = .ok (.getfield 74, 3) := by decide +kernel
theorem dX9_mid_70 : decode cX9_mid 70 = .ok (.getfield 159, 3) := by decide +kernel
theorem dX9_mid_73 : decode cX9_mid 73 = .ok (.i2l, 1) := by decide +kernel
theorem dX9_mid_74 : decode cX9_mid 74 = .ok (.aload_n 0, 1) := by decide +kernel
theorem dX9_mid_75 : decode cX9_mid 75 = .ok (.iload 4, 2) := by decide +kernel
theorem dX9_mid_77 : decode cX9_mid 77 = .ok (.iload_n 1, 1) := by decide +kernel
theorem dX9_mid_78 : decode cX9_mid 78 = .ok (.invokevirtual 253, 3) := by decide +kernel
theorem dX9_mid_81 : decode cX9_mid 81 = .ok (.lmul, 1) := by decide +kernel
theorem dX9_mid_82 : decode cX9_mid 82 = .ok (.ladd, 1) := by decide +kernel
theorem dX9_mid_83 : decode cX9_mid 83 = .ok (.lstore_n 2, 1) := by decide +kernel
theorem dX9_mid_84 : decode cX9_mid 84 = .ok (.iinc 4 1, 3) := by decide +kernel
theorem dX9_mid_87 : decode cX9_mid 87 = .ok (.goto (-57), 3) := by decide +kernel
theorem dX9_mid_90 : decode cX9_mid 90 = .ok (.aload_n 0, 1) := by decide +kernel
theorem dX9_mid_91 : decode cX9_mid 91 = .ok (.lload_n 2, 1) := by decide +kernel
theorem dX9_mid_92 : decode cX9_mid 92 = .ok (.ldc2_w 257, 3) := by decide +kernel
theorem dX9_mid_95 : decode cX9_mid 95 = .ok (.aload_n 0, 1) := by decide +kernel
theorem dX9_mid_96 : decode cX9_mid 96 = .ok (.getfield 71, 3) := by decide +kernel
theorem dX9_mid_99 : decode cX9_mid 99 = .ok (.getfield 127, 3) := by decide +kernel
theorem dX9_mid_102 : decode cX9_mid 102 = .ok (.invokestatic 259, 3) := by decide +kernel
theorem dX9_mid_105 : decode cX9_mid 105 = .ok (.invokevirtual 245, 3) := by decide +kernel
theorem dX9_mid_108 : decode cX9_mid 108 = .ok (.iconst 1, 1) := by decide +kernel
theorem dX9_mid_109 : decode cX9_mid 109 = .ok (.ireturn, 1) := by decide +kernel
theorem dX9_lots_0 : decode cX9_lots 0 = .ok (.iload_n 1, 1) := by decide +kernel
theorem dX9_lots_1 : decode cX9_lots 1 = .ok (.iconst 1, 1) := by decide +kernel
theorem dX9_lots_2 : decode cX9_lots 2 = .ok (.if_icmp .lt 23, 3) := by decide +kernel
theorem dX9_lots_5 : decode cX9_lots 5 = .ok (.iload_n 1, 1) := by decide +kernel
theorem dX9_lots_6 : decode cX9_lots 6 = .ok (.bipush 20, 2) := by decide +kernel
theorem dX9_lots_8 : decode cX9_lots 8 = .ok (.if_icmp .gt 17, 3) := by decide +kernel
theorem dX9_lots_11 : decode cX9_lots 11 = .ok (.iload_n 2, 1) := by decide +kernel
theorem dX9_lots_12 : decode cX9_lots 12 = .ok (.iconst 1, 1) := by decide +kernel
theorem dX9_lots_13 : decode cX9_lots 13 = .ok (.if_icmp .lt 12, 3) := by decide +kernel
theorem dX9_lots_16 : decode cX9_lots 16 = .ok (.iload_n 2, 1) := by decide +kernel
theorem dX9_lots_17 : decode cX9_lots 17 = .ok (.i2l, 1) := by decide +kernel
theorem dX9_lots_18 : decode cX9_lots 18 = .ok (.ldc2_w 263, 3) := by decide +kernel
theorem dX9_lots_21 : decode cX9_lots 21 = .ok (.lcmp, 1) := by decide +kernel
theorem dX9_lots_22 : decode cX9_lots 22 = .ok (.ifCond .lt 5, 3) := by decide +kernel
theorem dX9_lots_25 : decode cX9_lots 25 = .ok (.iconst (-1), 1) := by decide +kernel
theorem dX9_lots_26 : decode cX9_lots 26 = .ok (.ireturn, 1) := by decide +kernel
theorem dX9_lots_27 : decode cX9_lots 27 = .ok (.aload_n 0, 1) := by decide +kernel
theorem dX9_lots_28 : decode cX9_lots 28 = .ok (.getfield 71, 3) := by decide +kernel
theorem dX9_lots_31 : decode cX9_lots 31 = .ok (.getfield 127, 3) := by decide +kernel
theorem dX9_lots_34 : decode cX9_lots 34 = .ok (.ifCond .ne 6, 3) := by decide +kernel
theorem dX9_lots_37 : decode cX9_lots 37 = .ok (.bipush (-4), 2) := by decide +kernel
theorem dX9_lots_39 : decode cX9_lots 39 = .ok (.ireturn, 1) := by decide +kernel
theorem dX9_lots_40 : decode cX9_lots 40 = .ok (.aload_n 0, 1) := by decide +kernel
theorem dX9_lots_41 : decode cX9_lots 41 = .ok (.getfield 31, 3) := by decide +kernel
theorem dX9_lots_44 : decode cX9_lots 44 = .ok (.getfield 124, 3) := by decide +kernel
theorem dX9_lots_47 : decode cX9_lots 47 = .ok (.iload_n 1, 1) := by decide +kernel
theorem dX9_lots_48 : decode cX9_lots 48 = .ok (.iadd, 1) := by decide +kernel
theorem dX9_lots_49 : decode cX9_lots 49 = .ok (.bipush 40, 2) := by decide +kernel
theorem dX9_lots_51 : decode cX9_lots 51 = .ok (.if_icmp .le 6, 3) := by decide +kernel
theorem dX9_lots_54 : decode cX9_lots 54 = .ok (.bipush (-2), 2) := by decide +kernel
theorem dX9_lots_56 : decode cX9_lots 56 = .ok (.ireturn, 1) := by decide +kernel
theorem dX9_lots_57 : decode cX9_lots 57 = .ok (.iload_n 2, 1) := by decide +kernel
theorem dX9_lots_58 : decode cX9_lots 58 = .ok (.i2l, 1) := by decide +kernel
theorem dX9_lots_59 : decode cX9_lots 59 = .ok (.lstore_n 3, 1) := by decide +kernel
theorem dX9_lots_60 : decode cX9_lots 60 = .ok (.iconst 0, 1) := by decide +kernel
theorem dX9_lots_61 : decode cX9_lots 61 = .ok (.istore 5, 2) := by decide +kernel
theorem dX9_lots_63 : decode cX9_lots 63 = .ok (.iload 5, 2) := by decide +kernel
theorem dX9_lots_65 : decode cX9_lots 65 = .ok (.iload_n 1, 1) := by decide +kernel
theorem dX9_lots_66 : decode cX9_lots 66 = .ok (.if_icmp .ge 25, 3) := by decide +kernel
theorem dX9_lots_69 : decode cX9_lots 69 = .ok (.lload_n 3, 1) := by decide +kernel
theorem dX9_lots_70 : decode cX9_lots 70 = .ok (.ldc2_w 265, 3) := by decide +kernel
theorem dX9_lots_73 : decode cX9_lots 73 = .ok (.lmul, 1) := by decide +kernel
theorem dX9_lots_74 : decode cX9_lots 74 = .ok (.ldc2_w 263, 3) := by decide +kernel
theorem dX9_lots_77 : decode cX9_lots 77 = .ok (.lrem, 1) := by decide +kernel
theorem dX9_lots_78 : decode cX9_lots 78 = .ok (.lstore_n 3, 1) := by decide +kernel
theorem dX9_lots_79 : decode cX9_lots 79 = .ok (.aload_n 0, 1) := by decide +kernel
theorem dX9_lots_80 : decode cX9_lots 80 = .ok (.lload_n 3, 1) := by decide +kernel
theorem dX9_lots_81 : decode cX9_lots 81 = .ok (.l2i, 1) := by decide +kernel
theorem dX9_lots_82 : decode cX9_lots 82 = .ok (.invokevirtual 267, 3) := by decide +kernel
theorem dX9_lots_85 : decode cX9_lots 85 = .ok (.iinc 5 1, 3) := by decide +kernel
theorem dX9_lots_88 : decode cX9_lots 88 = .ok (.goto (-25), 3) := by decide +kernel
theorem dX9_lots_91 : decode cX9_lots 91 = .ok (.aload_n 0, 1) := by decide +kernel
theorem dX9_lots_92 : decode cX9_lots 92 = .ok (.getfield 71, 3) := by decide +kernel
theorem dX9_lots_95 : decode cX9_lots 95 = .ok (.invokevirtual 142, 3) := by decide +kernel
theorem dX9_lots_98 : decode cX9_lots 98 = .ok (.ireturn, 1) := by decide +kernel
theorem dX9_asked_0 : decode cX9_asked 0 = .ok (.aload_n 0, 1) := by decide +kernel
theorem dX9_asked_1 : decode cX9_asked 1 = .ok (.getfield 49, 3) := by decide +kernel
theorem dX9_asked_4 : decode cX9_asked 4 = .ok (.ireturn, 1) := by decide +kernel
theorem dX9_upper_0 : decode cX9_upper 0 = .ok (.aload_n 0, 1) := by decide +kernel
theorem dX9_upper_1 : decode cX9_upper 1 = .ok (.getfield 52, 3) := by decide +kernel
theorem dX9_upper_4 : decode cX9_upper 4 = .ok (.lreturn, 1) := by decide +kernel
theorem dX9_lower_0 : decode cX9_lower 0 = .ok (.aload_n 0, 1) := by decide +kernel
theorem dX9_lower_1 : decode cX9_lower 1 = .ok (.getfield 56, 3) := by decide +kernel
theorem dX9_lower_4 : decode cX9_lower 4 = .ok (.lreturn, 1) := by decide +kernel
theorem dX9_count_0 : decode cX9_count 0 = .ok (.iload_n 1, 1) := by decide +kernel
theorem dX9_count_1 : decode cX9_count 1 = .ok (.tableswitch 186 0 14 #[75, 83, 91, 99, 107, 115, 123, 131, 139, 147, 155, 160, 165, 173, 181], 75) := by decide +kernel
theorem dX9_count_76 : decode cX9_count 76 = .ok (.aload_n 0, 1) := by decide +kernel
theorem dX9_count_77 : decode cX9_count 77 = .ok (.getfield 71, 3) := by decide +kernel
theorem dX9_count_80 : decode cX9_count 80 = .ok (.getfield 127, 3) := by decide +kernel
theorem dX9_count_83 : decode cX9_count 83 = .ok (.ireturn, 1) := by decide +kernel
theorem dX9_count_84 : decode cX9_count 84 = .ok (.aload_n 0, 1) := by decide +kernel
theorem dX9_count_85 : decode cX9_count 85 = .ok (.getfield 71, 3) := by decide +kernel
theorem dX9_count_88 : decode cX9_count 88 = .ok (.getfield 159, 3) := by decide +kernel
theorem dX9_count_91 : decode cX9_count 91 = .ok (.ireturn, 1) := by decide +kernel
theorem dX9_count_92 : decode cX9_count 92 = .ok (.aload_n 0, 1) := by decide +kernel
theorem dX9_count_93 : decode cX9_count 93 = .ok (.getfield 71, 3) := by decide +kernel
theorem dX9_count_96 : decode cX9_count 96 = .ok (.getfield 200, 3) := by decide +kernel
theorem dX9_count_99 : decode cX9_count 99 = .ok (.ireturn, 1) := by decide +kernel
theorem dX9_count_100 : decode cX9_count 100 = .ok (.aload_n 0, 1) := by decide +kernel
theorem dX9_count_101 : decode cX9_count 101 = .ok (.getfield 71, 3) := by decide +kernel
theorem dX9_count_104 : decode cX9_count 104 = .ok (.getfield 176, 3) := by decide +kernel
theorem dX9_count_107 : decode cX9_count 107 = .ok (.ireturn, 1) := by decide +kernel
theorem dX9_count_108 : decode cX9_count 108 = .ok (.aload_n 0, 1) := by decide +kernel
theorem dX9_count_109 : decode cX9_count 109 = .ok (.getfield 71, 3) := by decide +kernel
theorem dX9_count_112 : decode cX9_count 112 = .ok (.getfield 179, 3) := by decide +kernel
theorem dX9_count_115 : decode cX9_count 115 = .ok (.ireturn, 1) := by decide +kernel
theorem dX9_count_116 : decode cX9_count 116 = .ok (.aload_n 0, 1) := by decide +kernel
theorem dX9_count_117 : decode cX9_count 117 = .ok (.getfield 71, 3) := by decide +kernel
theorem dX9_count_120 : decode cX9_count 120 = .ok (.getfield 270, 3) := by decide +kernel
theorem dX9_count_123 : decode cX9_count 123 = .ok (.ireturn, 1) := by decide +kernel
theorem dX9_count_124 : decode cX9_count 124 = .ok (.aload_n 0, 1) := by decide +kernel
theorem dX9_count_125 : decode cX9_count 125 = .ok (.getfield 31, 3) := by decide +kernel
theorem dX9_count_128 : decode cX9_count 128 = .ok (.getfield 124, 3) := by decide +kernel
theorem dX9_count_131 : decode cX9_count 131 = .ok (.ireturn, 1) := by decide +kernel
theorem dX9_count_132 : decode cX9_count 132 = .ok (.aload_n 0, 1) := by decide +kernel
theorem dX9_count_133 : decode cX9_count 133 = .ok (.getfield 71, 3) := by decide +kernel
theorem dX9_count_136 : decode cX9_count 136 = .ok (.getfield 273, 3) := by decide +kernel
theorem dX9_count_139 : decode cX9_count 139 = .ok (.ireturn, 1) := by decide +kernel
theorem dX9_count_140 : decode cX9_count 140 = .ok (.aload_n 0, 1) := by decide +kernel
theorem dX9_count_141 : decode cX9_count 141 = .ok (.getfield 71, 3) := by decide +kernel
theorem dX9_count_144 : decode cX9_count 144 = .ok (.getfield 276, 3) := by decide +kernel
theorem dX9_count_147 : decode cX9_count 147 = .ok (.ireturn, 1) := by decide +kernel
theorem dX9_count_148 : decode cX9_count 148 = .ok (.aload_n 0, 1) := by decide +kernel
theorem dX9_count_149 : decode cX9_count 149 = .ok (.getfield 71, 3) := by decide +kernel
theorem dX9_count_152 : decode cX9_count 152 = .ok (.invokevirtual 142, 3) := by decide +kernel
theorem dX9_count_155 : decode cX9_count 155 = .ok (.ireturn, 1) := by decide +kernel
theorem dX9_count_156 : decode cX9_count 156 = .ok (.aload_n 0, 1) := by decide +kernel
theorem dX9_count_157 : decode cX9_count 157 = .ok (.invokevirtual 279, 3) := by decide +kernel
theorem dX9_count_160 : decode cX9_count 160 = .ok (.ireturn, 1) := by decide +kernel
theorem dX9_count_161 : decode cX9_count 161 = .ok (.aload_n 0, 1) := by decide +kernel
theorem dX9_count_162 : decode cX9_count 162 = .ok (.invokevirtual 282, 3) := by decide +kernel
theorem dX9_count_165 : decode cX9_count 165 = .ok (.ireturn, 1) := by decide +kernel
theorem dX9_count_166 : decode cX9_count 166 = .ok (.aload_n 0, 1) := by decide +kernel
theorem dX9_count_167 : decode cX9_count 167 = .ok (.getfield 14, 3) := by decide +kernel
theorem dX9_count_170 : decode cX9_count 170 = .ok (.invokestatic 285, 3) := by decide +kernel
theorem dX9_count_173 : decode cX9_count 173 = .ok (.ireturn, 1) := by decide +kernel
theorem dX9_count_174 : decode cX9_count 174 = .ok (.aload_n 0, 1) := by decide +kernel
theorem dX9_count_175 : decode cX9_count 175 = .ok (.getfield 23, 3) := by decide +kernel
theorem dX9_count_178 : decode cX9_count 178 = .ok (.invokestatic 285, 3) := by decide +kernel
theorem dX9_count_181 : decode cX9_count 181 = .ok (.ireturn, 1) := by decide +kernel
theorem dX9_count_182 : decode cX9_count 182 = .ok (.aload_n 0, 1) := by decide +kernel
theorem dX9_count_183 : decode cX9_count 183 = .ok (.invokevirtual 288, 3) := by decide +kernel
theorem dX9_count_186 : decode cX9_count 186 = .ok (.ireturn, 1) := by decide +kernel
theorem dX9_count_187 : decode cX9_count 187 = .ok (.iconst (-1), 1) := by decide +kernel
theorem dX9_count_188 : decode cX9_count 188 = .ok (.ireturn, 1) := by decide +kernel
theorem dX9_finding_0 : decode cX9_finding 0 = .ok (.aload_n 0, 1) := by decide +kernel
theorem dX9_finding_1 : decode cX9_finding 1 = .ok (.getfield 45, 3) := by decide +kernel
theorem dX9_finding_4 : decode cX9_finding 4 = .ok (.ireturn, 1) := by decide +kernel
theorem dX9_findings_0 : decode cX9_findings 0 = .ok (.iload_n 1, 1) := by decide +kernel
theorem dX9_findings_1 : decode cX9_findings 1 = .ok (.iconst 1, 1) := by decide +kernel
theorem dX9_findings_2 : decode cX9_findings 2 = .ok (.if_icmp .lt 8, 3) := by decide +kernel
theorem dX9_findings_5 : decode cX9_findings 5 = .ok (.iload_n 1, 1) := by decide +kernel
theorem dX9_findings_6 : decode cX9_findings 6 = .ok (.iconst 5, 1) := by decide +kernel
theorem dX9_findings_7 : decode cX9_findings 7 = .ok (.if_icmp .le 5, 3) := by decide +kernel
theorem dX9_findings_10 : decode cX9_findings 10 = .ok (.iconst (-1), 1) := by decide +kernel
theorem dX9_findings_11 : decode cX9_findings 11 = .ok (.ireturn, 1) := by decide +kernel
theorem dX9_findings_12 : decode cX9_findings 12 = .ok (.aload_n 0, 1) := by decide +kernel
theorem dX9_findings_13 : decode cX9_findings 13 = .ok (.getfield 42, 3) := by decide +kernel
theorem dX9_findings_16 : decode cX9_findings 16 = .ok (.iload_n 1, 1) := by decide +kernel
theorem dX9_findings_17 : decode cX9_findings 17 = .ok (.iaload, 1) := by decide +kernel
theorem dX9_findings_18 : decode cX9_findings 18 = .ok (.ireturn, 1) := by decide +kernel
theorem dX9_digest_0 : decode cX9_digest 0 = .ok (.ldc2_w 291, 3) := by decide +kernel
theorem dX9_digest_3 : decode cX9_digest 3 = .ok (.lstore_n 1, 1) := by decide +kernel
theorem dX9_digest_4 : decode cX9_digest 4 = .ok (.iconst 0, 1) := by decide +kernel
theorem dX9_digest_5 : decode cX9_digest 5 = .ok (.istore_n 3, 1) := by decide +kernel
theorem dX9_digest_6 : decode cX9_digest 6 = .ok (.iload_n 3, 1) := by decide +kernel
theorem dX9_digest_7 : decode cX9_digest 7 = .ok (.bipush 15, 2) := by decide +kernel
theorem dX9_digest_9 : decode cX9_digest 9 = .ok (.if_icmp .ge 22, 3) := by decide +kernel
theorem dX9_digest_12 : decode cX9_digest 12 = .ok (.ldc2_w 293, 3) := by decide +kernel
theorem dX9_digest_15 : decode cX9_digest 15 = .ok (.lload_n 1, 1) := by decide +kernel
theorem dX9_digest_16 : decode cX9_digest 16 = .ok (.lmul, 1) := by decide +kernel
theorem dX9_digest_17 : decode cX9_digest 17 = .ok (.aload_n 0, 1) := by decide +kernel
theorem dX9_digest_18 : decode cX9_digest 18 = .ok (.iload_n 3, 1) := by decide +kernel
theorem dX9_digest_19 : decode cX9_digest 19 = .ok (.invokevirtual 295, 3) := by decide +kernel
theorem dX9_digest_22 : decode cX9_digest 22 = .ok (.i2l, 1) := by decide +kernel
theorem dX9_digest_23 : decode cX9_digest 23 = .ok (.ladd, 1) := by decide +kernel
theorem dX9_digest_24 : decode cX9_digest 24 = .ok (.lstore_n 1, 1) := by decide +kernel
theorem dX9_digest_25 : decode cX9_digest 25 = .ok (.iinc 3 1, 3) := by decide +kernel
theorem dX9_digest_28 : decode cX9_digest 28 = .ok (.goto (-22), 3) := by decide +kernel
theorem dX9_digest_31 : decode cX9_digest 31 = .ok (.iconst 0, 1) := by decide +kernel
theorem dX9_digest_32 : decode cX9_digest 32 = .ok (.istore_n 3, 1) := by decide +kernel
theorem dX9_digest_33 : decode cX9_digest 33 = .ok (.iload_n 3, 1) := by decide +kernel
theorem dX9_digest_34 : decode cX9_digest 34 = .ok (.aload_n 0, 1) := by decide +kernel
theorem dX9_digest_35 : decode cX9_digest 35 = .ok (.getfield 71, 3) := by decide +kernel
theorem dX9_digest_38 : decode cX9_digest 38 = .ok (.getfield 127, 3) := by decide +kernel
theorem dX9_digest_41 : decode cX9_digest 41 = .ok (.if_icmp .ge 39, 3) := by decide +kernel
theorem dX9_digest_44 : decode cX9_digest 44 = .ok (.iconst 0, 1) := by decide +kernel
theorem dX9_digest_45 : decode cX9_digest 45 = .ok (.istore 4, 2) := by decide +kernel
theorem dX9_digest_47 : decode cX9_digest 47 = .ok (.iload 4, 2) := by decide +kernel
theorem dX9_digest_49 : decode cX9_digest 49 = .ok (.iconst 5, 1) := by decide +kernel
theorem dX9_digest_50 : decode cX9_digest 50 = .ok (.if_icmp .ge 24, 3) := by decide +kernel
theorem dX9_digest_53 : decode cX9_digest 53 = .ok (.ldc2_w 293, 3) := by decide +kernel
theorem dX9_digest_56 : decode cX9_digest 56 = .ok (.lload_n 1, 1) := by decide +kernel
theorem dX9_digest_57 : decode cX9_digest 57 = .ok (.lmul, 1) := by decide +kernel
theorem dX9_digest_58 : decode cX9_digest 58 = .ok (.aload_n 0, 1) := by decide +kernel
theorem dX9_digest_59 : decode cX9_digest 59 = .ok (.iload_n 3, 1) := by decide +kernel
theorem dX9_digest_60 : decode cX9_digest 60 = .ok (.iload 4, 2) := by decide +kernel
theorem dX9_digest_62 : decode cX9_digest 62 = .ok (.invokevirtual 133, 3) := by decide +kernel
theorem dX9_digest_65 : decode cX9_digest 65 = .ok (.i2l, 1) := by decide +kernel
theorem dX9_digest_66 : decode cX9_digest 66 = .ok (.ladd, 1) := by decide +kernel
theorem dX9_digest_67 : decode cX9_digest 67 = .ok (.lstore_n 1, 1) := by decide +kernel
theorem dX9_digest_68 : decode cX9_digest 68 = .ok (.iinc 4 1, 3) := by decide +kernel
theorem dX9_digest_71 : decode cX9_digest 71 = .ok (.goto (-24), 3) := by decide +kernel
theorem dX9_digest_74 : decode cX9_digest 74 = .ok (.iinc 3 1, 3) := by decide +kernel
theorem dX9_digest_77 : decode cX9_digest 77 = .ok (.goto (-44), 3) := by decide +kernel
theorem dX9_digest_80 : decode cX9_digest 80 = .ok (.iconst 0, 1) := by decide +kernel
theorem dX9_digest_81 : decode cX9_digest 81 = .ok (.istore_n 3, 1) := by decide +kernel
theorem dX9_digest_82 : decode cX9_digest 82 = .ok (.iload_n 3, 1) := by decide +kernel
theorem dX9_digest_83 : decode cX9_digest 83 = .ok (.iconst 3, 1) := by decide +kernel
theorem dX9_digest_84 : decode cX9_digest 84 = .ok (.if_icmp .ge 26, 3) := by decide +kernel
theorem dX9_digest_87 : decode cX9_digest 87 = .ok (.ldc2_w 293, 3) := by decide +kernel
theorem dX9_digest_90 : decode cX9_digest 90 = .ok (.lload_n 1, 1) := by decide +kernel
theorem dX9_digest_91 : decode cX9_digest 91 = .ok (.lmul, 1) := by decide +kernel
theorem dX9_digest_92 : decode cX9_digest 92 = .ok (.aload_n 0, 1) := by decide +kernel
theorem dX9_digest_93 : decode cX9_digest 93 = .ok (.getfield 35, 3) := by decide +kernel
theorem dX9_digest_96 : decode cX9_digest 96 = .ok (.iload_n 3, 1) := by decide +kernel
theorem dX9_digest_97 : decode cX9_digest 97 = .ok (.aaload, 1) := by decide +kernel
theorem dX9_digest_98 : decode cX9_digest 98 = .ok (.getfield 124, 3) := by decide +kernel
theorem dX9_digest_101 : decode cX9_digest 101 = .ok (.i2l, 1) := by decide +kernel
theorem dX9_digest_102 : decode cX9_digest 102 = .ok (.ladd, 1) := by decide +kernel
theorem dX9_digest_103 : decode cX9_digest 103 = .ok (.lstore_n 1, 1) := by decide +kernel
theorem dX9_digest_104 : decode cX9_digest 104 = .ok (.iinc 3 1, 3) := by decide +kernel
theorem dX9_digest_107 : decode cX9_digest 107 = .ok (.goto (-25), 3) := by decide +kernel
theorem dX9_digest_110 : decode cX9_digest 110 = .ok (.iconst 0, 1) := by decide +kernel
theorem dX9_digest_111 : decode cX9_digest 111 = .ok (.istore_n 3, 1) := by decide +kernel
theorem dX9_digest_112 : decode cX9_digest 112 = .ok (.iload_n 3, 1) := by decide +kernel
theorem dX9_digest_113 : decode cX9_digest 113 = .ok (.bipush 6, 2) := by decide +kernel
theorem dX9_digest_115 : decode cX9_digest 115 = .ok (.if_icmp .ge 60, 3) := by decide +kernel
theorem dX9_digest_118 : decode cX9_digest 118 = .ok (.ldc2_w 293, 3) := by decide +kernel
theorem dX9_digest_121 : decode cX9_digest 121 = .ok (.lload_n 1, 1) := by decide +kernel
theorem dX9_digest_122 : decode cX9_digest 122 = .ok (.lmul, 1) := by decide +kernel
theorem dX9_digest_123 : decode cX9_digest 123 = .ok (.aload_n 0, 1) := by decide +kernel
theorem dX9_digest_124 : decode cX9_digest 124 = .ok (.getfield 14, 3) := by decide +kernel
theorem dX9_digest_127 : decode cX9_digest 127 = .ok (.iload_n 3, 1) := by decide +kernel
theorem dX9_digest_128 : decode cX9_digest 128 = .ok (.iaload, 1) := by decide +kernel
theorem dX9_digest_129 : decode cX9_digest 129 = .ok (.i2l, 1) := by decide +kernel
theorem dX9_digest_130 : decode cX9_digest 130 = .ok (.ladd, 1) := by decide +kernel
theorem dX9_digest_131 : decode cX9_digest 131 = .ok (.lstore_n 1, 1) := by decide +kernel
theorem dX9_digest_132 : decode cX9_digest 132 = .ok (.iconst 0, 1) := by decide +kernel
theorem dX9_digest_133 : decode cX9_digest 133 = .ok (.istore 4, 2) := by decide +kernel
theorem dX9_digest_135 : decode cX9_digest 135 = .ok (.iload 4, 2) := by decide +kernel
theorem dX9_digest_137 : decode cX9_digest 137 = .ok (.aload_n 0, 1) := by decide +kernel
theorem dX9_digest_138 : decode cX9_digest 138 = .ok (.getfield 14, 3) := by decide +kernel
theorem dX9_digest_141 : decode cX9_digest 141 = .ok (.iload_n 3, 1) := by decide +kernel
theorem dX9_digest_142 : decode cX9_digest 142 = .ok (.iaload, 1) := by decide +kernel
theorem dX9_digest_143 : decode cX9_digest 143 = .ok (.if_icmp .ge 26, 3) := by decide +kernel
theorem dX9_digest_146 : decode cX9_digest 146 = .ok (.ldc2_w 293, 3) := by decide +kernel
theorem dX9_digest_149 : decode cX9_digest 149 = .ok (.lload_n 1, 1) := by decide +kernel
theorem dX9_digest_150 : decode cX9_digest 150 = .ok (.lmul, 1) := by decide +kernel
theorem dX9_digest_151 : decode cX9_digest 151 = .ok (.aload_n 0, 1) := by decide +kernel
theorem dX9_digest_152 : decode cX9_digest 152 = .ok (.getfield 11, 3) := by decide +kernel
theorem dX9_digest_155 : decode cX9_digest 155 = .ok (.iload_n 3, 1) := by decide +kernel
theorem dX9_digest_156 : decode cX9_digest 156 = .ok (.aaload, 1) := by decide +kernel
theorem dX9_digest_157 : decode cX9_digest 157 = .ok (.iload 4, 2) := by decide +kernel
theorem dX9_digest_159 : decode cX9_digest 159 = .ok (.iaload, 1) := by decide +kernel
theorem dX9_digest_160 : decode cX9_digest 160 = .ok (.i2l, 1) := by decide +kernel
theorem dX9_digest_161 : decode cX9_digest 161 = .ok (.ladd, 1) := by decide +kernel
theorem dX9_digest_162 : decode cX9_digest 162 = .ok (.lstore_n 1, 1) := by decide +kernel
theorem dX9_digest_163 : decode cX9_digest 163 = .ok (.iinc 4 1, 3) := by decide +kernel
theorem dX9_digest_166 : decode cX9_digest 166 = .ok (.goto (-31), 3) := by decide +kernel
theorem dX9_digest_169 : decode cX9_digest 169 = .ok (.iinc 3 1, 3) := by decide +kernel
theorem dX9_digest_172 : decode cX9_digest 172 = .ok (.goto (-60), 3) := by decide +kernel
theorem dX9_digest_175 : decode cX9_digest 175 = .ok (.iconst 0, 1) := by decide +kernel
theorem dX9_digest_176 : decode cX9_digest 176 = .ok (.istore_n 3, 1) := by decide +kernel
theorem dX9_digest_177 : decode cX9_digest 177 = .ok (.iload_n 3, 1) := by decide +kernel
theorem dX9_digest_178 : decode cX9_digest 178 = .ok (.iconst 4, 1) := by decide +kernel
theorem dX9_digest_179 : decode cX9_digest 179 = .ok (.if_icmp .ge 60, 3) := by decide +kernel
theorem dX9_digest_182 : decode cX9_digest 182 = .ok (.ldc2_w 293, 3) := by decide +kernel
theorem dX9_digest_185 : decode cX9_digest 185 = .ok (.lload_n 1, 1) := by decide +kernel
theorem dX9_digest_186 : decode cX9_digest 186 = .ok (.lmul, 1) := by decide +kernel
theorem dX9_digest_187 : decode cX9_digest 187 = .ok (.aload_n 0, 1) := by decide +kernel
theorem dX9_digest_188 : decode cX9_digest 188 = .ok (.getfield 23, 3) := by decide +kernel
theorem dX9_digest_191 : decode cX9_digest 191 = .ok (.iload_n 3, 1) := by decide +kernel
theorem dX9_digest_192 : decode cX9_digest 192 = .ok (.iaload, 1) := by decide +kernel
theorem dX9_digest_193 : decode cX9_digest 193 = .ok (.i2l, 1) := by decide +kernel
theorem dX9_digest_194 : decode cX9_digest 194 = .ok (.ladd, 1) := by decide +kernel
theorem dX9_digest_195 : decode cX9_digest 195 = .ok (.lstore_n 1, 1) := by decide +kernel
theorem dX9_digest_196 : decode cX9_digest 196 = .ok (.iconst 0, 1) := by decide +kernel
theorem dX9_digest_197 : decode cX9_digest 197 = .ok (.istore 4, 2) := by decide +kernel
theorem dX9_digest_199 : decode cX9_digest 199 = .ok (.iload 4, 2) := by decide +kernel
theorem dX9_digest_201 : decode cX9_digest 201 = .ok (.aload_n 0, 1) := by decide +kernel
theorem dX9_digest_202 : decode cX9_digest 202 = .ok (.getfield 23, 3) := by decide +kernel
theorem dX9_digest_205 : decode cX9_digest 205 = .ok (.iload_n 3, 1) := by decide +kernel
theorem dX9_digest_206 : decode cX9_digest 206 = .ok (.iaload, 1) := by decide +kernel
theorem dX9_digest_207 : decode cX9_digest 207 = .ok (.if_icmp .ge 26, 3) := by decide +kernel
theorem dX9_digest_210 : decode cX9_digest 210 = .ok (.ldc2_w 293, 3) := by decide +kernel
theorem dX9_digest_213 : decode cX9_digest 213 = .ok (.lload_n 1, 1) := by decide +kernel
theorem dX9_digest_214 : decode cX9_digest 214 = .ok (.lmul, 1) := by decide +kernel
theorem dX9_digest_215 : decode cX9_digest 215 = .ok (.aload_n 0, 1) := by decide +kernel
theorem dX9_digest_216 : decode cX9_digest 216 = .ok (.getfield 20, 3) := by decide +kernel
theorem dX9_digest_219 : decode cX9_digest 219 = .ok (.iload_n 3, 1) := by decide +kernel
theorem dX9_digest_220 : decode cX9_digest 220 = .ok (.aaload, 1) := by decide +kernel
theorem dX9_digest_221 : decode cX9_digest 221 = .ok (.iload 4, 2) := by decide +kernel
theorem dX9_digest_223 : decode cX9_digest 223 = .ok (.baload, 1) := by decide +kernel
theorem dX9_digest_224 : decode cX9_digest 224 = .ok (.i2l, 1) := by decide +kernel
theorem dX9_digest_225 : decode cX9_digest 225 = .ok (.ladd, 1) := by decide +kernel
theorem dX9_digest_226 : decode cX9_digest 226 = .ok (.lstore_n 1, 1) := by decide +kernel
theorem dX9_digest_227 : decode cX9_digest 227 = .ok (.iinc 4 1, 3) := by decide +kernel
theorem dX9_digest_230 : decode cX9_digest 230 = .ok (.goto (-31), 3) := by decide +kernel
theorem dX9_digest_233 : decode cX9_digest 233 = .ok (.iinc 3 1, 3) := by decide +kernel
theorem dX9_digest_236 : decode cX9_digest 236 = .ok (.goto (-59), 3) := by decide +kernel
theorem dX9_digest_239 : decode cX9_digest 239 = .ok (.lload_n 1, 1) := by decide +kernel
theorem dX9_digest_240 : decode cX9_digest 240 = .ok (.lreturn, 1) := by decide +kernel
theorem dX9_answerFinding_0 : decode cX9_answerFinding 0 = .ok (.aload_n 0, 1) := by decide +kernel
theorem dX9_answerFinding_1 : decode cX9_answerFinding 1 = .ok (.iload_n 1, 1) := by decide +kernel
theorem dX9_answerFinding_2 : decode cX9_answerFinding 2 = .ok (.putfield 45, 3) := by decide +kernel
theorem dX9_answerFinding_5 : decode cX9_answerFinding 5 = .ok (.aload_n 0, 1) := by decide +kernel
theorem dX9_answerFinding_6 : decode cX9_answerFinding 6 = .ok (.getfield 42, 3) := by decide +kernel
theorem dX9_answerFinding_9 : decode cX9_answerFinding 9 = .ok (.iload_n 1, 1) := by decide +kernel
theorem dX9_answerFinding_10 : decode cX9_answerFinding 10 = .ok (.dup2, 1) := by decide +kernel
theorem dX9_answerFinding_11 : decode cX9_answerFinding 11 = .ok (.iaload, 1) := by decide +kernel
theorem dX9_answerFinding_12 : decode cX9_answerFinding 12 = .ok (.iconst 1, 1) := by decide +kernel
theorem dX9_answerFinding_13 : decode cX9_answerFinding 13 = .ok (.iadd, 1) := by decide +kernel
theorem dX9_answerFinding_14 : decode cX9_answerFinding 14 = .ok (.iastore, 1) := by decide +kernel
theorem dX9_answerFinding_15 : decode cX9_answerFinding 15 = .ok (.bipush (-3), 2) := by decide +kernel
theorem dX9_answerFinding_17 : decode cX9_answerFinding 17 = .ok (.ireturn, 1) := by decide +kernel
theorem dX9_isRow_0 : decode cX9_isRow 0 = .ok (.iload_n 0, 1) := by decide +kernel
theorem dX9_isRow_1 : decode cX9_isRow 1 = .ok (.ifCond .lt 13, 3) := by decide +kernel
theorem dX9_isRow_4 : decode cX9_isRow 4 = .ok (.iload_n 0, 1) := by decide +kernel
theorem dX9_isRow_5 : decode cX9_isRow 5 = .ok (.bipush 6, 2) := by decide +kernel
theorem dX9_isRow_7 : decode cX9_isRow 7 = .ok (.if_icmp .ge 7, 3) := by decide +kernel
theorem dX9_isRow_10 : decode cX9_isRow 10 = .ok (.iconst 1, 1) := by decide +kernel
theorem dX9_isRow_11 : decode cX9_isRow 11 = .ok (.goto 4, 3) := by decide +kernel
theorem dX9_isRow_14 : decode cX9_isRow 14 = .ok (.iconst 0, 1) := by decide +kernel
theorem dX9_isRow_15 : decode cX9_isRow 15 = .ok (.ireturn, 1) := by decide +kernel
theorem dX9_isText_0 : decode cX9_isText 0 = .ok (.iload_n 0, 1) := by decide +kernel
theorem dX9_isText_1 : decode cX9_isText 1 = .ok (.ifCond .lt 12, 3) := by decide +kernel
theorem dX9_isText_4 : decode cX9_isText 4 = .ok (.iload_n 0, 1) := by decide +kernel
theorem dX9_isText_5 : decode cX9_isText 5 = .ok (.iconst 4, 1) := by decide +kernel
theorem dX9_isText_6 : decode cX9_isText 6 = .ok (.if_icmp .ge 7, 3) := by decide +kernel
theorem dX9_isText_9 : decode cX9_isText 9 = .ok (.iconst 1, 1) := by decide +kernel
theorem dX9_isText_10 : decode cX9_isText 10 = .ok (.goto 4, 3) := by decide +kernel
theorem dX9_isText_13 : decode cX9_isText 13 = .ok (.iconst 0, 1) := by decide +kernel
theorem dX9_isText_14 : decode cX9_isText 14 = .ok (.ireturn, 1) := by decide +kernel
theorem dX9_isKeepingPlace_0 : decode cX9_isKeepingPlace 0 = .ok (.iload_n 0, 1) := by decide +kernel
theorem dX9_isKeepingPlace_1 : decode cX9_isKeepingPlace 1 = .ok (.ifCond .lt 12, 3) := by decide +kernel
theorem dX9_isKeepingPlace_4 : decode cX9_isKeepingPlace 4 = .ok (.iload_n 0, 1) := by decide +kernel
theorem dX9_isKeepingPlace_5 : decode cX9_isKeepingPlace 5 = .ok (.iconst 3, 1) := by decide +kernel
theorem dX9_isKeepingPlace_6 : decode cX9_isKeepingPlace 6 = .ok (.if_icmp .ge 7, 3) := by decide +kernel
theorem dX9_isKeepingPlace_9 : decode cX9_isKeepingPlace 9 = .ok (.iconst 1, 1) := by decide +kernel
theorem dX9_isKeepingPlace_10 : decode cX9_isKeepingPlace 10 = .ok (.goto 4, 3) := by decide +kernel
theorem dX9_isKeepingPlace_13 : decode cX9_isKeepingPlace 13 = .ok (.iconst 0, 1) := by decide +kernel
theorem dX9_isKeepingPlace_14 : decode cX9_isKeepingPlace 14 = .ok (.ireturn, 1) := by decide +kernel
theorem dX9_isPlan_0 : decode cX9_isPlan 0 = .ok (.iload_n 0, 1) := by decide +kernel
theorem dX9_isPlan_1 : decode cX9_isPlan 1 = .ok (.iconst 1, 1) := by decide +kernel
theorem dX9_isPlan_2 : decode cX9_isPlan 2 = .ok (.if_icmp .lt 13, 3) := by decide +kernel
theorem dX9_isPlan_5 : decode cX9_isPlan 5 = .ok (.iload_n 0, 1) := by decide +kernel
theorem dX9_isPlan_6 : decode cX9_isPlan 6 = .ok (.bipush 20, 2) := by decide +kernel
theorem dX9_isPlan_8 : decode cX9_isPlan 8 = .ok (.if_icmp .gt 7, 3) := by decide +kernel
theorem dX9_isPlan_11 : decode cX9_isPlan 11 = .ok (.iconst 1, 1) := by decide +kernel
theorem dX9_isPlan_12 : decode cX9_isPlan 12 = .ok (.goto 4, 3) := by decide +kernel
theorem dX9_isPlan_15 : decode cX9_isPlan 15 = .ok (.iconst 0, 1) := by decide +kernel
theorem dX9_isPlan_16 : decode cX9_isPlan 16 = .ok (.ireturn, 1) := by decide +kernel
theorem dX9_hasPlaces_0 : decode cX9_hasPlaces 0 = .ok (.iload_n 2, 1) := by decide +kernel
theorem dX9_hasPlaces_1 : decode cX9_hasPlaces 1 = .ok (.ifCond .lt 29, 3) := by decide +kernel
theorem dX9_hasPlaces_4 : decode cX9_hasPlaces 4 = .ok (.iload_n 3, 1) := by decide +kernel
theorem dX9_hasPlaces_5 : decode cX9_hasPlaces 5 = .ok (.aload_n 0, 1) := by decide +kernel
theorem dX9_hasPlaces_6 : decode cX9_hasPlaces 6 = .ok (.getfield 14, 3) := by decide +kernel
theorem dX9_hasPlaces_9 : decode cX9_hasPlaces 9 = .ok (.iload_n 1, 1) := by decide +kernel
theorem dX9_hasPlaces_10 : decode cX9_hasPlaces 10 = .ok (.iaload, 1) := by decide +kernel
theorem dX9_hasPlaces_11 : decode cX9_hasPlaces 11 = .ok (.if_icmp .gt 19, 3) := by decide +kernel
theorem dX9_hasPlaces_14 : decode cX9_hasPlaces 14 = .ok (.iload_n 2, 1) := by decide +kernel
theorem dX9_hasPlaces_15 : decode cX9_hasPlaces 15 = .ok (.aload_n 0, 1) := by decide +kernel
theorem dX9_hasPlaces_16 : decode cX9_hasPlaces 16 = .ok (.getfield 14, 3) := by decide +kernel
theorem dX9_hasPlaces_19 : decode cX9_hasPlaces 19 = .ok (.iload_n 1, 1) := by decide +kernel
theorem dX9_hasPlaces_20 : decode cX9_hasPlaces 20 = .ok (.iaload, 1) := by decide +kernel
theorem dX9_hasPlaces_21 : decode cX9_hasPlaces 21 = .ok (.iload_n 3, 1) := by decide +kernel
theorem dX9_hasPlaces_22 : decode cX9_hasPlaces 22 = .ok (.isub, 1) := by decide +kernel
theorem dX9_hasPlaces_23 : decode cX9_hasPlaces 23 = .ok (.if_icmp .gt 7, 3) := by decide +kernel
theorem dX9_hasPlaces_26 : decode cX9_hasPlaces 26 = .ok (.iconst 1, 1) := by decide +kernel
theorem dX9_hasPlaces_27 : decode cX9_hasPlaces 27 = .ok (.goto 4, 3) := by decide +kernel
theorem dX9_hasPlaces_30 : decode cX9_hasPlaces 30 = .ok (.iconst 0, 1) := by decide +kernel
theorem dX9_hasPlaces_31 : decode cX9_hasPlaces 31 = .ok (.ireturn, 1) := by decide +kernel
theorem dX9_refusedRow_0 : decode cX9_refusedRow 0 = .ok (.iload_n 1, 1) := by decide +kernel
theorem dX9_refusedRow_1 : decode cX9_refusedRow 1 = .ok (.invokestatic 83, 3) := by decide +kernel
theorem dX9_refusedRow_4 : decode cX9_refusedRow 4 = .ok (.ifCond .ne 5, 3) := by decide +kernel
theorem dX9_refusedRow_7 : decode cX9_refusedRow 7 = .ok (.iconst (-1), 1) := by decide +kernel
theorem dX9_refusedRow_8 : decode cX9_refusedRow 8 = .ok (.ireturn, 1) := by decide +kernel
theorem dX9_refusedRow_9 : decode cX9_refusedRow 9 = .ok (.aload_n 0, 1) := by decide +kernel
theorem dX9_refusedRow_10 : decode cX9_refusedRow 10 = .ok (.getfield 14, 3) := by decide +kernel
theorem dX9_refusedRow_13 : decode cX9_refusedRow 13 = .ok (.iload_n 1, 1) := by decide +kernel
theorem dX9_refusedRow_14 : decode cX9_refusedRow 14 = .ok (.iaload, 1) := by decide +kernel
theorem dX9_refusedRow_15 : decode cX9_refusedRow 15 = .ok (.iconst (-1), 1) := by decide +kernel
theorem dX9_refusedRow_16 : decode cX9_refusedRow 16 = .ok (.if_icmp .ne 11, 3) := by decide +kernel
theorem dX9_refusedRow_19 : decode cX9_refusedRow 19 = .ok (.aload_n 0, 1) := by decide +kernel
theorem dX9_refusedRow_20 : decode cX9_refusedRow 20 = .ok (.iconst 1, 1) := by decide +kernel
theorem dX9_refusedRow_21 : decode cX9_refusedRow 21 = .ok (.invokevirtual 87, 3) := by decide +kernel
theorem dX9_refusedRow_24 : decode cX9_refusedRow 24 = .ok (.goto 4, 3) := by decide +kernel
theorem dX9_refusedRow_27 : decode cX9_refusedRow 27 = .ok (.iconst 0, 1) := by decide +kernel
theorem dX9_refusedRow_28 : decode cX9_refusedRow 28 = .ok (.ireturn, 1) := by decide +kernel
theorem dX9_refusedPlace_0 : decode cX9_refusedPlace 0 = .ok (.aload_n 0, 1) := by decide +kernel
theorem dX9_refusedPlace_1 : decode cX9_refusedPlace 1 = .ok (.iload_n 1, 1) := by decide +kernel
theorem dX9_refusedPlace_2 : decode cX9_refusedPlace 2 = .ok (.invokevirtual 95, 3) := by decide +kernel
theorem dX9_refusedPlace_5 : decode cX9_refusedPlace 5 = .ok (.istore_n 3, 1) := by decide +kernel
theorem dX9_refusedPlace_6 : decode cX9_refusedPlace 6 = .ok (.iload_n 3, 1) := by decide +kernel
theorem dX9_refusedPlace_7 : decode cX9_refusedPlace 7 = .ok (.ifCond .eq 5, 3) := by decide +kernel
theorem dX9_refusedPlace_10 : decode cX9_refusedPlace 10 = .ok (.iload_n 3, 1) := by decide +kernel
theorem dX9_refusedPlace_11 : decode cX9_refusedPlace 11 = .ok (.ireturn, 1) := by decide +kernel
theorem dX9_refusedPlace_12 : decode cX9_refusedPlace 12 = .ok (.aload_n 0, 1) := by decide +kernel
theorem dX9_refusedPlace_13 : decode cX9_refusedPlace 13 = .ok (.iload_n 1, 1) := by decide +kernel
theorem dX9_refusedPlace_14 : decode cX9_refusedPlace 14 = .ok (.iload_n 2, 1) := by decide +kernel
theorem dX9_refusedPlace_15 : decode cX9_refusedPlace 15 = .ok (.iconst 1, 1) := by decide +kernel
theorem dX9_refusedPlace_16 : decode cX9_refusedPlace 16 = .ok (.invokevirtual 98, 3) := by decide +kernel
theorem dX9_refusedPlace_19 : decode cX9_refusedPlace 19 = .ok (.ifCond .eq 7, 3) := by decide +kernel
theorem dX9_refusedPlace_22 : decode cX9_refusedPlace 22 = .ok (.iconst 0, 1) := by decide +kernel
theorem dX9_refusedPlace_23 : decode cX9_refusedPlace 23 = .ok (.goto 8, 3) := by decide +kernel
theorem dX9_refusedPlace_26 : decode cX9_refusedPlace 26 = .ok (.aload_n 0, 1) := by decide +kernel
theorem dX9_refusedPlace_27 : decode cX9_refusedPlace 27 = .ok (.iconst 2, 1) := by decide +kernel
theorem dX9_refusedPlace_28 : decode cX9_refusedPlace 28 = .ok (.invokevirtual 87, 3) := by decide +kernel
theorem dX9_refusedPlace_31 : decode cX9_refusedPlace 31 = .ok (.ireturn, 1) := by decide +kernel
theorem dX9_refusedText_0 : decode cX9_refusedText 0 = .ok (.iload_n 1, 1) := by decide +kernel
theorem dX9_refusedText_1 : decode cX9_refusedText 1 = .ok (.invokestatic 108, 3) := by decide +kernel
theorem dX9_refusedText_4 : decode cX9_refusedText 4 = .ok (.ifCond .ne 5, 3) := by decide +kernel
theorem dX9_refusedText_7 : decode cX9_refusedText 7 = .ok (.iconst (-1), 1) := by decide +kernel
theorem dX9_refusedText_8 : decode cX9_refusedText 8 = .ok (.ireturn, 1) := by decide +kernel
theorem dX9_refusedText_9 : decode cX9_refusedText 9 = .ok (.aload_n 0, 1) := by decide +kernel
theorem dX9_refusedText_10 : decode cX9_refusedText 10 = .ok (.getfield 23, 3) := by decide +kernel
theorem dX9_refusedText_13 : decode cX9_refusedText 13 = .ok (.iload_n 1, 1) := by decide +kernel
theorem dX9_refusedText_14 : decode cX9_refusedText 14 = .ok (.iaload, 1) := by decide +kernel
theorem dX9_refusedText_15 : decode cX9_refusedText 15 = .ok (.iconst (-1), 1) := by decide +kernel
theorem dX9_refusedText_16 : decode cX9_refusedText 16 = .ok (.if_icmp .ne 11, 3) := by decide +kernel
theorem dX9_refusedText_19 : decode cX9_refusedText 19 = .ok (.aload_n 0, 1) := by decide +kernel
theorem dX9_refusedText_20 : decode cX9_refusedText 20 = .ok (.iconst 1, 1) := by decide +kernel
theorem dX9_refusedText_21 : decode cX9_refusedText 21 = .ok (.invokevirtual 87, 3) := by decide +kernel
theorem dX9_refusedText_24 : decode cX9_refusedText 24 = .ok (.goto 4, 3) := by decide +kernel
theorem dX9_refusedText_27 : decode cX9_refusedText 27 = .ok (.iconst 0, 1) := by decide +kernel
theorem dX9_refusedText_28 : decode cX9_refusedText 28 = .ok (.ireturn, 1) := by decide +kernel
theorem dX9_refusedHad_0 : decode cX9_refusedHad 0 = .ok (.aload_n 0, 1) := by decide +kernel
theorem dX9_refusedHad_1 : decode cX9_refusedHad 1 = .ok (.getfield 71, 3) := by decide +kernel
theorem dX9_refusedHad_4 : decode cX9_refusedHad 4 = .ok (.iload_n 1, 1) := by decide +kernel
theorem dX9_refusedHad_5 : decode cX9_refusedHad 5 = .ok (.invokevirtual 130, 3) := by decide +kernel
theorem dX9_refusedHad_8 : decode cX9_refusedHad 8 = .ok (.ifCond .ne 5, 3) := by decide +kernel
theorem dX9_refusedHad_11 : decode cX9_refusedHad 11 = .ok (.iconst (-1), 1) := by decide +kernel
theorem dX9_refusedHad_12 : decode cX9_refusedHad 12 = .ok (.ireturn, 1) := by decide +kernel
theorem dX9_refusedHad_13 : decode cX9_refusedHad 13 = .ok (.aload_n 0, 1) := by decide +kernel
theorem dX9_refusedHad_14 : decode cX9_refusedHad 14 = .ok (.iload_n 2, 1) := by decide +kernel
theorem dX9_refusedHad_15 : decode cX9_refusedHad 15 = .ok (.invokevirtual 95, 3) := by decide +kernel
theorem dX9_refusedHad_18 : decode cX9_refusedHad 18 = .ok (.istore_n 3, 1) := by decide +kernel
theorem dX9_refusedHad_19 : decode cX9_refusedHad 19 = .ok (.iload_n 3, 1) := by decide +kernel
theorem dX9_refusedHad_20 : decode cX9_refusedHad 20 = .ok (.ifCond .eq 5, 3) := by decide +kernel
theorem dX9_refusedHad_23 : decode cX9_refusedHad 23 = .ok (.iload_n 3, 1) := by decide +kernel
theorem dX9_refusedHad_24 : decode cX9_refusedHad 24 = .ok (.ireturn, 1) := by decide +kernel
theorem dX9_refusedHad_25 : decode cX9_refusedHad 25 = .ok (.aload_n 0, 1) := by decide +kernel
theorem dX9_refusedHad_26 : decode cX9_refusedHad 26 = .ok (.getfield 14, 3) := by decide +kernel
theorem dX9_refusedHad_29 : decode cX9_refusedHad 29 = .ok (.iload_n 2, 1) := by decide +kernel
theorem dX9_refusedHad_30 : decode cX9_refusedHad 30 = .ok (.iaload, 1) := by decide +kernel
theorem dX9_refusedHad_31 : decode cX9_refusedHad 31 = .ok (.iconst 1, 1) := by decide +kernel
theorem dX9_refusedHad_32 : decode cX9_refusedHad 32 = .ok (.if_icmp .lt 14, 3) := by decide +kernel
theorem dX9_refusedHad_35 : decode cX9_refusedHad 35 = .ok (.aload_n 0, 1) := by decide +kernel
theorem dX9_refusedHad_36 : decode cX9_refusedHad 36 = .ok (.getfield 14, 3) := by decide +kernel
theorem dX9_refusedHad_39 : decode cX9_refusedHad 39 = .ok (.iload_n 2, 1) := by decide +kernel
theorem dX9_refusedHad_40 : decode cX9_refusedHad 40 = .ok (.iaload, 1) := by decide +kernel
theorem dX9_refusedHad_41 : decode cX9_refusedHad 41 = .ok (.bipush 10, 2) := by decide +kernel
theorem dX9_refusedHad_43 : decode cX9_refusedHad 43 = .ok (.if_icmp .le 9, 3) := by decide +kernel
theorem dX9_refusedHad_46 : decode cX9_refusedHad 46 = .ok (.aload_n 0, 1) := by decide +kernel
theorem dX9_refusedHad_47 : decode cX9_refusedHad 47 = .ok (.iconst 5, 1) := by decide +kernel
theorem dX9_refusedHad_48 : decode cX9_refusedHad 48 = .ok (.invokevirtual 87, 3) := by decide +kernel
theorem dX9_refusedHad_51 : decode cX9_refusedHad 51 = .ok (.ireturn, 1) := by decide +kernel
theorem dX9_refusedHad_52 : decode cX9_refusedHad 52 = .ok (.iconst 0, 1) := by decide +kernel
theorem dX9_refusedHad_53 : decode cX9_refusedHad 53 = .ok (.istore 4, 2) := by decide +kernel
theorem dX9_refusedHad_55 : decode cX9_refusedHad 55 = .ok (.iload 4, 2) := by decide +kernel
theorem dX9_refusedHad_57 : decode cX9_refusedHad 57 = .ok (.aload_n 0, 1) := by decide +kernel
theorem dX9_refusedHad_58 : decode cX9_refusedHad 58 = .ok (.getfield 14, 3) := by decide +kernel
theorem dX9_refusedHad_61 : decode cX9_refusedHad 61 = .ok (.iload_n 2, 1) := by decide +kernel
theorem dX9_refusedHad_62 : decode cX9_refusedHad 62 = .ok (.iaload, 1) := by decide +kernel
theorem dX9_refusedHad_63 : decode cX9_refusedHad 63 = .ok (.if_icmp .ge 41, 3) := by decide +kernel
theorem dX9_refusedHad_66 : decode cX9_refusedHad 66 = .ok (.aload_n 0, 1) := by decide +kernel
theorem dX9_refusedHad_67 : decode cX9_refusedHad 67 = .ok (.getfield 11, 3) := by decide +kernel
theorem dX9_refusedHad_70 : decode cX9_refusedHad 70 = .ok (.iload_n 2, 1) := by decide +kernel
theorem dX9_refusedHad_71 : decode cX9_refusedHad 71 = .ok (.aaload, 1) := by decide +kernel
theorem dX9_refusedHad_72 : decode cX9_refusedHad 72 = .ok (.iload 4, 2) := by decide +kernel
theorem dX9_refusedHad_74 : decode cX9_refusedHad 74 = .ok (.iaload, 1) := by decide +kernel
theorem dX9_refusedHad_75 : decode cX9_refusedHad 75 = .ok (.ifCond .lt 17, 3) := by decide +kernel
theorem dX9_refusedHad_78 : decode cX9_refusedHad 78 = .ok (.aload_n 0, 1) := by decide +kernel
theorem dX9_refusedHad_79 : decode cX9_refusedHad 79 = .ok (.getfield 11, 3) := by decide +kernel
theorem dX9_refusedHad_82 : decode cX9_refusedHad 82 = .ok (.iload_n 2, 1) := by decide +kernel
theorem dX9_refusedHad_83 : decode cX9_refusedHad 83 = .ok (.aaload, 1) := by decide +kernel
theorem dX9_refusedHad_84 : decode cX9_refusedHad 84 = .ok (.iload 4, 2) := by decide +kernel
theorem dX9_refusedHad_86 : decode cX9_refusedHad 86 = .ok (.iaload, 1) := by decide +kernel
theorem dX9_refusedHad_87 : decode cX9_refusedHad 87 = .ok (.bipush 30, 2) := by decide +kernel
theorem dX9_refusedHad_89 : decode cX9_refusedHad 89 = .ok (.if_icmp .le 9, 3) := by decide +kernel
theorem dX9_refusedHad_92 : decode cX9_refusedHad 92 = .ok (.aload_n 0, 1) := by decide +kernel
theorem dX9_refusedHad_93 : decode cX9_refusedHad 93 = .ok (.iconst 3, 1) := by decide +kernel
theorem dX9_refusedHad_94 : decode cX9_refusedHad 94 = .ok (.invokevirtual 87, 3) := by decide +kernel
theorem dX9_refusedHad_97 : decode cX9_refusedHad 97 = .ok (.ireturn, 1) := by decide +kernel
theorem dX9_refusedHad_98 : decode cX9_refusedHad 98 = .ok (.iinc 4 1, 3) := by decide +kernel
theorem dX9_refusedHad_101 : decode cX9_refusedHad 101 = .ok (.goto (-46), 3) := by decide +kernel
theorem dX9_refusedHad_104 : decode cX9_refusedHad 104 = .ok (.iconst 0, 1) := by decide +kernel
theorem dX9_refusedHad_105 : decode cX9_refusedHad 105 = .ok (.ireturn, 1) := by decide +kernel
theorem dX9_readFront_0 : decode cX9_readFront 0 = .ok (.aload_n 0, 1) := by decide +kernel
theorem dX9_readFront_1 : decode cX9_readFront 1 = .ok (.getfield 20, 3) := by decide +kernel
theorem dX9_readFront_4 : decode cX9_readFront 4 = .ok (.iload_n 1, 1) := by decide +kernel
theorem dX9_readFront_5 : decode cX9_readFront 5 = .ok (.aaload, 1) := by decide +kernel
theorem dX9_readFront_6 : decode cX9_readFront 6 = .ok (.astore_n 2, 1) := by decide +kernel
theorem dX9_readFront_7 : decode cX9_readFront 7 = .ok (.aload_n 0, 1) := by decide +kernel
theorem dX9_readFront_8 : decode cX9_readFront 8 = .ok (.getfield 23, 3) := by decide +kernel
theorem dX9_readFront_11 : decode cX9_readFront 11 = .ok (.iload_n 1, 1) := by decide +kernel
theorem dX9_readFront_12 : decode cX9_readFront 12 = .ok (.iaload, 1) := by decide +kernel
theorem dX9_readFront_13 : decode cX9_readFront 13 = .ok (.istore_n 3, 1) := by decide +kernel
theorem dX9_readFront_14 : decode cX9_readFront 14 = .ok (.aload_n 2, 1) := by decide +kernel
theorem dX9_readFront_15 : decode cX9_readFront 15 = .ok (.iload_n 3, 1) := by decide +kernel
theorem dX9_readFront_16 : decode cX9_readFront 16 = .ok (.iconst 0, 1) := by decide +kernel
theorem dX9_readFront_17 : decode cX9_readFront 17 = .ok (.invokestatic 298, 3) := by decide +kernel
theorem dX9_readFront_20 : decode cX9_readFront 20 = .ok (.istore 4, 2) := by decide +kernel
theorem dX9_readFront_22 : decode cX9_readFront 22 = .ok (.iload 4, 2) := by decide +kernel
theorem dX9_readFront_24 : decode cX9_readFront 24 = .ok (.iload_n 3, 1) := by decide +kernel
theorem dX9_readFront_25 : decode cX9_readFront 25 = .ok (.if_icmp .ge 12, 3) := by decide +kernel
theorem dX9_readFront_28 : decode cX9_readFront 28 = .ok (.aload_n 2, 1) := by decide +kernel
theorem dX9_readFront_29 : decode cX9_readFront 29 = .ok (.iload 4, 2) := by decide +kernel
theorem dX9_readFront_31 : decode cX9_readFront 31 = .ok (.baload, 1) := by decide +kernel
theorem dX9_readFront_32 : decode cX9_readFront 32 = .ok (.bipush 100, 2) := by decide +kernel
theorem dX9_readFront_34 : decode cX9_readFront 34 = .ok (.if_icmp .eq 6, 3) := by decide +kernel
theorem dX9_readFront_37 : decode cX9_readFront 37 = .ok (.iload 4, 2) := by decide +kernel
theorem dX9_readFront_39 : decode cX9_readFront 39 = .ok (.ireturn, 1) := by decide +kernel
theorem dX9_readFront_40 : decode cX9_readFront 40 = .ok (.aload_n 2, 1) := by decide +kernel
theorem dX9_readFront_41 : decode cX9_readFront 41 = .ok (.iload_n 3, 1) := by decide +kernel
theorem dX9_readFront_42 : decode cX9_readFront 42 = .ok (.iload 4, 2) := by decide +kernel
theorem dX9_readFront_44 : decode cX9_readFront 44 = .ok (.iconst 1, 1) := by decide +kernel
theorem dX9_readFront_45 : decode cX9_readFront 45 = .ok (.iadd, 1) := by decide +kernel
theorem dX9_readFront_46 : decode cX9_readFront 46 = .ok (.iconst 2, 1) := by decide +kernel
theorem dX9_readFront_47 : decode cX9_readFront 47 = .ok (.invokestatic 302, 3) := by decide +kernel
theorem dX9_readFront_50 : decode cX9_readFront 50 = .ok (.istore 5, 2) := by decide +kernel
theorem dX9_readFront_52 : decode cX9_readFront 52 = .ok (.iload 5, 2) := by decide +kernel
theorem dX9_readFront_54 : decode cX9_readFront 54 = .ok (.iload 4, 2) := by decide +kernel
theorem dX9_readFront_56 : decode cX9_readFront 56 = .ok (.iconst 3, 1) := by decide +kernel
theorem dX9_readFront_57 : decode cX9_readFront 57 = .ok (.iadd, 1) := by decide +kernel
theorem dX9_readFront_58 : decode cX9_readFront 58 = .ok (.if_icmp .ge 6, 3) := by decide +kernel
theorem dX9_readFront_61 : decode cX9_readFront 61 = .ok (.iload 5, 2) := by decide +kernel
theorem dX9_readFront_63 : decode cX9_readFront 63 = .ok (.ireturn, 1) := by decide +kernel
theorem dX9_readFront_64 : decode cX9_readFront 64 = .ok (.aload_n 0, 1) := by decide +kernel
theorem dX9_readFront_65 : decode cX9_readFront 65 = .ok (.getfield 74, 3) := by decide +kernel
theorem dX9_readFront_68 : decode cX9_readFront 68 = .ok (.aload_n 2, 1) := by decide +kernel
theorem dX9_readFront_69 : decode cX9_readFront 69 = .ok (.iload 4, 2) := by decide +kernel
theorem dX9_readFront_71 : decode cX9_readFront 71 = .ok (.iconst 1, 1) := by decide +kernel
theorem dX9_readFront_72 : decode cX9_readFront 72 = .ok (.iadd, 1) := by decide +kernel
theorem dX9_readFront_73 : decode cX9_readFront 73 = .ok (.baload, 1) := by decide +kernel
theorem dX9_readFront_74 : decode cX9_readFront 74 = .ok (.invokestatic 306, 3) := by decide +kernel
theorem dX9_readFront_77 : decode cX9_readFront 77 = .ok (.aload_n 2, 1) := by decide +kernel
theorem dX9_readFront_78 : decode cX9_readFront 78 = .ok (.iload 4, 2) := by decide +kernel
theorem dX9_readFront_80 : decode cX9_readFront 80 = .ok (.iconst 2, 1) := by decide +kernel
theorem dX9_readFront_81 : decode cX9_readFront 81 = .ok (.iadd, 1) := by decide +kernel
theorem dX9_readFront_82 : decode cX9_readFront 82 = .ok (.baload, 1) := by decide +kernel
theorem dX9_readFront_83 : decode cX9_readFront 83 = .ok (.invokestatic 306, 3) := by decide +kernel
theorem dX9_readFront_86 : decode cX9_readFront 86 = .ok (.invokevirtual 310, 3) := by decide +kernel
theorem dX9_readFront_89 : decode cX9_readFront 89 = .ok (.aload_n 2, 1) := by decide +kernel
theorem dX9_readFront_90 : decode cX9_readFront 90 = .ok (.iload_n 3, 1) := by decide +kernel
theorem dX9_readFront_91 : decode cX9_readFront 91 = .ok (.iload 4, 2) := by decide +kernel
theorem dX9_readFront_93 : decode cX9_readFront 93 = .ok (.iconst 3, 1) := by decide +kernel
theorem dX9_readFront_94 : decode cX9_readFront 94 = .ok (.iadd, 1) := by decide +kernel
theorem dX9_readFront_95 : decode cX9_readFront 95 = .ok (.invokestatic 298, 3) := by decide +kernel
theorem dX9_readFront_98 : decode cX9_readFront 98 = .ok (.istore 4, 2) := by decide +kernel
theorem dX9_readFront_100 : decode cX9_readFront 100 = .ok (.iconst 0, 1) := by decide +kernel
theorem dX9_readFront_101 : decode cX9_readFront 101 = .ok (.istore 6, 2) := by decide +kernel
theorem dX9_readFront_103 : decode cX9_readFront 103 = .ok (.iload 6, 2) := by decide +kernel
theorem dX9_readFront_105 : decode cX9_readFront 105 = .ok (.bipush 6, 2) := by decide +kernel
theorem dX9_readFront_107 : decode cX9_readFront 107 = .ok (.if_icmp .gt 46, 3) := by decide +kernel
theorem dX9_readFront_110 : decode cX9_readFront 110 = .ok (.iload 4, 2) := by decide +kernel
theorem dX9_readFront_112 : decode cX9_readFront 112 = .ok (.iload_n 3, 1) := by decide +kernel
theorem dX9_readFront_113 : decode cX9_readFront 113 = .ok (.if_icmp .ge 40, 3) := by decide +kernel
theorem dX9_readFront_116 : decode cX9_readFront 116 = .ok (.aload_n 0, 1) := by decide +kernel
theorem dX9_readFront_117 : decode cX9_readFront 117 = .ok (.aload_n 2, 1) := by decide +kernel
theorem dX9_readFront_118 : decode cX9_readFront 118 = .ok (.iload_n 3, 1) := by decide +kernel
theorem dX9_readFront_119 : decode cX9_readFront 119 = .ok (.iload 4, 2) := by decide +kernel
theorem dX9_readFront_121 : decode cX9_readFront 121 = .ok (.invokevirtual 313, 3) := by decide +kernel
theorem dX9_readFront_124 : decode cX9_readFront 124 = .ok (.istore 7, 2) := by decide +kernel
theorem dX9_readFront_126 : decode cX9_readFront 126 = .ok (.iload 7, 2) := by decide +kernel
theorem dX9_readFront_128 : decode cX9_readFront 128 = .ok (.bipush (-9), 2) := by decide +kernel
theorem dX9_readFront_130 : decode cX9_readFront 130 = .ok (.if_icmp .eq 6, 3) := by decide +kernel
theorem dX9_readFront_133 : decode cX9_readFront 133 = .ok (.iload 7, 2) := by decide +kernel
theorem dX9_readFront_135 : decode cX9_readFront 135 = .ok (.ireturn, 1) := by decide +kernel
theorem dX9_readFront_136 : decode cX9_readFront 136 = .ok (.aload_n 2, 1) := by decide +kernel
theorem dX9_readFront_137 : decode cX9_readFront 137 = .ok (.iload_n 3, 1) := by decide +kernel
theorem dX9_readFront_138 : decode cX9_readFront 138 = .ok (.iload 4, 2) := by decide +kernel
theorem dX9_readFront_140 : decode cX9_readFront 140 = .ok (.iconst 4, 1) := by decide +kernel
theorem dX9_readFront_141 : decode cX9_readFront 141 = .ok (.iadd, 1) := by decide +kernel
theorem dX9_readFront_142 : decode cX9_readFront 142 = .ok (.invokestatic 298, 3) := by decide +kernel
theorem dX9_readFront_145 : decode cX9_readFront 145 = .ok (.istore 4, 2) := by decide +kernel
theorem dX9_readFront_147 : decode cX9_readFront 147 = .ok (.iinc 6 1, 3) := by decide +kernel
theorem dX9_readFront_150 : decode cX9_readFront 150 = .ok (.goto (-47), 3) := by decide +kernel
theorem dX9_readFront_153 : decode cX9_readFront 153 = .ok (.aload_n 0, 1) := by decide +kernel
theorem dX9_readFront_154 : decode cX9_readFront 154 = .ok (.getfield 74, 3) := by decide +kernel
theorem dX9_readFront_157 : decode cX9_readFront 157 = .ok (.getfield 127, 3) := by decide +kernel
theorem dX9_readFront_160 : decode cX9_readFront 160 = .ok (.ifCond .ne 7, 3) := by decide +kernel
theorem dX9_readFront_163 : decode cX9_readFront 163 = .ok (.iload_n 3, 1) := by decide +kernel
theorem dX9_readFront_164 : decode cX9_readFront 164 = .ok (.goto 5, 3) := by decide +kernel
theorem dX9_readFront_167 : decode cX9_readFront 167 = .ok (.bipush (-9), 2) := by decide +kernel
theorem dX9_readFront_169 : decode cX9_readFront 169 = .ok (.ireturn, 1) := by decide +kernel
theorem dX9_readOne_0 : decode cX9_readOne 0 = .ok (.aload_n 1, 1) := by decide +kernel
theorem dX9_readOne_1 : decode cX9_readOne 1 = .ok (.iload_n 3, 1) := by decide +kernel
theorem dX9_readOne_2 : decode cX9_readOne 2 = .ok (.baload, 1) := by decide +kernel
theorem dX9_readOne_3 : decode cX9_readOne 3 = .ok (.invokestatic 316, 3) := by decide +kernel
theorem dX9_readOne_6 : decode cX9_readOne 6 = .ok (.istore 4, 2) := by decide +kernel
theorem dX9_readOne_8 : decode cX9_readOne 8 = .ok (.iload 4, 2) := by decide +kernel
theorem dX9_readOne_10 : decode cX9_readOne 10 = .ok (.bipush (-9), 2) := by decide +kernel
theorem dX9_readOne_12 : decode cX9_readOne 12 = .ok (.if_icmp .eq 15, 3) := by decide +kernel
theorem dX9_readOne_15 : decode cX9_readOne 15 = .ok (.aload_n 0, 1) := by decide +kernel
theorem dX9_readOne_16 : decode cX9_readOne 16 = .ok (.getfield 74, 3) := by decide +kernel
theorem dX9_readOne_19 : decode cX9_readOne 19 = .ok (.getfield 127, 3) := by decide +kernel
theorem dX9_readOne_22 : decode cX9_readOne 22 = .ok (.bipush 6, 2) := by decide +kernel
theorem dX9_readOne_24 : decode cX9_readOne 24 = .ok (.if_icmp .ne 5, 3) := by decide +kernel
theorem dX9_readOne_27 : decode cX9_readOne 27 = .ok (.iload_n 3, 1) := by decide +kernel
theorem dX9_readOne_28 : decode cX9_readOne 28 = .ok (.ireturn, 1) := by decide +kernel
theorem dX9_readOne_29 : decode cX9_readOne 29 = .ok (.aload_n 1, 1) := by decide +kernel
theorem dX9_readOne_30 : decode cX9_readOne 30 = .ok (.iload_n 2, 1) := by decide +kernel
theorem dX9_readOne_31 : decode cX9_readOne 31 = .ok (.iload_n 3, 1) := by decide +kernel
theorem dX9_readOne_32 : decode cX9_readOne 32 = .ok (.iconst 1, 1) := by decide +kernel
theorem dX9_readOne_33 : decode cX9_readOne 33 = .ok (.iadd, 1) := by decide +kernel
theorem dX9_readOne_34 : decode cX9_readOne 34 = .ok (.iconst 3, 1) := by decide +kernel
theorem dX9_readOne_35 : decode cX9_readOne 35 = .ok (.invokestatic 302, 3) := by decide +kernel
theorem dX9_readOne_38 : decode cX9_readOne 38 = .ok (.istore 5, 2) := by decide +kernel
theorem dX9_readOne_40 : decode cX9_readOne 40 = .ok (.iload 5, 2) := by decide +kernel
theorem dX9_readOne_42 : decode cX9_readOne 42 = .ok (.iload_n 3, 1) := by decide +kernel
theorem dX9_readOne_43 : decode cX9_readOne 43 = .ok (.iconst 4, 1) := by decide +kernel
theorem dX9_readOne_44 : decode cX9_readOne 44 = .ok (.iadd, 1) := by decide +kernel
theorem dX9_readOne_45 : decode cX9_readOne 45 = .ok (.if_icmp .ge 6, 3) := by decide +kernel
theorem dX9_readOne_48 : decode cX9_readOne 48 = .ok (.iload 5, 2) := by decide +kernel
theorem dX9_readOne_50 : decode cX9_readOne 50 = .ok (.ireturn, 1) := by decide +kernel
theorem dX9_readOne_51 : decode cX9_readOne 51 = .ok (.bipush 10, 2) := by decide +kernel
theorem dX9_readOne_53 : decode cX9_readOne 53 = .ok (.aload_n 1, 1) := by decide +kernel
theorem dX9_readOne_54 : decode cX9_readOne 54 = .ok (.iload_n 3, 1) := by decide +kernel
theorem dX9_readOne_55 : decode cX9_readOne 55 = .ok (.iconst 2, 1) := by decide +kernel
theorem dX9_readOne_56 : decode cX9_readOne 56 = .ok (.iadd, 1) := by decide +kernel
theorem dX9_readOne_57 : decode cX9_readOne 57 = .ok (.baload, 1) := by decide +kernel
theorem dX9_readOne_58 : decode cX9_readOne 58 = .ok (.invokestatic 306, 3) := by decide +kernel
theorem dX9_readOne_61 : decode cX9_readOne 61 = .ok (.imul, 1) := by decide +kernel
theorem dX9_readOne_62 : decode cX9_readOne 62 = .ok (.aload_n 1, 1) := by decide +kernel
theorem dX9_readOne_63 : decode cX9_readOne 63 = .ok (.iload_n 3, 1) := by decide +kernel
theorem dX9_readOne_64 : decode cX9_readOne 64 = .ok (.iconst 3, 1) := by decide +kernel
theorem dX9_readOne_65 : decode cX9_readOne 65 = .ok (.iadd, 1) := by decide +kernel
theorem dX9_readOne_66 : decode cX9_readOne 66 = .ok (.baload, 1) := by decide +kernel
theorem dX9_readOne_67 : decode cX9_readOne 67 = .ok (.invokestatic 306, 3) := by decide +kernel
theorem dX9_readOne_70 : decode cX9_readOne 70 = .ok (.iadd, 1) := by decide +kernel
theorem dX9_readOne_71 : decode cX9_readOne 71 = .ok (.istore 6, 2) := by decide +kernel
theorem dX9_readOne_73 : decode cX9_readOne 73 = .ok (.iload 6, 2) := by decide +kernel
theorem dX9_readOne_75 : decode cX9_readOne 75 = .ok (.bipush 30, 2) := by decide +kernel
theorem dX9_readOne_77 : decode cX9_readOne 77 = .ok (.if_icmp .le 7, 3) := by decide +kernel
theorem dX9_readOne_80 : decode cX9_readOne 80 = .ok (.iload_n 3, 1) := by decide +kernel
theorem dX9_readOne_81 : decode cX9_readOne 81 = .ok (.iconst 2, 1) := by decide +kernel
theorem dX9_readOne_82 : decode cX9_readOne 82 = .ok (.iadd, 1) := by decide +kernel
theorem dX9_readOne_83 : decode cX9_readOne 83 = .ok (.ireturn, 1) := by decide +kernel
theorem dX9_readOne_84 : decode cX9_readOne 84 = .ok (.aload_n 0, 1) := by decide +kernel
theorem dX9_readOne_85 : decode cX9_readOne 85 = .ok (.getfield 74, 3) := by decide +kernel
theorem dX9_readOne_88 : decode cX9_readOne 88 = .ok (.iload 4, 2) := by decide +kernel
theorem dX9_readOne_90 : decode cX9_readOne 90 = .ok (.aload_n 1, 1) := by decide +kernel
theorem dX9_readOne_91 : decode cX9_readOne 91 = .ok (.iload_n 3, 1) := by decide +kernel
theorem dX9_readOne_92 : decode cX9_readOne 92 = .ok (.iconst 1, 1) := by decide +kernel
theorem dX9_readOne_93 : decode cX9_readOne 93 = .ok (.iadd, 1) := by decide +kernel
theorem dX9_readOne_94 : decode cX9_readOne 94 = .ok (.baload, 1) := by decide +kernel
theorem dX9_readOne_95 : decode cX9_readOne 95 = .ok (.invokestatic 306, 3) := by decide +kernel
theorem dX9_readOne_98 : decode cX9_readOne 98 = .ok (.iload 6, 2) := by decide +kernel
theorem dX9_readOne_100 : decode cX9_readOne 100 = .ok (.invokevirtual 319, 3) := by decide +kernel
theorem dX9_readOne_103 : decode cX9_readOne 103 = .ok (.bipush (-9), 2) := by decide +kernel
theorem dX9_readOne_105 : decode cX9_readOne 105 = .ok (.ireturn, 1) := by decide +kernel
theorem dX9_pastBlanks_0 : decode cX9_pastBlanks 0 = .ok (.iload_n 2, 1) := by decide +kernel
theorem dX9_pastBlanks_1 : decode cX9_pastBlanks 1 = .ok (.istore_n 3, 1) := by decide +kernel
theorem dX9_pastBlanks_2 : decode cX9_pastBlanks 2 = .ok (.iload_n 3, 1) := by decide +kernel
theorem dX9_pastBlanks_3 : decode cX9_pastBlanks 3 = .ok (.iload_n 1, 1) := by decide +kernel
theorem dX9_pastBlanks_4 : decode cX9_pastBlanks 4 = .ok (.if_icmp .ge 17, 3) := by decide +kernel
theorem dX9_pastBlanks_7 : decode cX9_pastBlanks 7 = .ok (.aload_n 0, 1) := by decide +kernel
theorem dX9_pastBlanks_8 : decode cX9_pastBlanks 8 = .ok (.iload_n 3, 1) := by decide +kernel
theorem dX9_pastBlanks_9 : decode cX9_pastBlanks 9 = .ok (.baload, 1) := by decide +kernel
theorem dX9_pastBlanks_10 : decode cX9_pastBlanks 10 = .ok (.bipush 32, 2) := by decide +kernel
theorem dX9_pastBlanks_12 : decode cX9_pastBlanks 12 = .ok (.if_icmp .ne 9, 3) := by decide +kernel
theorem dX9_pastBlanks_15 : decode cX9_pastBlanks 15 = .ok (.iinc 3 1, 3) := by decide +kernel
theorem dX9_pastBlanks_18 : decode cX9_pastBlanks 18 = .ok (.goto (-16), 3) := by decide +kernel
theorem dX9_pastBlanks_21 : decode cX9_pastBlanks 21 = .ok (.iload_n 3, 1) := by decide +kernel
theorem dX9_pastBlanks_22 : decode cX9_pastBlanks 22 = .ok (.ireturn, 1) := by decide +kernel
theorem dX9_pastFigures_0 : decode cX9_pastFigures 0 = .ok (.iload_n 2, 1) := by decide +kernel
theorem dX9_pastFigures_1 : decode cX9_pastFigures 1 = .ok (.istore 4, 2) := by decide +kernel
theorem dX9_pastFigures_3 : decode cX9_pastFigures 3 = .ok (.iload 4, 2) := by decide +kernel
theorem dX9_pastFigures_5 : decode cX9_pastFigures 5 = .ok (.iload_n 2, 1) := by decide +kernel
theorem dX9_pastFigures_6 : decode cX9_pastFigures 6 = .ok (.iload_n 3, 1) := by decide +kernel
theorem dX9_pastFigures_7 : decode cX9_pastFigures 7 = .ok (.iadd, 1) := by decide +kernel
theorem dX9_pastFigures_8 : decode cX9_pastFigures 8 = .ok (.if_icmp .ge 33, 3) := by decide +kernel
theorem dX9_pastFigures_11 : decode cX9_pastFigures 11 = .ok (.iload 4, 2) := by decide +kernel
theorem dX9_pastFigures_13 : decode cX9_pastFigures 13 = .ok (.iload_n 1, 1) := by decide +kernel
theorem dX9_pastFigures_14 : decode cX9_pastFigures 14 = .ok (.if_icmp .ge 27, 3) := by decide +kernel
theorem dX9_pastFigures_17 : decode cX9_pastFigures 17 = .ok (.aload_n 0, 1) := by decide +kernel
theorem dX9_pastFigures_18 : decode cX9_pastFigures 18 = .ok (.iload 4, 2) := by decide +kernel
theorem dX9_pastFigures_20 : decode cX9_pastFigures 20 = .ok (.baload, 1) := by decide +kernel
theorem dX9_pastFigures_21 : decode cX9_pastFigures 21 = .ok (.bipush 48, 2) := by decide +kernel
theorem dX9_pastFigures_23 : decode cX9_pastFigures 23 = .ok (.if_icmp .lt 18, 3) := by decide +kernel
theorem dX9_pastFigures_26 : decode cX9_pastFigures 26 = .ok (.aload_n 0, 1) := by decide +kernel
theorem dX9_pastFigures_27 : decode cX9_pastFigures 27 = .ok (.iload 4, 2) := by decide +kernel
theorem dX9_pastFigures_29 : decode cX9_pastFigures 29 = .ok (.baload, 1) := by decide +kernel
theorem dX9_pastFigures_30 : decode cX9_pastFigures 30 = .ok (.bipush 57, 2) := by decide +kernel
theorem dX9_pastFigures_32 : decode cX9_pastFigures 32 = .ok (.if_icmp .gt 9, 3) := by decide +kernel
theorem dX9_pastFigures_35 : decode cX9_pastFigures 35 = .ok (.iinc 4 1, 3) := by decide +kernel
theorem dX9_pastFigures_38 : decode cX9_pastFigures 38 = .ok (.goto (-35), 3) := by decide +kernel
theorem dX9_pastFigures_41 : decode cX9_pastFigures 41 = .ok (.iload 4, 2) := by decide +kernel
theorem dX9_pastFigures_43 : decode cX9_pastFigures 43 = .ok (.ireturn, 1) := by decide +kernel
theorem dX9_figure_0 : decode cX9_figure 0 = .ok (.iload_n 0, 1) := by decide +kernel
theorem dX9_figure_1 : decode cX9_figure 1 = .ok (.bipush 48, 2) := by decide +kernel
theorem dX9_figure_3 : decode cX9_figure 3 = .ok (.isub, 1) := by decide +kernel
theorem dX9_figure_4 : decode cX9_figure 4 = .ok (.ireturn, 1) := by decide +kernel
theorem dX9_kindOfLetter_0 : decode cX9_kindOfLetter 0 = .ok (.iconst 0, 1) := by decide +kernel
theorem dX9_kindOfLetter_1 : decode cX9_kindOfLetter 1 = .ok (.istore_n 1, 1) := by decide +kernel
theorem dX9_kindOfLetter_2 : decode cX9_kindOfLetter 2 = .ok (.iload_n 1, 1) := by decide +kernel
theorem dX9_kindOfLetter_3 : decode cX9_kindOfLetter 3 = .ok (.bipush 6, 2) := by decide +kernel
theorem dX9_kindOfLetter_5 : decode cX9_kindOfLetter 5 = .ok (.if_icmp .ge 20, 3) := by decide +kernel
theorem dX9_kindOfLetter_8 : decode cX9_kindOfLetter 8 = .ok (.getstatic 323, 3) := by decide +kernel
theorem dX9_kindOfLetter_11 : decode cX9_kindOfLetter 11 = .ok (.iload_n 1, 1) := by decide +kernel
theorem dX9_kindOfLetter_12 : decode cX9_kindOfLetter 12 = .ok (.iaload, 1) := by decide +kernel
theorem dX9_kindOfLetter_13 : decode cX9_kindOfLetter 13 = .ok (.iload_n 0, 1) := by decide +kernel
theorem dX9_kindOfLetter_14 : decode cX9_kindOfLetter 14 = .ok (.if_icmp .ne 5, 3) := by decide +kernel
theorem dX9_kindOfLetter_17 : decode cX9_kindOfLetter 17 = .ok (.iload_n 1, 1) := by decide +kernel
theorem dX9_kindOfLetter_18 : decode cX9_kindOfLetter 18 = .ok (.ireturn, 1) := by decide +kernel
theorem dX9_kindOfLetter_19 : decode cX9_kindOfLetter 19 = .ok (.iinc 1 1, 3) := by decide +kernel
theorem dX9_kindOfLetter_22 : decode cX9_kindOfLetter 22 = .ok (.goto (-20), 3) := by decide +kernel
theorem dX9_kindOfLetter_25 : decode cX9_kindOfLetter 25 = .ok (.bipush (-9), 2) := by decide +kernel
theorem dX9_kindOfLetter_27 : decode cX9_kindOfLetter 27 = .ok (.ireturn, 1) := by decide +kernel
theorem dX9_doDeed_0 : decode cX9_doDeed 0 = .ok (.iload_n 1, 1) := by decide +kernel
theorem dX9_doDeed_1 : decode cX9_doDeed 1 = .ok (.bipush 100, 2) := by decide +kernel
theorem dX9_doDeed_3 : decode cX9_doDeed 3 = .ok (.imul, 1) := by decide +kernel
theorem dX9_doDeed_4 : decode cX9_doDeed 4 = .ok (.iload_n 2, 1) := by decide +kernel
theorem dX9_doDeed_5 : decode cX9_doDeed 5 = .ok (.iadd, 1) := by decide +kernel
theorem dX9_doDeed_6 : decode cX9_doDeed 6 = .ok (.istore_n 3, 1) := by decide +kernel
theorem dX9_doDeed_7 : decode cX9_doDeed 7 = .ok (.aload_n 0, 1) := by decide +kernel
theorem dX9_doDeed_8 : decode cX9_doDeed 8 = .ok (.getfield 31, 3) := by decide +kernel
theorem dX9_doDeed_11 : decode cX9_doDeed 11 = .ok (.iload_n 3, 1) := by decide +kernel
theorem dX9_doDeed_12 : decode cX9_doDeed 12 = .ok (.invokevirtual 326, 3) := by decide +kernel
theorem dX9_doDeed_15 : decode cX9_doDeed 15 = .ok (.aload_n 0, 1) := by decide +kernel
theorem dX9_doDeed_16 : decode cX9_doDeed 16 = .ok (.getfield 71, 3) := by decide +kernel
theorem dX9_doDeed_19 : decode cX9_doDeed 19 = .ok (.iload_n 3, 1) := by decide +kernel
theorem dX9_doDeed_20 : decode cX9_doDeed 20 = .ok (.invokevirtual 329, 3) := by decide +kernel
theorem dX9_doDeed_23 : decode cX9_doDeed 23 = .ok (.ireturn, 1) := by decide +kernel
theorem dX9_doAllAgain_0 : decode cX9_doAllAgain 0 = .ok (.aload_n 0, 1) := by decide +kernel
theorem dX9_doAllAgain_1 : decode cX9_doAllAgain 1 = .ok (.getfield 71, 3) := by decide +kernel
theorem dX9_doAllAgain_4 : decode cX9_doAllAgain 4 = .ok (.aload_n 0, 1) := by decide +kernel
theorem dX9_doAllAgain_5 : decode cX9_doAllAgain 5 = .ok (.getfield 67, 3) := by decide +kernel
theorem dX9_doAllAgain_8 : decode cX9_doAllAgain 8 = .ok (.invokevirtual 120, 3) := by decide +kernel
theorem dX9_doAllAgain_11 : decode cX9_doAllAgain 11 = .ok (.iconst 0, 1) := by decide +kernel
theorem dX9_doAllAgain_12 : decode cX9_doAllAgain 12 = .ok (.istore_n 1, 1) := by decide +kernel
theorem dX9_doAllAgain_13 : decode cX9_doAllAgain 13 = .ok (.iload_n 1, 1) := by decide +kernel
theorem dX9_doAllAgain_14 : decode cX9_doAllAgain 14 = .ok (.aload_n 0, 1) := by decide +kernel
theorem dX9_doAllAgain_15 : decode cX9_doAllAgain 15 = .ok (.getfield 31, 3) := by decide +kernel
theorem dX9_doAllAgain_18 : decode cX9_doAllAgain 18 = .ok (.getfield 124, 3) := by decide +kernel
theorem dX9_doAllAgain_21 : decode cX9_doAllAgain 21 = .ok (.if_icmp .ge 26, 3) := by decide +kernel
theorem dX9_doAllAgain_24 : decode cX9_doAllAgain 24 = .ok (.aload_n 0, 1) := by decide +kernel
theorem dX9_doAllAgain_25 : decode cX9_doAllAgain 25 = .ok (.getfield 71, 3) := by decide +kernel
theorem dX9_doAllAgain_28 : decode cX9_doAllAgain 28 = .ok (.aload_n 0, 1) := by decide +kernel
theorem dX9_doAllAgain_29 : decode cX9_doAllAgain 29 = .ok (.getfield 31, 3) := by decide +kernel
theorem dX9_doAllAgain_32 : decode cX9_doAllAgain 32 = .ok (.getfield 332, 3) := by decide +kernel
theorem dX9_doAllAgain_35 : decode cX9_doAllAgain 35 = .ok (.iload_n 1, 1) := by decide +kernel
theorem dX9_doAllAgain_36 : decode cX9_doAllAgain 36 = .ok (.iaload, 1) := by decide +kernel
theorem dX9_doAllAgain_37 : decode cX9_doAllAgain 37 = .ok (.invokevirtual 329, 3) := by decide +kernel
theorem dX9_doAllAgain_40 : decode cX9_doAllAgain 40 = .ok (.pop, 1) := by decide +kernel
theorem dX9_doAllAgain_41 : decode cX9_doAllAgain 41 = .ok (.iinc 1 1, 3) := by decide +kernel
theorem dX9_doAllAgain_44 : decode cX9_doAllAgain 44 = .ok (.goto (-31), 3) := by decide +kernel
theorem dX9_doAllAgain_47 : decode cX9_doAllAgain 47 = .ok (.return_, 1) := by decide +kernel
theorem dX9_doLot_0 : decode cX9_doLot 0 = .ok (.iload_n 1, 1) := by decide +kernel
theorem dX9_doLot_1 : decode cX9_doLot 1 = .ok (.bipush 64, 2) := by decide +kernel
theorem dX9_doLot_3 : decode cX9_doLot 3 = .ok (.idiv, 1) := by decide +kernel
theorem dX9_doLot_4 : decode cX9_doLot 4 = .ok (.istore_n 2, 1) := by decide +kernel
theorem dX9_doLot_5 : decode cX9_doLot 5 = .ok (.iload_n 1, 1) := by decide +kernel
theorem dX9_doLot_6 : decode cX9_doLot 6 = .ok (.bipush 8, 2) := by decide +kernel
theorem dX9_doLot_8 : decode cX9_doLot 8 = .ok (.idiv, 1) := by decide +kernel
theorem dX9_doLot_9 : decode cX9_doLot 9 = .ok (.bipush 8, 2) := by decide +kernel
theorem dX9_doLot_11 : decode cX9_doLot 11 = .ok (.irem, 1) := by decide +kernel
theorem dX9_doLot_12 : decode cX9_doLot 12 = .ok (.tableswitch 99 4 7 #[32, 47, 59, 77], 32) := by decide +kernel
theorem dX9_doLot_44 : decode cX9_doLot 44 = .ok (.aload_n 0, 1) := by decide +kernel
theorem dX9_doLot_45 : decode cX9_doLot 45 = .ok (.iconst 1, 1) := by decide +kernel
theorem dX9_doLot_46 : decode cX9_doLot 46 = .ok (.iconst 1, 1) := by decide +kernel
theorem dX9_doLot_47 : decode cX9_doLot 47 = .ok (.iload_n 2, 1) := by decide +kernel
theorem dX9_doLot_48 : decode cX9_doLot 48 = .ok (.bipush 9, 2) := by decide +kernel
theorem dX9_doLot_50 : decode cX9_doLot 50 = .ok (.irem, 1) := by decide +kernel
theorem dX9_doLot_51 : decode cX9_doLot 51 = .ok (.iadd, 1) := by decide +kernel
theorem dX9_doLot_52 : decode cX9_doLot 52 = .ok (.invokevirtual 173, 3) := by decide +kernel
theorem dX9_doLot_55 : decode cX9_doLot 55 = .ok (.pop, 1) := by decide +kernel
theorem dX9_doLot_56 : decode cX9_doLot 56 = .ok (.goto 62, 3) := by decide +kernel
theorem dX9_doLot_59 : decode cX9_doLot 59 = .ok (.aload_n 0, 1) := by decide +kernel
theorem dX9_doLot_60 : decode cX9_doLot 60 = .ok (.iconst 2, 1) := by decide +kernel
theorem dX9_doLot_61 : decode cX9_doLot 61 = .ok (.iload_n 2, 1) := by decide +kernel
theorem dX9_doLot_62 : decode cX9_doLot 62 = .ok (.iconst 3, 1) := by decide +kernel
theorem dX9_doLot_63 : decode cX9_doLot 63 = .ok (.irem, 1) := by decide +kernel
theorem dX9_doLot_64 : decode cX9_doLot 64 = .ok (.invokevirtual 173, 3) := by decide +kernel
theorem dX9_doLot_67 : decode cX9_doLot 67 = .ok (.pop, 1) := by decide +kernel
theorem dX9_doLot_68 : decode cX9_doLot 68 = .ok (.goto 50, 3) := by decide +kernel
theorem dX9_doLot_71 : decode cX9_doLot 71 = .ok (.aload_n 0, 1) := by decide +kernel
theorem dX9_doLot_72 : decode cX9_doLot 72 = .ok (.iconst 3, 1) := by decide +kernel
theorem dX9_doLot_73 : decode cX9_doLot 73 = .ok (.iconst 1, 1) := by decide +kernel
theorem dX9_doLot_74 : decode cX9_doLot 74 = .ok (.aload_n 0, 1) := by decide +kernel
theorem dX9_doLot_75 : decode cX9_doLot 75 = .ok (.getfield 71, 3) := by decide +kernel
theorem dX9_doLot_78 : decode cX9_doLot 78 = .ok (.getfield 179, 3) := by decide +kernel
theorem dX9_doLot_81 : decode cX9_doLot 81 = .ok (.isub, 1) := by decide +kernel
theorem dX9_doLot_82 : decode cX9_doLot 82 = .ok (.invokevirtual 173, 3) := by decide +kernel
theorem dX9_doLot_85 : decode cX9_doLot 85 = .ok (.pop, 1) := by decide +kernel
theorem dX9_doLot_86 : decode cX9_doLot 86 = .ok (.goto 32, 3) := by decide +kernel
theorem dX9_doLot_89 : decode cX9_doLot 89 = .ok (.aload_n 0, 1) := by decide +kernel
theorem dX9_doLot_90 : decode cX9_doLot 90 = .ok (.iconst 4, 1) := by decide +kernel
theorem dX9_doLot_91 : decode cX9_doLot 91 = .ok (.aload_n 0, 1) := by decide +kernel
theorem dX9_doLot_92 : decode cX9_doLot 92 = .ok (.iload_n 1, 1) := by decide +kernel
theorem dX9_doLot_93 : decode cX9_doLot 93 = .ok (.invokevirtual 335, 3) := by decide +kernel
theorem dX9_doLot_96 : decode cX9_doLot 96 = .ok (.bipush 10, 2) := by decide +kernel
theorem dX9_doLot_98 : decode cX9_doLot 98 = .ok (.imul, 1) := by decide +kernel
theorem dX9_doLot_99 : decode cX9_doLot 99 = .ok (.iload_n 2, 1) := by decide +kernel
theorem dX9_doLot_100 : decode cX9_doLot 100 = .ok (.bipush 10, 2) := by decide +kernel
theorem dX9_doLot_102 : decode cX9_doLot 102 = .ok (.irem, 1) := by decide +kernel
theorem dX9_doLot_103 : decode cX9_doLot 103 = .ok (.iadd, 1) := by decide +kernel
theorem dX9_doLot_104 : decode cX9_doLot 104 = .ok (.invokevirtual 173, 3) := by decide +kernel
theorem dX9_doLot_107 : decode cX9_doLot 107 = .ok (.pop, 1) := by decide +kernel
theorem dX9_doLot_108 : decode cX9_doLot 108 = .ok (.goto 10, 3) := by decide +kernel
theorem dX9_doLot_111 : decode cX9_doLot 111 = .ok (.aload_n 0, 1) := by decide +kernel
theorem dX9_doLot_112 : decode cX9_doLot 112 = .ok (.iconst 0, 1) := by decide +kernel
theorem dX9_doLot_113 : decode cX9_doLot 113 = .ok (.iconst 0, 1) := by decide +kernel
theorem dX9_doLot_114 : decode cX9_doLot 114 = .ok (.invokevirtual 173, 3) := by decide +kernel
theorem dX9_doLot_117 : decode cX9_doLot 117 = .ok (.pop, 1) := by decide +kernel
theorem dX9_doLot_118 : decode cX9_doLot 118 = .ok (.return_, 1) := by decide +kernel
theorem dX9_oneOfLot_0 : decode cX9_oneOfLot 0 = .ok (.aload_n 0, 1) := by decide +kernel
theorem dX9_oneOfLot_1 : decode cX9_oneOfLot 1 = .ok (.getfield 71, 3) := by decide +kernel
theorem dX9_oneOfLot_4 : decode cX9_oneOfLot 4 = .ok (.getfield 127, 3) := by decide +kernel
theorem dX9_oneOfLot_7 : decode cX9_oneOfLot 7 = .ok (.ifCond .ne 7, 3) := by decide +kernel
theorem dX9_oneOfLot_10 : decode cX9_oneOfLot 10 = .ok (.iconst 0, 1) := by decide +kernel
theorem dX9_oneOfLot_11 : decode cX9_oneOfLot 11 = .ok (.goto 12, 3) := by decide +kernel
theorem dX9_oneOfLot_14 : decode cX9_oneOfLot 14 = .ok (.iload_n 1, 1) := by decide +kernel
theorem dX9_oneOfLot_15 : decode cX9_oneOfLot 15 = .ok (.aload_n 0, 1) := by decide +kernel
theorem dX9_oneOfLot_16 : decode cX9_oneOfLot 16 = .ok (.getfield 71, 3) := by decide +kernel
theorem dX9_oneOfLot_19 : decode cX9_oneOfLot 19 = .ok (.getfield 127, 3) := by decide +kernel
theorem dX9_oneOfLot_22 : decode cX9_oneOfLot 22 = .ok (.irem, 1) := by decide +kernel
theorem dX9_oneOfLot_23 : decode cX9_oneOfLot 23 = .ok (.ireturn, 1) := by decide +kernel
theorem dX9_shareWithout_0 : decode cX9_shareWithout 0 = .ok (.aload_n 0, 1) := by decide +kernel
theorem dX9_shareWithout_1 : decode cX9_shareWithout 1 = .ok (.getfield 74, 3) := by decide +kernel
theorem dX9_shareWithout_4 : decode cX9_shareWithout 4 = .ok (.aload_n 0, 1) := by decide +kernel
theorem dX9_shareWithout_5 : decode cX9_shareWithout 5 = .ok (.getfield 71, 3) := by decide +kernel
theorem dX9_shareWithout_8 : decode cX9_shareWithout 8 = .ok (.invokevirtual 120, 3) := by decide +kernel
theorem dX9_shareWithout_11 : decode cX9_shareWithout 11 = .ok (.iconst 0, 1) := by decide +kernel
theorem dX9_shareWithout_12 : decode cX9_shareWithout 12 = .ok (.istore 4, 2) := by decide +kernel
theorem dX9_shareWithout_14 : decode cX9_shareWithout 14 = .ok (.iload 4, 2) := by decide +kernel
theorem dX9_shareWithout_16 : decode cX9_shareWithout 16 = .ok (.iload_n 3, 1) := by decide +kernel
theorem dX9_shareWithout_17 : decode cX9_shareWithout 17 = .ok (.if_icmp .ge 18, 3) := by decide +kernel
theorem dX9_shareWithout_20 : decode cX9_shareWithout 20 = .ok (.aload_n 0, 1) := by decide +kernel
theorem dX9_shareWithout_21 : decode cX9_shareWithout 21 = .ok (.getfield 74, 3) := by decide +kernel
theorem dX9_shareWithout_24 : decode cX9_shareWithout 24 = .ok (.iload_n 1, 1) := by decide +kernel
theorem dX9_shareWithout_25 : decode cX9_shareWithout 25 = .ok (.invokevirtual 203, 3) := by decide +kernel
theorem dX9_shareWithout_28 : decode cX9_shareWithout 28 = .ok (.pop, 1) := by decide +kernel
theorem dX9_shareWithout_29 : decode cX9_shareWithout 29 = .ok (.iinc 4 1, 3) := by decide +kernel
theorem dX9_shareWithout_32 : decode cX9_shareWithout 32 = .ok (.goto (-18), 3) := by decide +kernel
theorem dX9_shareWithout_35 : decode cX9_shareWithout 35 = .ok (.aload_n 0, 1) := by decide +kernel
theorem dX9_shareWithout_36 : decode cX9_shareWithout 36 = .ok (.getfield 74, 3) := by decide +kernel
theorem dX9_shareWithout_39 : decode cX9_shareWithout 39 = .ok (.getfield 146, 3) := by decide +kernel
theorem dX9_shareWithout_42 : decode cX9_shareWithout 42 = .ok (.iload_n 2, 1) := by decide +kernel
theorem dX9_shareWithout_43 : decode cX9_shareWithout 43 = .ok (.iaload, 1) := by decide +kernel
theorem dX9_shareWithout_44 : decode cX9_shareWithout 44 = .ok (.ireturn, 1) := by decide +kernel
theorem dX9_gatherersBy_0 : decode cX9_gatherersBy 0 = .ok (.aload_n 0, 1) := by decide +kernel
theorem dX9_gatherersBy_1 : decode cX9_gatherersBy 1 = .ok (.getfield 74, 3) := by decide +kernel
theorem dX9_gatherersBy_4 : decode cX9_gatherersBy 4 = .ok (.aload_n 0, 1) := by decide +kernel
theorem dX9_gatherersBy_5 : decode cX9_gatherersBy 5 = .ok (.getfield 71, 3) := by decide +kernel
theorem dX9_gatherersBy_8 : decode cX9_gatherersBy 8 = .ok (.invokevirtual 120, 3) := by decide +kernel
theorem dX9_gatherersBy_11 : decode cX9_gatherersBy 11 = .ok (.aload_n 0, 1) := by decide +kernel
theorem dX9_gatherersBy_12 : decode cX9_gatherersBy 12 = .ok (.getfield 74, 3) := by decide +kernel
theorem dX9_gatherersBy_15 : decode cX9_gatherersBy 15 = .ok (.iload_n 1, 1) := by decide +kernel
theorem dX9_gatherersBy_16 : decode cX9_gatherersBy 16 = .ok (.invokevirtual 338, 3) := by decide +kernel
theorem dX9_gatherersBy_19 : decode cX9_gatherersBy 19 = .ok (.iconst 0, 1) := by decide +kernel
theorem dX9_gatherersBy_20 : decode cX9_gatherersBy 20 = .ok (.istore_n 3, 1) := by decide +kernel
theorem dX9_gatherersBy_21 : decode cX9_gatherersBy 21 = .ok (.iconst 0, 1) := by decide +kernel
theorem dX9_gatherersBy_22 : decode cX9_gatherersBy 22 = .ok (.istore 4, 2) := by decide +kernel
theorem dX9_gatherersBy_24 : decode cX9_gatherersBy 24 = .ok (.iload 4, 2) := by decide +kernel
theorem dX9_gatherersBy_26 : decode cX9_gatherersBy 26 = .ok (.iload_n 2, 1) := by decide +kernel
theorem dX9_gatherersBy_27 : decode cX9_gatherersBy 27 = .ok (.if_icmp .ge 20, 3) := by decide +kernel
theorem dX9_gatherersBy_30 : decode cX9_gatherersBy 30 = .ok (.iload_n 3, 1) := by decide +kernel
theorem dX9_gatherersBy_31 : decode cX9_gatherersBy 31 = .ok (.aload_n 0, 1) := by decide +kernel
theorem dX9_gatherersBy_32 : decode cX9_gatherersBy 32 = .ok (.getfield 74, 3) := by decide +kernel
theorem dX9_gatherersBy_35 : decode cX9_gatherersBy 35 = .ok (.iconst 0, 1) := by decide +kernel
theorem dX9_gatherersBy_36 : decode cX9_gatherersBy 36 = .ok (.invokevirtual 203, 3) := by decide +kernel
theorem dX9_gatherersBy_39 : decode cX9_gatherersBy 39 = .ok (.ior, 1) := by decide +kernel
theorem dX9_gatherersBy_40 : decode cX9_gatherersBy 40 = .ok (.istore_n 3, 1) := by decide +kernel
theorem dX9_gatherersBy_41 : decode cX9_gatherersBy 41 = .ok (.iinc 4 1, 3) := by decide +kernel
theorem dX9_gatherersBy_44 : decode cX9_gatherersBy 44 = .ok (.goto (-20), 3) := by decide +kernel
theorem dX9_gatherersBy_47 : decode cX9_gatherersBy 47 = .ok (.iload_n 3, 1) := by decide +kernel
theorem dX9_gatherersBy_48 : decode cX9_gatherersBy 48 = .ok (.ireturn, 1) := by decide +kernel
theorem dX9_asideFits_0 : decode cX9_asideFits 0 = .ok (.iconst 0, 1) := by decide +kernel
theorem dX9_asideFits_1 : decode cX9_asideFits 1 = .ok (.istore_n 3, 1) := by decide +kernel
theorem dX9_asideFits_2 : decode cX9_asideFits 2 = .ok (.iload_n 3, 1) := by decide +kernel
theorem dX9_asideFits_3 : decode cX9_asideFits 3 = .ok (.aload_n 0, 1) := by decide +kernel
theorem dX9_asideFits_4 : decode cX9_asideFits 4 = .ok (.getfield 14, 3) := by decide +kernel
theorem dX9_asideFits_7 : decode cX9_asideFits 7 = .ok (.iload_n 2, 1) := by decide +kernel
theorem dX9_asideFits_8 : decode cX9_asideFits 8 = .ok (.iaload, 1) := by decide +kernel
theorem dX9_asideFits_9 : decode cX9_asideFits 9 = .ok (.if_icmp .ge 40, 3) := by decide +kernel
theorem dX9_asideFits_12 : decode cX9_asideFits 12 = .ok (.aload_n 0, 1) := by decide +kernel
theorem dX9_asideFits_13 : decode cX9_asideFits 13 = .ok (.getfield 74, 3) := by decide +kernel
theorem dX9_asideFits_16 : decode cX9_asideFits 16 = .ok (.iconst 0, 1) := by decide +kernel
theorem dX9_asideFits_17 : decode cX9_asideFits 17 = .ok (.invokevirtual 203, 3) := by decide +kernel
theorem dX9_asideFits_20 : decode cX9_asideFits 20 = .ok (.pop, 1) := by decide +kernel
theorem dX9_asideFits_21 : decode cX9_asideFits 21 = .ok (.aload_n 0, 1) := by decide +kernel
theorem dX9_asideFits_22 : decode cX9_asideFits 22 = .ok (.getfield 74, 3) := by decide +kernel
theorem dX9_asideFits_25 : decode cX9_asideFits 25 = .ok (.getfield 146, 3) := by decide +kernel
theorem dX9_asideFits_28 : decode cX9_asideFits 28 = .ok (.iload_n 1, 1) := by decide +kernel
theorem dX9_asideFits_29 : decode cX9_asideFits 29 = .ok (.iaload, 1) := by decide +kernel
theorem dX9_asideFits_30 : decode cX9_asideFits 30 = .ok (.aload_n 0, 1) := by decide +kernel
theorem dX9_asideFits_31 : decode cX9_asideFits 31 = .ok (.getfield 11, 3) := by decide +kernel
theorem dX9_asideFits_34 : decode cX9_asideFits 34 = .ok (.iload_n 2, 1) := by decide +kernel
theorem dX9_asideFits_35 : decode cX9_asideFits 35 = .ok (.aaload, 1) := by decide +kernel
theorem dX9_asideFits_36 : decode cX9_asideFits 36 = .ok (.iload_n 3, 1) := by decide +kernel
theorem dX9_asideFits_37 : decode cX9_asideFits 37 = .ok (.iaload, 1) := by decide +kernel
theorem dX9_asideFits_38 : decode cX9_asideFits 38 = .ok (.if_icmp .eq 5, 3) := by decide +kernel
theorem dX9_asideFits_41 : decode cX9_asideFits 41 = .ok (.iconst 0, 1) := by decide +kernel
theorem dX9_asideFits_42 : decode cX9_asideFits 42 = .ok (.ireturn, 1) := by decide +kernel
theorem dX9_asideFits_43 : decode cX9_asideFits 43 = .ok (.iinc 3 1, 3) := by decide +kernel
theorem dX9_asideFits_46 : decode cX9_asideFits 46 = .ok (.goto (-44), 3) := by decide +kernel
theorem dX9_asideFits_49 : decode cX9_asideFits 49 = .ok (.iconst 1, 1) := by decide +kernel
theorem dX9_asideFits_50 : decode cX9_asideFits 50 = .ok (.ireturn, 1) := by decide +kernel
theorem dX9_fittingSizes_0 : decode cX9_fittingSizes 0 = .ok (.iconst 0, 1) := by decide +kernel
theorem dX9_fittingSizes_1 : decode cX9_fittingSizes 1 = .ok (.istore_n 3, 1) := by decide +kernel
theorem dX9_fittingSizes_2 : decode cX9_fittingSizes 2 = .ok (.iconst 0, 1) := by decide +kernel
theorem dX9_fittingSizes_3 : decode cX9_fittingSizes 3 = .ok (.istore 4, 2) := by decide +kernel
theorem dX9_fittingSizes_5 : decode cX9_fittingSizes 5 = .ok (.iload 4, 2) := by decide +kernel
theorem dX9_fittingSizes_7 : decode cX9_fittingSizes 7 = .ok (.bipush 30, 2) := by decide +kernel
theorem dX9_fittingSizes_9 : decode cX9_fittingSizes 9 = .ok (.if_icmp .gt 45, 3) := by decide +kernel
theorem dX9_fittingSizes_12 : decode cX9_fittingSizes 12 = .ok (.aload_n 0, 1) := by decide +kernel
theorem dX9_fittingSizes_13 : decode cX9_fittingSizes 13 = .ok (.getfield 74, 3) := by decide +kernel
theorem dX9_fittingSizes_16 : decode cX9_fittingSizes 16 = .ok (.aload_n 0, 1) := by decide +kernel
theorem dX9_fittingSizes_17 : decode cX9_fittingSizes 17 = .ok (.getfield 71, 3) := by decide +kernel
theorem dX9_fittingSizes_20 : decode cX9_fittingSizes 20 = .ok (.invokevirtual 120, 3) := by decide +kernel
theorem dX9_fittingSizes_23 : decode cX9_fittingSizes 23 = .ok (.aload_n 0, 1) := by decide +kernel
theorem dX9_fittingSizes_24 : decode cX9_fittingSizes 24 = .ok (.getfield 74, 3) := by decide +kernel
theorem dX9_fittingSizes_27 : decode cX9_fittingSizes 27 = .ok (.iload 4, 2) := by decide +kernel
theorem dX9_fittingSizes_29 : decode cX9_fittingSizes 29 = .ok (.invokevirtual 341, 3) := by decide +kernel
theorem dX9_fittingSizes_32 : decode cX9_fittingSizes 32 = .ok (.aload_n 0, 1) := by decide +kernel
theorem dX9_fittingSizes_33 : decode cX9_fittingSizes 33 = .ok (.iload_n 1, 1) := by decide +kernel
theorem dX9_fittingSizes_34 : decode cX9_fittingSizes 34 = .ok (.iload_n 2, 1) := by decide +kernel
theorem dX9_fittingSizes_35 : decode cX9_fittingSizes 35 = .ok (.invokevirtual 227, 3) := by decide +kernel
theorem dX9_fittingSizes_38 : decode cX9_fittingSizes 38 = .ok (.ifCond .eq 10, 3) := by decide +kernel
theorem dX9_fittingSizes_41 : decode cX9_fittingSizes 41 = .ok (.iload_n 3, 1) := by decide +kernel
theorem dX9_fittingSizes_42 : decode cX9_fittingSizes 42 = .ok (.iconst 1, 1) := by decide +kernel
theorem dX9_fittingSizes_43 : decode cX9_fittingSizes 43 = .ok (.iload 4, 2) := by decide +kernel
theorem dX9_fittingSizes_45 : decode cX9_fittingSizes 45 = .ok (.ishl, 1) := by decide +kernel
theorem dX9_fittingSizes_46 : decode cX9_fittingSizes 46 = .ok (.ior, 1) := by decide +kernel
theorem dX9_fittingSizes_47 : decode cX9_fittingSizes 47 = .ok (.istore_n 3, 1) := by decide +kernel
theorem dX9_fittingSizes_48 : decode cX9_fittingSizes 48 = .ok (.iinc 4 1, 3) := by decide +kernel
theorem dX9_fittingSizes_51 : decode cX9_fittingSizes 51 = .ok (.goto (-46), 3) := by decide +kernel
theorem dX9_fittingSizes_54 : decode cX9_fittingSizes 54 = .ok (.iload_n 3, 1) := by decide +kernel
theorem dX9_fittingSizes_55 : decode cX9_fittingSizes 55 = .ok (.ireturn, 1) := by decide +kernel
theorem dX9_tallyShares_0 : decode cX9_tallyShares 0 = .ok (.iconst 0, 1) := by decide +kernel
theorem dX9_tallyShares_1 : decode cX9_tallyShares 1 = .ok (.istore_n 3, 1) := by decide +kernel
theorem dX9_tallyShares_2 : decode cX9_tallyShares 2 = .ok (.iload_n 3, 1) := by decide +kernel
theorem dX9_tallyShares_3 : decode cX9_tallyShares 3 = .ok (.bipush 6, 2) := by decide +kernel
theorem dX9_tallyShares_5 : decode cX9_tallyShares 5 = .ok (.if_icmp .ge 19, 3) := by decide +kernel
theorem dX9_tallyShares_8 : decode cX9_tallyShares 8 = .ok (.aload_n 0, 1) := by decide +kernel
theorem dX9_tallyShares_9 : decode cX9_tallyShares 9 = .ok (.getfield 39, 3) := by decide +kernel
theorem dX9_tallyShares_12 : decode cX9_tallyShares 12 = .ok (.iload_n 3, 1) := by decide +kernel
theorem dX9_tallyShares_13 : decode cX9_tallyShares 13 = .ok (.aaload, 1) := by decide +kernel
theorem dX9_tallyShares_14 : decode cX9_tallyShares 14 = .ok (.iconst 0, 1) := by decide +kernel
theorem dX9_tallyShares_15 : decode cX9_tallyShares 15 = .ok (.invokestatic 77, 3) := by decide +kernel
theorem dX9_tallyShares_18 : decode cX9_tallyShares 18 = .ok (.iinc 3 1, 3) := by decide +kernel
theorem dX9_tallyShares_21 : decode cX9_tallyShares 21 = .ok (.goto (-19), 3) := by decide +kernel
theorem dX9_tallyShares_24 : decode cX9_tallyShares 24 = .ok (.iconst 0, 1) := by decide +kernel
theorem dX9_tallyShares_25 : decode cX9_tallyShares 25 = .ok (.istore_n 3, 1) := by decide +kernel
theorem dX9_tallyShares_26 : decode cX9_tallyShares 26 = .ok (.iload_n 3, 1) := by decide +kernel
theorem dX9_tallyShares_27 : decode cX9_tallyShares 27 = .ok (.bipush 30, 2) := by decide +kernel
theorem dX9_tallyShares_29 : decode cX9_tallyShares 29 = .ok (.if_icmp .gt 88, 3) := by decide +kernel
theorem dX9_tallyShares_32 : decode cX9_tallyShares 32 = .ok (.iload_n 1, 1) := by decide +kernel
theorem dX9_tallyShares_33 : decode cX9_tallyShares 33 = .ok (.iload_n 3, 1) := by decide +kernel
theorem dX9_tallyShares_34 : decode cX9_tallyShares 34 = .ok (.ishr, 1) := by decide +kernel
theorem dX9_tallyShares_35 : decode cX9_tallyShares 35 = .ok (.iconst 1, 1) := by decide +kernel
theorem dX9_tallyShares_36 : decode cX9_tallyShares 36 = .ok (.iand, 1) := by decide +kernel
theorem dX9_tallyShares_37 : decode cX9_tallyShares 37 = .ok (.iconst 1, 1) := by decide +kernel
theorem dX9_tallyShares_38 : decode cX9_tallyShares 38 = .ok (.if_icmp .ne 73, 3) := by decide +kernel
theorem dX9_tallyShares_41 : decode cX9_tallyShares 41 = .ok (.aload_n 0, 1) := by decide +kernel
theorem dX9_tallyShares_42 : decode cX9_tallyShares 42 = .ok (.getfield 74, 3) := by decide +kernel
theorem dX9_tallyShares_45 : decode cX9_tallyShares 45 = .ok (.aload_n 0, 1) := by decide +kernel
theorem dX9_tallyShares_46 : decode cX9_tallyShares 46 = .ok (.getfield 71, 3) := by decide +kernel
theorem dX9_tallyShares_49 : decode cX9_tallyShares 49 = .ok (.invokevirtual 120, 3) := by decide +kernel
theorem dX9_tallyShares_52 : decode cX9_tallyShares 52 = .ok (.aload_n 0, 1) := by decide +kernel
theorem dX9_tallyShares_53 : decode cX9_tallyShares 53 = .ok (.getfield 74, 3) := by decide +kernel
theorem dX9_tallyShares_56 : decode cX9_tallyShares 56 = .ok (.iload_n 3, 1) := by decide +kernel
theorem dX9_tallyShares_57 : decode cX9_tallyShares 57 = .ok (.invokevirtual 341, 3) := by decide +kernel
theorem dX9_tallyShares_60 : decode cX9_tallyShares 60 = .ok (.aload_n 0, 1) := by decide +kernel
theorem dX9_tallyShares_61 : decode cX9_tallyShares 61 = .ok (.getfield 74, 3) := by decide +kernel
theorem dX9_tallyShares_64 : decode cX9_tallyShares 64 = .ok (.iload_n 2, 1) := by decide +kernel
theorem dX9_tallyShares_65 : decode cX9_tallyShares 65 = .ok (.invokevirtual 197, 3) := by decide +kernel
theorem dX9_tallyShares_68 : decode cX9_tallyShares 68 = .ok (.iconst 0, 1) := by decide +kernel
theorem dX9_tallyShares_69 : decode cX9_tallyShares 69 = .ok (.istore 4, 2) := by decide +kernel
theorem dX9_tallyShares_71 : decode cX9_tallyShares 71 = .ok (.iload 4, 2) := by decide +kernel
theorem dX9_tallyShares_73 : decode cX9_tallyShares 73 = .ok (.aload_n 0, 1) := by decide +kernel
theorem dX9_tallyShares_74 : decode cX9_tallyShares 74 = .ok (.getfield 71, 3) := by decide +kernel
theorem dX9_tallyShares_77 : decode cX9_tallyShares 77 = .ok (.getfield 127, 3) := by decide +kernel
theorem dX9_tallyShares_80 : decode cX9_tallyShares 80 = .ok (.if_icmp .ge 31, 3) := by decide +kernel
theorem dX9_tallyShares_83 : decode cX9_tallyShares 83 = .ok (.aload_n 0, 1) := by decide +kernel
theorem dX9_tallyShares_84 : decode cX9_tallyShares 84 = .ok (.getfield 39, 3) := by decide +kernel
theorem dX9_tallyShares_87 : decode cX9_tallyShares 87 = .ok (.iload 4, 2) := by decide +kernel
theorem dX9_tallyShares_89 : decode cX9_tallyShares 89 = .ok (.aaload, 1) := by decide +kernel
theorem dX9_tallyShares_90 : decode cX9_tallyShares 90 = .ok (.aload_n 0, 1) := by decide +kernel
theorem dX9_tallyShares_91 : decode cX9_tallyShares 91 = .ok (.getfield 74, 3) := by decide +kernel
theorem dX9_tallyShares_94 : decode cX9_tallyShares 94 = .ok (.getfield 146, 3) := by decide +kernel
theorem dX9_tallyShares_97 : decode cX9_tallyShares 97 = .ok (.iload 4, 2) := by decide +kernel
theorem dX9_tallyShares_99 : decode cX9_tallyShares 99 = .ok (.iaload, 1) := by decide +kernel
theorem dX9_tallyShares_100 : decode cX9_tallyShares 100 = .ok (.dup2, 1) := by decide +kernel
theorem dX9_tallyShares_101 : decode cX9_tallyShares 101 = .ok (.iaload, 1) := by decide +kernel
theorem dX9_tallyShares_102 : decode cX9_tallyShares 102 = .ok (.iconst 1, 1) := by decide +kernel
theorem dX9_tallyShares_103 : decode cX9_tallyShares 103 = .ok (.iadd, 1) := by decide +kernel
theorem dX9_tallyShares_104 : decode cX9_tallyShares 104 = .ok (.iastore, 1) := by decide +kernel
theorem dX9_tallyShares_105 : decode cX9_tallyShares 105 = .ok (.iinc 4 1, 3) := by decide +kernel
theorem dX9_tallyShares_108 : decode cX9_tallyShares 108 = .ok (.goto (-37), 3) := by decide +kernel
theorem dX9_tallyShares_111 : decode cX9_tallyShares 111 = .ok (.iinc 3 1, 3) := by decide +kernel
theorem dX9_tallyShares_114 : decode cX9_tallyShares 114 = .ok (.goto (-88), 3) := by decide +kernel
theorem dX9_tallyShares_117 : decode cX9_tallyShares 117 = .ok (.return_, 1) := by decide +kernel
theorem dX9_greatestOf_0 : decode cX9_greatestOf 0 = .ok (.iconst 0, 1) := by decide +kernel
theorem dX9_greatestOf_1 : decode cX9_greatestOf 1 = .ok (.istore_n 1, 1) := by decide +kernel
theorem dX9_greatestOf_2 : decode cX9_greatestOf 2 = .ok (.aload_n 0, 1) := by decide +kernel
theorem dX9_greatestOf_3 : decode cX9_greatestOf 3 = .ok (.astore_n 2, 1) := by decide +kernel
theorem dX9_greatestOf_4 : decode cX9_greatestOf 4 = .ok (.aload_n 2, 1) := by decide +kernel
theorem dX9_greatestOf_5 : decode cX9_greatestOf 5 = .ok (.arraylength, 1) := by decide +kernel
theorem dX9_greatestOf_6 : decode cX9_greatestOf 6 = .ok (.istore_n 3, 1) := by decide +kernel
theorem dX9_greatestOf_7 : decode cX9_greatestOf 7 = .ok (.iconst 0, 1) := by decide +kernel
theorem dX9_greatestOf_8 : decode cX9_greatestOf 8 = .ok (.istore 4, 2) := by decide +kernel
theorem dX9_greatestOf_10 : decode cX9_greatestOf 10 = .ok (.iload 4, 2) := by decide +kernel
theorem dX9_greatestOf_12 : decode cX9_greatestOf 12 = .ok (.iload_n 3, 1) := by decide +kernel
theorem dX9_greatestOf_13 : decode cX9_greatestOf 13 = .ok (.if_icmp .ge 22, 3) := by decide +kernel
theorem dX9_greatestOf_16 : decode cX9_greatestOf 16 = .ok (.aload_n 2, 1) := by decide +kernel
theorem dX9_greatestOf_17 : decode cX9_greatestOf 17 = .ok (.iload 4, 2) := by decide +kernel
theorem dX9_greatestOf_19 : decode cX9_greatestOf 19 = .ok (.iaload, 1) := by decide +kernel
theorem dX9_greatestOf_20 : decode cX9_greatestOf 20 = .ok (.istore 5, 2) := by decide +kernel
theorem dX9_greatestOf_22 : decode cX9_greatestOf 22 = .ok (.iload_n 1, 1) := by decide +kernel
theorem dX9_greatestOf_23 : decode cX9_greatestOf 23 = .ok (.iload 5, 2) := by decide +kernel
theorem dX9_greatestOf_25 : decode cX9_greatestOf 25 = .ok (.invokestatic 164, 3) := by decide +kernel
theorem dX9_greatestOf_28 : decode cX9_greatestOf 28 = .ok (.istore_n 1, 1) := by decide +kernel
theorem dX9_greatestOf_29 : decode cX9_greatestOf 29 = .ok (.iinc 4 1, 3) := by decide +kernel
theorem dX9_greatestOf_32 : decode cX9_greatestOf 32 = .ok (.goto (-22), 3) := by decide +kernel
theorem dX9_greatestOf_35 : decode cX9_greatestOf 35 = .ok (.iload_n 1, 1) := by decide +kernel
theorem dX9_greatestOf_36 : decode cX9_greatestOf 36 = .ok (.ireturn, 1) := by decide +kernel
theorem dX9_firstGoes_0 : decode cX9_firstGoes 0 = .ok (.iload 5, 2) := by decide +kernel
theorem dX9_firstGoes_2 : decode cX9_firstGoes 2 = .ok (.ifCond .gt 13, 3) := by decide +kernel
theorem dX9_firstGoes_5 : decode cX9_firstGoes 5 = .ok (.aload_n 0, 1) := by decide +kernel
theorem dX9_firstGoes_6 : decode cX9_firstGoes 6 = .ok (.iload_n 1, 1) := by decide +kernel
theorem dX9_firstGoes_7 : decode cX9_firstGoes 7 = .ok (.iload_n 2, 1) := by decide +kernel
theorem dX9_firstGoes_8 : decode cX9_firstGoes 8 = .ok (.iload_n 3, 1) := by decide +kernel
theorem dX9_firstGoes_9 : decode cX9_firstGoes 9 = .ok (.iload 4, 2) := by decide +kernel
theorem dX9_firstGoes_11 : decode cX9_firstGoes 11 = .ok (.invokevirtual 344, 3) := by decide +kernel
theorem dX9_firstGoes_14 : decode cX9_firstGoes 14 = .ok (.ireturn, 1) := by decide +kernel
theorem dX9_firstGoes_15 : decode cX9_firstGoes 15 = .ok (.bipush (-30), 2) := by decide +kernel
theorem dX9_firstGoes_17 : decode cX9_firstGoes 17 = .ok (.istore 6, 2) := by decide +kernel
theorem dX9_firstGoes_19 : decode cX9_firstGoes 19 = .ok (.iconst (-1), 1) := by decide +kernel
theorem dX9_firstGoes_20 : decode cX9_firstGoes 20 = .ok (.istore 7, 2) := by decide +kernel
theorem dX9_firstGoes_22 : decode cX9_firstGoes 22 = .ok (.iload 7, 2) := by decide +kernel
theorem dX9_firstGoes_24 : decode cX9_firstGoes 24 = .ok (.iconst 1, 1) := by decide +kernel
theorem dX9_firstGoes_25 : decode cX9_firstGoes 25 = .ok (.if_icmp .gt 39, 3) := by decide +kernel
theorem dX9_firstGoes_28 : decode cX9_firstGoes 28 = .ok (.iload_n 3, 1) := by decide +kernel
theorem dX9_firstGoes_29 : decode cX9_firstGoes 29 = .ok (.iload 7, 2) := by decide +kernel
theorem dX9_firstGoes_31 : decode cX9_firstGoes 31 = .ok (.iadd, 1) := by decide +kernel
theorem dX9_firstGoes_32 : decode cX9_firstGoes 32 = .ok (.bipush 10, 2) := by decide +kernel
theorem dX9_firstGoes_34 : decode cX9_firstGoes 34 = .ok (.invokestatic 348, 3) := by decide +kernel
theorem dX9_firstGoes_37 : decode cX9_firstGoes 37 = .ok (.istore 8, 2) := by decide +kernel
theorem dX9_firstGoes_39 : decode cX9_firstGoes 39 = .ok (.iload 6, 2) := by decide +kernel
theorem dX9_firstGoes_41 : decode cX9_firstGoes 41 = .ok (.aload_n 0, 1) := by decide +kernel
theorem dX9_firstGoes_42 : decode cX9_firstGoes 42 = .ok (.iload_n 1, 1) := by decide +kernel
theorem dX9_firstGoes_43 : decode cX9_firstGoes 43 = .ok (.iload_n 2, 1) := by decide +kernel
theorem dX9_firstGoes_44 : decode cX9_firstGoes 44 = .ok (.iload 8, 2) := by decide +kernel
theorem dX9_firstGoes_46 : decode cX9_firstGoes 46 = .ok (.iload 4, 2) := by decide +kernel
theorem dX9_firstGoes_48 : decode cX9_firstGoes 48 = .ok (.iload 5, 2) := by decide +kernel
theorem dX9_firstGoes_50 : decode cX9_firstGoes 50 = .ok (.invokevirtual 351, 3) := by decide +kernel
theorem dX9_firstGoes_53 : decode cX9_firstGoes 53 = .ok (.invokestatic 164, 3) := by decide +kernel
theorem dX9_firstGoes_56 : decode cX9_firstGoes 56 = .ok (.istore 6, 2) := by decide +kernel
theorem dX9_firstGoes_58 : decode cX9_firstGoes 58 = .ok (.iinc 7 1, 3) := by decide +kernel
theorem dX9_firstGoes_61 : decode cX9_firstGoes 61 = .ok (.goto (-39), 3) := by decide +kernel
theorem dX9_firstGoes_64 : decode cX9_firstGoes 64 = .ok (.iload 6, 2) := by decide +kernel
theorem dX9_firstGoes_66 : decode cX9_firstGoes 66 = .ok (.ireturn, 1) := by decide +kernel
theorem dX9_secondGoes_0 : decode cX9_secondGoes 0 = .ok (.bipush 30, 2) := by decide +kernel
theorem dX9_secondGoes_2 : decode cX9_secondGoes 2 = .ok (.istore 6, 2) := by decide +kernel
theorem dX9_secondGoes_4 : decode cX9_secondGoes 4 = .ok (.iconst (-1), 1) := by decide +kernel
theorem dX9_secondGoes_5 : decode cX9_secondGoes 5 = .ok (.istore 7, 2) := by decide +kernel
theorem dX9_secondGoes_7 : decode cX9_secondGoes 7 = .ok (.iload 7, 2) := by decide +kernel
theorem dX9_secondGoes_9 : decode cX9_secondGoes 9 = .ok (.iconst 1, 1) := by decide +kernel
theorem dX9_secondGoes_10 : decode cX9_secondGoes 10 = .ok (.if_icmp .gt 41, 3) := by decide +kernel
theorem dX9_secondGoes_13 : decode cX9_secondGoes 13 = .ok (.iload 4, 2) := by decide +kernel
theorem dX9_secondGoes_15 : decode cX9_secondGoes 15 = .ok (.iload 7, 2) := by decide +kernel
theorem dX9_secondGoes_17 : decode cX9_secondGoes 17 = .ok (.iadd, 1) := by decide +kernel
theorem dX9_secondGoes_18 : decode cX9_secondGoes 18 = .ok (.bipush 10, 2) := by decide +kernel
theorem dX9_secondGoes_20 : decode cX9_secondGoes 20 = .ok (.invokestatic 348, 3) := by decide +kernel
theorem dX9_secondGoes_23 : decode cX9_secondGoes 23 = .ok (.istore 8, 2) := by decide +kernel
theorem dX9_secondGoes_25 : decode cX9_secondGoes 25 = .ok (.iload 6, 2) := by decide +kernel
theorem dX9_secondGoes_27 : decode cX9_secondGoes 27 = .ok (.aload_n 0, 1) := by decide +kernel
theorem dX9_secondGoes_28 : decode cX9_secondGoes 28 = .ok (.iload_n 1, 1) := by decide +kernel
theorem dX9_secondGoes_29 : decode cX9_secondGoes 29 = .ok (.iload_n 2, 1) := by decide +kernel
theorem dX9_secondGoes_30 : decode cX9_secondGoes 30 = .ok (.iload_n 3, 1) := by decide +kernel
theorem dX9_secondGoes_31 : decode cX9_secondGoes 31 = .ok (.iload 8, 2) := by decide +kernel
theorem dX9_secondGoes_33 : decode cX9_secondGoes 33 = .ok (.iload 5, 2) := by decide +kernel
theorem dX9_secondGoes_35 : decode cX9_secondGoes 35 = .ok (.iconst 1, 1) := by decide +kernel
theorem dX9_secondGoes_36 : decode cX9_secondGoes 36 = .ok (.isub, 1) := by decide +kernel
theorem dX9_secondGoes_37 : decode cX9_secondGoes 37 = .ok (.invokevirtual 249, 3) := by decide +kernel
theorem dX9_secondGoes_40 : decode cX9_secondGoes 40 = .ok (.invokestatic 354, 3) := by decide +kernel
theorem dX9_secondGoes_43 : decode cX9_secondGoes 43 = .ok (.istore 6, 2) := by decide +kernel
theorem dX9_secondGoes_45 : decode cX9_secondGoes 45 = .ok (.iinc 7 1, 3) := by decide +kernel
theorem dX9_secondGoes_48 : decode cX9_secondGoes 48 = .ok (.goto (-41), 3) := by decide +kernel
theorem dX9_secondGoes_51 : decode cX9_secondGoes 51 = .ok (.iload 6, 2) := by decide +kernel
theorem dX9_secondGoes_53 : decode cX9_secondGoes 53 = .ok (.ireturn, 1) := by decide +kernel
theorem dX9_duelEnd_0 : decode cX9_duelEnd 0 = .ok (.aload_n 0, 1) := by decide +kernel
theorem dX9_duelEnd_1 : decode cX9_duelEnd 1 = .ok (.getfield 74, 3) := by decide +kernel
theorem dX9_duelEnd_4 : decode cX9_duelEnd 4 = .ok (.aload_n 0, 1) := by decide +kernel
theorem dX9_duelEnd_5 : decode cX9_duelEnd 5 = .ok (.getfield 71, 3) := by decide +kernel
theorem dX9_duelEnd_8 : decode cX9_duelEnd 8 = .ok (.invokevirtual 120, 3) := by decide +kernel
theorem dX9_duelEnd_11 : decode cX9_duelEnd 11 = .ok (.aload_n 0, 1) := by decide +kernel
theorem dX9_duelEnd_12 : decode cX9_duelEnd 12 = .ok (.getfield 74, 3) := by decide +kernel
theorem dX9_duelEnd_15 : decode cX9_duelEnd 15 = .ok (.getfield 182, 3) := by decide +kernel
theorem dX9_duelEnd_18 : decode cX9_duelEnd 18 = .ok (.iload_n 1, 1) := by decide +kernel
theorem dX9_duelEnd_19 : decode cX9_duelEnd 19 = .ok (.iload_n 3, 1) := by decide +kernel
theorem dX9_duelEnd_20 : decode cX9_duelEnd 20 = .ok (.iastore, 1) := by decide +kernel
theorem dX9_duelEnd_21 : decode cX9_duelEnd 21 = .ok (.aload_n 0, 1) := by decide +kernel
theorem dX9_duelEnd_22 : decode cX9_duelEnd 22 = .ok (.getfield 74, 3) := by decide +kernel
theorem dX9_duelEnd_25 : decode cX9_duelEnd 25 = .ok (.getfield 182, 3) := by decide +kernel
theorem dX9_duelEnd_28 : decode cX9_duelEnd 28 = .ok (.iload_n 2, 1) := by decide +kernel
theorem dX9_duelEnd_29 : decode cX9_duelEnd 29 = .ok (.iload 4, 2) := by decide +kernel
theorem dX9_duelEnd_31 : decode cX9_duelEnd 31 = .ok (.iastore, 1) := by decide +kernel
theorem dX9_duelEnd_32 : decode cX9_duelEnd 32 = .ok (.iconst 0, 1) := by decide +kernel
theorem dX9_duelEnd_33 : decode cX9_duelEnd 33 = .ok (.istore 5, 2) := by decide +kernel
theorem dX9_duelEnd_35 : decode cX9_duelEnd 35 = .ok (.iload 5, 2) := by decide +kernel
theorem dX9_duelEnd_37 : decode cX9_duelEnd 37 = .ok (.iconst 3, 1) := by decide +kernel
theorem dX9_duelEnd_38 : decode cX9_duelEnd 38 = .ok (.if_icmp .ge 18, 3) := by decide +kernel
theorem dX9_duelEnd_41 : decode cX9_duelEnd 41 = .ok (.aload_n 0, 1) := by decide +kernel
theorem dX9_duelEnd_42 : decode cX9_duelEnd 42 = .ok (.getfield 74, 3) := by decide +kernel
theorem dX9_duelEnd_45 : decode cX9_duelEnd 45 = .ok (.iconst 0, 1) := by decide +kernel
theorem dX9_duelEnd_46 : decode cX9_duelEnd 46 = .ok (.invokevirtual 203, 3) := by decide +kernel
theorem dX9_duelEnd_49 : decode cX9_duelEnd 49 = .ok (.pop, 1) := by decide +kernel
theorem dX9_duelEnd_50 : decode cX9_duelEnd 50 = .ok (.iinc 5 1, 3) := by decide +kernel
theorem dX9_duelEnd_53 : decode cX9_duelEnd 53 = .ok (.goto (-18), 3) := by decide +kernel
theorem dX9_duelEnd_56 : decode cX9_duelEnd 56 = .ok (.aload_n 0, 1) := by decide +kernel
theorem dX9_duelEnd_57 : decode cX9_duelEnd 57 = .ok (.getfield 74, 3) := by decide +kernel
theorem dX9_duelEnd_60 : decode cX9_duelEnd 60 = .ok (.getfield 146, 3) := by decide +kernel
theorem dX9_duelEnd_63 : decode cX9_duelEnd 63 = .ok (.iload_n 1, 1) := by decide +kernel
theorem dX9_duelEnd_64 : decode cX9_duelEnd 64 = .ok (.iaload, 1) := by decide +kernel
theorem dX9_duelEnd_65 : decode cX9_duelEnd 65 = .ok (.aload_n 0, 1) := by decide +kernel
theorem dX9_duelEnd_66 : decode cX9_duelEnd 66 = .ok (.getfield 74, 3) := by decide +kernel
theorem dX9_duelEnd_69 : decode cX9_duelEnd 69 = .ok (.getfield 146, 3) := by decide +kernel
theorem dX9_duelEnd_72 : decode cX9_duelEnd 72 = .ok (.iload_n 2, 1) := by decide +kernel
theorem dX9_duelEnd_73 : decode cX9_duelEnd 73 = .ok (.iaload, 1) := by decide +kernel
theorem dX9_duelEnd_74 : decode cX9_duelEnd 74 = .ok (.isub, 1) := by decide +kernel
theorem dX9_duelEnd_75 : decode cX9_duelEnd 75 = .ok (.ireturn, 1) := by decide +kernel
theorem dX9_weightOf_0 : decode cX9_weightOf 0 = .ok (.iload_n 1, 1) := by decide +kernel
theorem dX9_weightOf_1 : decode cX9_weightOf 1 = .ok (.invokestatic 209, 3) := by decide +kernel
theorem dX9_weightOf_4 : decode cX9_weightOf 4 = .ok (.istore_n 3, 1) := by decide +kernel
theorem dX9_weightOf_5 : decode cX9_weightOf 5 = .ok (.iload_n 2, 1) := by decide +kernel
theorem dX9_weightOf_6 : decode cX9_weightOf 6 = .ok (.i2l, 1) := by decide +kernel
theorem dX9_weightOf_7 : decode cX9_weightOf 7 = .ok (.iload_n 3, 1) := by decide +kernel
theorem dX9_weightOf_8 : decode cX9_weightOf 8 = .ok (.invokestatic 259, 3) := by decide +kernel
theorem dX9_weightOf_11 : decode cX9_weightOf 11 = .ok (.bipush 12, 2) := by decide +kernel
theorem dX9_weightOf_13 : decode cX9_weightOf 13 = .ok (.iload_n 2, 1) := by decide +kernel
theorem dX9_weightOf_14 : decode cX9_weightOf 14 = .ok (.isub, 1) := by decide +kernel
theorem dX9_weightOf_15 : decode cX9_weightOf 15 = .ok (.i2l, 1) := by decide +kernel
theorem dX9_weightOf_16 : decode cX9_weightOf 16 = .ok (.aload_n 0, 1) := by decide +kernel
theorem dX9_weightOf_17 : decode cX9_weightOf 17 = .ok (.getfield 71, 3) := by decide +kernel
theorem dX9_weightOf_20 : decode cX9_weightOf 20 = .ok (.getfield 127, 3) := by decide +kernel
theorem dX9_weightOf_23 : decode cX9_weightOf 23 = .ok (.iload_n 3, 1) := by decide +kernel
theorem dX9_weightOf_24 : decode cX9_weightOf 24 = .ok (.isub, 1) := by decide +kernel
theorem dX9_weightOf_25 : decode cX9_weightOf 25 = .ok (.invokestatic 259, 3) := by decide +kernel
theorem dX9_weightOf_28 : decode cX9_weightOf 28 = .ok (.lmul, 1) := by decide +kernel
theorem dX9_weightOf_29 : decode cX9_weightOf 29 = .ok (.lreturn, 1) := by decide +kernel
theorem dX9_power_0 : decode cX9_power 0 = .ok (.lconst 1, 1) := by decide +kernel
theorem dX9_power_1 : decode cX9_power 1 = .ok (.lstore_n 3, 1) := by decide +kernel
theorem dX9_power_2 : decode cX9_power 2 = .ok (.iconst 0, 1) := by decide +kernel
theorem dX9_power_3 : decode cX9_power 3 = .ok (.istore 5, 2) := by decide +kernel
theorem dX9_power_5 : decode cX9_power 5 = .ok (.iload 5, 2) := by decide +kernel
theorem dX9_power_7 : decode cX9_power 7 = .ok (.iload_n 2, 1) := by decide +kernel
theorem dX9_power_8 : decode cX9_power 8 = .ok (.if_icmp .ge 13, 3) := by decide +kernel
theorem dX9_power_11 : decode cX9_power 11 = .ok (.lload_n 3, 1) := by decide +kernel
theorem dX9_power_12 : decode cX9_power 12 = .ok (.lload_n 0, 1) := by decide +kernel
theorem dX9_power_13 : decode cX9_power 13 = .ok (.lmul, 1) := by decide +kernel
theorem dX9_power_14 : decode cX9_power 14 = .ok (.lstore_n 3, 1) := by decide +kernel
theorem dX9_power_15 : decode cX9_power 15 = .ok (.iinc 5 1, 3) := by decide +kernel
theorem dX9_power_18 : decode cX9_power 18 = .ok (.goto (-13), 3) := by decide +kernel
theorem dX9_power_21 : decode cX9_power 21 = .ok (.lload_n 3, 1) := by decide +kernel
theorem dX9_power_22 : decode cX9_power 22 = .ok (.lreturn, 1) := by decide +kernel
theorem dX9_tellParts_0 : decode cX9_tellParts 0 = .ok (.lload_n 1, 1) := by decide +kernel
theorem dX9_tellParts_1 : decode cX9_tellParts 1 = .ok (.lload_n 3, 1) := by decide +kernel
theorem dX9_tellParts_2 : decode cX9_tellParts 2 = .ok (.invokestatic 357, 3) := by decide +kernel
theorem dX9_tellParts_5 : decode cX9_tellParts 5 = .ok (.lstore 5, 2) := by decide +kernel
theorem dX9_tellParts_7 : decode cX9_tellParts 7 = .ok (.lload 5, 2) := by decide +kernel
theorem dX9_tellParts_9 : decode cX9_tellParts 9 = .ok (.lconst 0, 1) := by decide +kernel
theorem dX9_tellParts_10 : decode cX9_tellParts 10 = .ok (.lcmp, 1) := by decide +kernel
theorem dX9_tellParts_11 : decode cX9_tellParts 11 = .ok (.ifCond .gt 4, 3) := by decide +kernel
theorem dX9_tellParts_14 : decode cX9_tellParts 14 = .ok (.return_, 1) := by decide +kernel
theorem dX9_tellParts_15 : decode cX9_tellParts 15 = .ok (.aload_n 0, 1) := by decide +kernel
theorem dX9_tellParts_16 : decode cX9_tellParts 16 = .ok (.lload_n 1, 1) := by decide +kernel
theorem dX9_tellParts_17 : decode cX9_tellParts 17 = .ok (.lload 5, 2) := by decide +kernel
theorem dX9_tellParts_19 : decode cX9_tellParts 19 = .ok (.ldiv, 1) := by decide +kernel
theorem dX9_tellParts_20 : decode cX9_tellParts 20 = .ok (.putfield 52, 3) := by decide +kernel
theorem dX9_tellParts_23 : decode cX9_tellParts 23 = .ok (.aload_n 0, 1) := by decide +kernel
theorem dX9_tellParts_24 : decode cX9_tellParts 24 = .ok (.lload_n 3, 1) := by decide +kernel
theorem dX9_tellParts_25 : decode cX9_tellParts 25 = .ok (.lload 5, 2) := by decide +kernel
theorem dX9_tellParts_27 : decode cX9_tellParts 27 = .ok (.ldiv, 1) := by decide +kernel
theorem dX9_tellParts_28 : decode cX9_tellParts 28 = .ok (.putfield 56, 3) := by decide +kernel
theorem dX9_tellParts_31 : decode cX9_tellParts 31 = .ok (.return_, 1) := by decide +kernel
theorem dX9_commonDivisor_0 : decode cX9_commonDivisor 0 = .ok (.lload_n 0, 1) := by decide +kernel
theorem dX9_commonDivisor_1 : decode cX9_commonDivisor 1 = .ok (.lstore 4, 2) := by decide +kernel
theorem dX9_commonDivisor_3 : decode cX9_commonDivisor 3 = .ok (.lload_n 2, 1) := by decide +kernel
theorem dX9_commonDivisor_4 : decode cX9_commonDivisor 4 = .ok (.lstore 6, 2) := by decide +kernel
theorem dX9_commonDivisor_6 : decode cX9_commonDivisor 6 = .ok (.iconst 0, 1) := by decide +kernel
theorem dX9_commonDivisor_7 : decode cX9_commonDivisor 7 = .ok (.istore 8, 2) := by decide +kernel
theorem dX9_commonDivisor_9 : decode cX9_commonDivisor 9 = .ok (.iload 8, 2) := by decide +kernel
theorem dX9_commonDivisor_11 : decode cX9_commonDivisor 11 = .ok (.bipush 100, 2) := by decide +kernel
theorem dX9_commonDivisor_13 : decode cX9_commonDivisor 13 = .ok (.if_icmp .ge 31, 3) := by decide +kernel
theorem dX9_commonDivisor_16 : decode cX9_commonDivisor 16 = .ok (.lload 6, 2) := by decide +kernel
theorem dX9_commonDivisor_18 : decode cX9_commonDivisor 18 = .ok (.lconst 0, 1) := by decide +kernel
theorem dX9_commonDivisor_19 : decode cX9_commonDivisor 19 = .ok (.lcmp, 1) := by decide +kernel
theorem dX9_commonDivisor_20 : decode cX9_commonDivisor 20 = .ok (.ifCond .eq 24, 3) := by decide +kernel
theorem dX9_commonDivisor_23 : decode cX9_commonDivisor 23 = .ok (.lload 4, 2) := by decide +kernel
theorem dX9_commonDivisor_25 : decode cX9_commonDivisor 25 = .ok (.lload 6, 2) := by decide +kernel
theorem dX9_commonDivisor_27 : decode cX9_commonDivisor 27 = .ok (.lrem, 1) := by decide +kernel
theorem dX9_commonDivisor_28 : decode cX9_commonDivisor 28 = .ok (.lstore 9, 2) := by decide +kernel
theorem dX9_commonDivisor_30 : decode cX9_commonDivisor 30 = .ok (.lload 6, 2) := by decide +kernel
theorem dX9_commonDivisor_32 : decode cX9_commonDivisor 32 = .ok (.lstore 4, 2) := by decide +kernel
theorem dX9_commonDivisor_34 : decode cX9_commonDivisor 34 = .ok (.lload 9, 2) := by decide +kernel
theorem dX9_commonDivisor_36 : decode cX9_commonDivisor 36 = .ok (.lstore 6, 2) := by decide +kernel
theorem dX9_commonDivisor_38 : decode cX9_commonDivisor 38 = .ok (.iinc 8 1, 3) := by decide +kernel
theorem dX9_commonDivisor_41 : decode cX9_commonDivisor 41 = .ok (.goto (-32), 3) := by decide +kernel
theorem dX9_commonDivisor_44 : decode cX9_commonDivisor 44 = .ok (.lload 4, 2) := by decide +kernel
theorem dX9_commonDivisor_46 : decode cX9_commonDivisor 46 = .ok (.lreturn, 1) := by decide +kernel
theorem dX9_valueOfOne_0 : decode cX9_valueOfOne 0 = .ok (.iload_n 2, 1) := by decide +kernel
theorem dX9_valueOfOne_1 : decode cX9_valueOfOne 1 = .ok (.tableswitch 77 0 3 #[31, 41, 51, 61], 31) := by decide +kernel
theorem dX9_valueOfOne_32 : decode cX9_valueOfOne 32 = .ok (.aload_n 0, 1) := by decide +kernel
theorem dX9_valueOfOne_33 : decode cX9_valueOfOne 33 = .ok (.getfield 71, 3) := by decide +kernel
theorem dX9_valueOfOne_36 : decode cX9_valueOfOne 36 = .ok (.getfield 231, 3) := by decide +kernel
theorem dX9_valueOfOne_39 : decode cX9_valueOfOne 39 = .ok (.iload_n 1, 1) := by decide +kernel
theorem dX9_valueOfOne_40 : decode cX9_valueOfOne 40 = .ok (.iaload, 1) := by decide +kernel
theorem dX9_valueOfOne_41 : decode cX9_valueOfOne 41 = .ok (.ireturn, 1) := by decide +kernel
theorem dX9_valueOfOne_42 : decode cX9_valueOfOne 42 = .ok (.aload_n 0, 1) := by decide +kernel
theorem dX9_valueOfOne_43 : decode cX9_valueOfOne 43 = .ok (.getfield 71, 3) := by decide +kernel
theorem dX9_valueOfOne_46 : decode cX9_valueOfOne 46 = .ok (.getfield 182, 3) := by decide +kernel
theorem dX9_valueOfOne_49 : decode cX9_valueOfOne 49 = .ok (.iload_n 1, 1) := by decide +kernel
theorem dX9_valueOfOne_50 : decode cX9_valueOfOne 50 = .ok (.iaload, 1) := by decide +kernel
theorem dX9_valueOfOne_51 : decode cX9_valueOfOne 51 = .ok (.ireturn, 1) := by decide +kernel
theorem dX9_valueOfOne_52 : decode cX9_valueOfOne 52 = .ok (.aload_n 0, 1) := by decide +kernel
theorem dX9_valueOfOne_53 : decode cX9_valueOfOne 53 = .ok (.getfield 71, 3) := by decide +kernel
theorem dX9_valueOfOne_56 : decode cX9_valueOfOne 56 = .ok (.getfield 146, 3) := by decide +kernel
theorem dX9_valueOfOne_59 : decode cX9_valueOfOne 59 = .ok (.iload_n 1, 1) := by decide +kernel
theorem dX9_valueOfOne_60 : decode cX9_valueOfOne 60 = .ok (.iaload, 1) := by decide +kernel
theorem dX9_valueOfOne_61 : decode cX9_valueOfOne 61 = .ok (.ireturn, 1) := by decide +kernel
theorem dX9_valueOfOne_62 : decode cX9_valueOfOne 62 = .ok (.aload_n 0, 1) := by decide +kernel
theorem dX9_valueOfOne_63 : decode cX9_valueOfOne 63 = .ok (.getfield 71, 3) := by decide +kernel
theorem dX9_valueOfOne_66 : decode cX9_valueOfOne 66 = .ok (.iload_n 1, 1) := by decide +kernel
theorem dX9_valueOfOne_67 : decode cX9_valueOfOne 67 = .ok (.aload_n 0, 1) := by decide +kernel
theorem dX9_valueOfOne_68 : decode cX9_valueOfOne 68 = .ok (.getfield 71, 3) := by decide +kernel
theorem dX9_valueOfOne_71 : decode cX9_valueOfOne 71 = .ok (.getfield 159, 3) := by decide +kernel
theorem dX9_valueOfOne_74 : decode cX9_valueOfOne 74 = .ok (.invokevirtual 194, 3) := by decide +kernel
theorem dX9_valueOfOne_77 : decode cX9_valueOfOne 77 = .ok (.ireturn, 1) := by decide +kernel
theorem dX9_valueOfOne_78 : decode cX9_valueOfOne 78 = .ok (.aload_n 0, 1) := by decide +kernel
theorem dX9_valueOfOne_79 : decode cX9_valueOfOne 79 = .ok (.getfield 71, 3) := by decide +kernel
theorem dX9_valueOfOne_82 : decode cX9_valueOfOne 82 = .ok (.iload_n 1, 1) := by decide +kernel
theorem dX9_valueOfOne_83 : decode cX9_valueOfOne 83 = .ok (.invokevirtual 361, 3) := by decide +kernel
theorem dX9_valueOfOne_86 : decode cX9_valueOfOne 86 = .ok (.ireturn, 1) := by decide +kernel
theorem dX9_leastCloudAlike_0 : decode cX9_leastCloudAlike 0 = .ok (.aload_n 1, 1) := by decide +kernel
theorem dX9_leastCloudAlike_1 : decode cX9_leastCloudAlike 1 = .ok (.aload_n 0, 1) := by decide +kernel
theorem dX9_leastCloudAlike_2 : decode cX9_leastCloudAlike 2 = .ok (.getfield 71, 3) := by decide +kernel
theorem dX9_leastCloudAlike_5 : decode cX9_leastCloudAlike 5 = .ok (.getfield 159, 3) := by decide +kernel
theorem dX9_leastCloudAlike_8 : decode cX9_leastCloudAlike 8 = .ok (.invokevirtual 364, 3) := by decide +kernel
theorem dX9_leastCloudAlike_11 : decode cX9_leastCloudAlike 11 = .ok (.istore_n 2, 1) := by decide +kernel
theorem dX9_leastCloudAlike_12 : decode cX9_leastCloudAlike 12 = .ok (.iconst 0, 1) := by decide +kernel
theorem dX9_leastCloudAlike_13 : decode cX9_leastCloudAlike 13 = .ok (.istore_n 3, 1) := by decide +kernel
theorem dX9_leastCloudAlike_14 : decode cX9_leastCloudAlike 14 = .ok (.iload_n 3, 1) := by decide +kernel
theorem dX9_leastCloudAlike_15 : decode cX9_leastCloudAlike 15 = .ok (.aload_n 0, 1) := by decide +kernel
theorem dX9_leastCloudAlike_16 : decode cX9_leastCloudAlike 16 = .ok (.getfield 71, 3) := by decide +kernel
theorem dX9_leastCloudAlike_19 : decode cX9_leastCloudAlike 19 = .ok (.getfield 159, 3) := by decide +kernel
theorem dX9_leastCloudAlike_22 : decode cX9_leastCloudAlike 22 = .ok (.if_icmp .ge 20, 3) := by decide +kernel
theorem dX9_leastCloudAlike_25 : decode cX9_leastCloudAlike 25 = .ok (.aload_n 1, 1) := by decide +kernel
theorem dX9_leastCloudAlike_26 : decode cX9_leastCloudAlike 26 = .ok (.iload_n 3, 1) := by decide +kernel
theorem dX9_leastCloudAlike_27 : decode cX9_leastCloudAlike 27 = .ok (.invokevirtual 364, 3) := by decide +kernel
theorem dX9_leastCloudAlike_30 : decode cX9_leastCloudAlike 30 = .ok (.iload_n 2, 1) := by decide +kernel
theorem dX9_leastCloudAlike_31 : decode cX9_leastCloudAlike 31 = .ok (.if_icmp .ne 5, 3) := by decide +kernel
theorem dX9_leastCloudAlike_34 : decode cX9_leastCloudAlike 34 = .ok (.iload_n 3, 1) := by decide +kernel
theorem dX9_leastCloudAlike_35 : decode cX9_leastCloudAlike 35 = .ok (.ireturn, 1) := by decide +kernel
theorem dX9_leastCloudAlike_36 : decode cX9_leastCloudAlike 36 = .ok (.iinc 3 1, 3) := by decide +kernel
theorem dX9_leastCloudAlike_39 : decode cX9_leastCloudAlike 39 = .ok (.goto (-25), 3) := by decide +kernel
theorem dX9_leastCloudAlike_42 : decode cX9_leastCloudAlike 42 = .ok (.aload_n 0, 1) := by decide +kernel
theorem dX9_leastCloudAlike_43 : decode cX9_leastCloudAlike 43 = .ok (.getfield 71, 3) := by decide +kernel
theorem dX9_leastCloudAlike_46 : decode cX9_leastCloudAlike 46 = .ok (.getfield 159, 3) := by decide +kernel
theorem dX9_leastCloudAlike_49 : decode cX9_leastCloudAlike 49 = .ok (.ireturn, 1) := by decide +kernel
theorem dX9_beards_0 : decode cX9_beards 0 = .ok (.iconst 0, 1) := by decide +kernel
theorem dX9_beards_1 : decode cX9_beards 1 = .ok (.istore_n 1, 1) := by decide +kernel
theorem dX9_beards_2 : decode cX9_beards 2 = .ok (.iconst 0, 1) := by decide +kernel
theorem dX9_beards_3 : decode cX9_beards 3 = .ok (.istore_n 2, 1) := by decide +kernel
theorem dX9_beards_4 : decode cX9_beards 4 = .ok (.iload_n 2, 1) := by decide +kernel
theorem dX9_beards_5 : decode cX9_beards 5 = .ok (.aload_n 0, 1) := by decide +kernel
theorem dX9_beards_6 : decode cX9_beards 6 = .ok (.getfield 71, 3) := by decide +kernel
theorem dX9_beards_9 : decode cX9_beards 9 = .ok (.getfield 127, 3) := by decide +kernel
theorem dX9_beards_12 : decode cX9_beards 12 = .ok (.if_icmp .ge 26, 3) := by decide +kernel
theorem dX9_beards_15 : decode cX9_beards 15 = .ok (.aload_n 0, 1) := by decide +kernel
theorem dX9_beards_16 : decode cX9_beards 16 = .ok (.getfield 71, 3) := by decide +kernel
theorem dX9_beards_19 : decode cX9_beards 19 = .ok (.iload_n 2, 1) := by decide +kernel
theorem dX9_beards_20 : decode cX9_beards 20 = .ok (.invokevirtual 136, 3) := by decide +kernel
theorem dX9_beards_23 : decode cX9_beards 23 = .ok (.instanceof 140, 3) := by decide +kernel
theorem dX9_beards_26 : decode cX9_beards 26 = .ok (.ifCond .eq 6, 3) := by decide +kernel
theorem dX9_beards_29 : decode cX9_beards 29 = .ok (.iinc 1 1, 3) := by decide +kernel
theorem dX9_beards_32 : decode cX9_beards 32 = .ok (.iinc 2 1, 3) := by decide +kernel
theorem dX9_beards_35 : decode cX9_beards 35 = .ok (.goto (-31), 3) := by decide +kernel
theorem dX9_beards_38 : decode cX9_beards 38 = .ok (.iload_n 1, 1) := by decide +kernel
theorem dX9_beards_39 : decode cX9_beards 39 = .ok (.ireturn, 1) := by decide +kernel
theorem dX9_wasps_0 : decode cX9_wasps 0 = .ok (.iconst 0, 1) := by decide +kernel
theorem dX9_wasps_1 : decode cX9_wasps 1 = .ok (.istore_n 1, 1) := by decide +kernel
theorem dX9_wasps_2 : decode cX9_wasps 2 = .ok (.iconst 0, 1) := by decide +kernel
theorem dX9_wasps_3 : decode cX9_wasps 3 = .ok (.istore_n 2, 1) := by decide +kernel
theorem dX9_wasps_4 : decode cX9_wasps 4 = .ok (.iload_n 2, 1) := by decide +kernel
theorem dX9_wasps_5 : decode cX9_wasps 5 = .ok (.aload_n 0, 1) := by decide +kernel
theorem dX9_wasps_6 : decode cX9_wasps 6 = .ok (.getfield 71, 3) := by decide +kernel
theorem dX9_wasps_9 : decode cX9_wasps 9 = .ok (.getfield 127, 3) := by decide +kernel
theorem dX9_wasps_12 : decode cX9_wasps 12 = .ok (.if_icmp .ge 26, 3) := by decide +kernel
theorem dX9_wasps_15 : decode cX9_wasps 15 = .ok (.aload_n 0, 1) := by decide +kernel
theorem dX9_wasps_16 : decode cX9_wasps 16 = .ok (.getfield 71, 3) := by decide +kernel
theorem dX9_wasps_19 : decode cX9_wasps 19 = .ok (.iload_n 2, 1) := by decide +kernel
theorem dX9_wasps_20 : decode cX9_wasps 20 = .ok (.invokevirtual 136, 3) := by decide +kernel
theorem dX9_wasps_23 : decode cX9_wasps 23 = .ok (.instanceof 151, 3) := by decide +kernel
theorem dX9_wasps_26 : decode cX9_wasps 26 = .ok (.ifCond .eq 6, 3) := by decide +kernel
theorem dX9_wasps_29 : decode cX9_wasps 29 = .ok (.iinc 1 1, 3) := by decide +kernel
theorem dX9_wasps_32 : decode cX9_wasps 32 = .ok (.iinc 2 1, 3) := by decide +kernel
theorem dX9_wasps_35 : decode cX9_wasps 35 = .ok (.goto (-31), 3) := by decide +kernel
theorem dX9_wasps_38 : decode cX9_wasps 38 = .ok (.iload_n 1, 1) := by decide +kernel
theorem dX9_wasps_39 : decode cX9_wasps 39 = .ok (.ireturn, 1) := by decide +kernel
theorem dX9_howManyThere_0 : decode cX9_howManyThere 0 = .ok (.iconst 0, 1) := by decide +kernel
theorem dX9_howManyThere_1 : decode cX9_howManyThere 1 = .ok (.istore_n 1, 1) := by decide +kernel
theorem dX9_howManyThere_2 : decode cX9_howManyThere 2 = .ok (.aload_n 0, 1) := by decide +kernel
theorem dX9_howManyThere_3 : decode cX9_howManyThere 3 = .ok (.astore_n 2, 1) := by decide +kernel
theorem dX9_howManyThere_4 : decode cX9_howManyThere 4 = .ok (.aload_n 2, 1) := by decide +kernel
theorem dX9_howManyThere_5 : decode cX9_howManyThere 5 = .ok (.arraylength, 1) := by decide +kernel
theorem dX9_howManyThere_6 : decode cX9_howManyThere 6 = .ok (.istore_n 3, 1) := by decide +kernel
theorem dX9_howManyThere_7 : decode cX9_howManyThere 7 = .ok (.iconst 0, 1) := by decide +kernel
theorem dX9_howManyThere_8 : decode cX9_howManyThere 8 = .ok (.istore 4, 2) := by decide +kernel
theorem dX9_howManyThere_10 : decode cX9_howManyThere 10 = .ok (.iload 4, 2) := by decide +kernel
theorem dX9_howManyThere_12 : decode cX9_howManyThere 12 = .ok (.iload_n 3, 1) := by decide +kernel
theorem dX9_howManyThere_13 : decode cX9_howManyThere 13 = .ok (.if_icmp .ge 24, 3) := by decide +kernel
theorem dX9_howManyThere_16 : decode cX9_howManyThere 16 = .ok (.aload_n 2, 1) := by decide +kernel
theorem dX9_howManyThere_17 : decode cX9_howManyThere 17 = .ok (.iload 4, 2) := by decide +kernel
theorem dX9_howManyThere_19 : decode cX9_howManyThere 19 = .ok (.iaload, 1) := by decide +kernel
theorem dX9_howManyThere_20 : decode cX9_howManyThere 20 = .ok (.istore 5, 2) := by decide +kernel
theorem dX9_howManyThere_22 : decode cX9_howManyThere 22 = .ok (.iload 5, 2) := by decide +kernel
theorem dX9_howManyThere_24 : decode cX9_howManyThere 24 = .ok (.iconst (-1), 1) := by decide +kernel
theorem dX9_howManyThere_25 : decode cX9_howManyThere 25 = .ok (.if_icmp .eq 6, 3) := by decide +kernel
theorem dX9_howManyThere_28 : decode cX9_howManyThere 28 = .ok (.iinc 1 1, 3) := by decide +kernel
theorem dX9_howManyThere_31 : decode cX9_howManyThere 31 = .ok (.iinc 4 1, 3) := by decide +kernel
theorem dX9_howManyThere_34 : decode cX9_howManyThere 34 = .ok (.goto (-24), 3) := by decide +kernel
theorem dX9_howManyThere_37 : decode cX9_howManyThere 37 = .ok (.iload_n 1, 1) := by decide +kernel
theorem dX9_howManyThere_38 : decode cX9_howManyThere 38 = .ok (.ireturn, 1) := by decide +kernel
theorem dX9_howManyKept_0 : decode cX9_howManyKept 0 = .ok (.iconst 0, 1) := by decide +kernel
theorem dX9_howManyKept_1 : decode cX9_howManyKept 1 = .ok (.istore_n 1, 1) := by decide +kernel
theorem dX9_howManyKept_2 : decode cX9_howManyKept 2 = .ok (.aload_n 0, 1) := by decide +kernel
theorem dX9_howManyKept_3 : decode cX9_howManyKept 3 = .ok (.getfield 35, 3) := by decide +kernel
theorem dX9_howManyKept_6 : decode cX9_howManyKept 6 = .ok (.astore_n 2, 1) := by decide +kernel
theorem dX9_howManyKept_7 : decode cX9_howManyKept 7 = .ok (.aload_n 2, 1) := by decide +kernel
theorem dX9_howManyKept_8 : decode cX9_howManyKept 8 = .ok (.arraylength, 1) := by decide +kernel
theorem dX9_howManyKept_9 : decode cX9_howManyKept 9 = .ok (.istore_n 3, 1) := by decide +kernel
theorem dX9_howManyKept_10 : decode cX9_howManyKept 10 = .ok (.iconst 0, 1) := by decide +kernel
theorem dX9_howManyKept_11 : decode cX9_howManyKept 11 = .ok (.istore 4, 2) := by decide +kernel
theorem dX9_howManyKept_13 : decode cX9_howManyKept 13 = .ok (.iload 4, 2) := by decide +kernel
theorem dX9_howManyKept_15 : decode cX9_howManyKept 15 = .ok (.iload_n 3, 1) := by decide +kernel
theorem dX9_howManyKept_16 : decode cX9_howManyKept 16 = .ok (.if_icmp .ge 27, 3) := by decide +kernel
theorem dX9_howManyKept_19 : decode cX9_howManyKept 19 = .ok (.aload_n 2, 1) := by decide +kernel
theorem dX9_howManyKept_20 : decode cX9_howManyKept 20 = .ok (.iload 4, 2) := by decide +kernel
theorem dX9_howManyKept_22 : decode cX9_howManyKept 22 = .ok (.aaload, 1) := by decide +kernel
theorem dX9_howManyKept_23 : decode cX9_howManyKept 23 = .ok (.astore 5, 2) := by decide +kernel
theorem dX9_howManyKept_25 : decode cX9_howManyKept 25 = .ok (.aload 5, 2) := by decide +kernel
theorem dX9_howManyKept_27 : decode cX9_howManyKept 27 = .ok (.getfield 124, 3) := by decide +kernel
theorem dX9_howManyKept_30 : decode cX9_howManyKept 30 = .ok (.iconst (-1), 1) := by decide +kernel
theorem dX9_howManyKept_31 : decode cX9_howManyKept 31 = .ok (.if_icmp .eq 6, 3) := by decide +kernel
theorem dX9_howManyKept_34 : decode cX9_howManyKept 34 = .ok (.iinc 1 1, 3) := by decide +kernel
theorem dX9_howManyKept_37 : decode cX9_howManyKept 37 = .ok (.iinc 4 1, 3) := by decide +kernel
theorem dX9_howManyKept_40 : decode cX9_howManyKept 40 = .ok (.goto (-27), 3) := by decide +kernel
theorem dX9_howManyKept_43 : decode cX9_howManyKept 43 = .ok (.iload_n 1, 1) := by decide +kernel
theorem dX9_howManyKept_44 : decode cX9_howManyKept 44 = .ok (.ireturn, 1) := by decide +kernel
theorem dX10_init_0 : decode cX10_init 0 = .ok (.aload_n 0, 1) := by decide +kernel
theorem dX10_init_1 : decode cX10_init 1 = .ok (.invokespecial 1, 3) := by decide +kernel
theorem dX10_init_4 : decode cX10_init 4 = .ok (.aload_n 0, 1) := by decide +kernel
theorem dX10_init_5 : decode cX10_init 5 = .ok (.sipush 2805, 3) := by decide +kernel
theorem dX10_init_8 : decode cX10_init 8 = .ok (.newarray .int, 2) := by decide +kernel
theorem dX10_init_10 : decode cX10_init 10 = .ok (.putfield 7, 3) := by decide +kernel
theorem dX10_init_13 : decode cX10_init 13 = .ok (.aload_n 0, 1) := by decide +kernel
theorem dX10_init_14 : decode cX10_init 14 = .ok (.bipush 6, 2) := by decide +kernel
theorem dX10_init_16 : decode cX10_init 16 = .ok (.newarray .int, 2) := by decide +kernel
theorem dX10_init_18 : decode cX10_init 18 = .ok (.putfield 13, 3) := by decide +kernel
theorem dX10_init_21 : decode cX10_init 21 = .ok (.aload_n 0, 1) := by decide +kernel
theorem dX10_init_22 : decode cX10_init 22 = .ok (.iconst 3, 1) := by decide +kernel
theorem dX10_init_23 : decode cX10_init 23 = .ok (.newarray .int, 2) := by decide +kernel
theorem dX10_init_25 : decode cX10_init 25 = .ok (.putfield 16, 3) := by decide +kernel
theorem dX10_init_28 : decode cX10_init 28 = .ok (.aload_n 0, 1) := by decide +kernel
theorem dX10_init_29 : decode cX10_init 29 = .ok (.sipush 240, 3) := by decide +kernel
theorem dX10_init_32 : decode cX10_init 32 = .ok (.newarray .int, 2) := by decide +kernel
theorem dX10_init_34 : decode cX10_init 34 = .ok (.putfield 19, 3) := by decide +kernel
theorem dX10_init_37 : decode cX10_init 37 = .ok (.aload_n 0, 1) := by decide +kernel
theorem dX10_init_38 : decode cX10_init 38 = .ok (.bipush 6, 2) := by decide +kernel
theorem dX10_init_40 : decode cX10_init 40 = .ok (.newarray .int, 2) := by decide +kernel
theorem dX10_init_42 : decode cX10_init 42 = .ok (.putfield 22, 3) := by decide +kernel
theorem dX10_init_45 : decode cX10_init 45 = .ok (.aload_n 0, 1) := by decide +kernel
theorem dX10_init_46 : decode cX10_init 46 = .ok (.sipush 240, 3) := by decide +kernel
theorem dX10_init_49 : decode cX10_init 49 = .ok (.newarray .int, 2) := by decide +kernel
theorem dX10_init_51 : decode cX10_init 51 = .ok (.putfield 25, 3) := by decide +kernel
theorem dX10_init_54 : decode cX10_init 54 = .ok (.aload_n 0, 1) := by decide +kernel
theorem dX10_init_55 : decode cX10_init 55 = .ok (.iconst 4, 1) := by decide +kernel
theorem dX10_init_56 : decode cX10_init 56 = .ok (.newarray .int, 2) := by decide +kernel
theorem dX10_init_58 : decode cX10_init 58 = .ok (.putfield 28, 3) := by decide +kernel
theorem dX10_init_61 : decode cX10_init 61 = .ok (.aload_n 0, 1) := by decide +kernel
theorem dX10_init_62 : decode cX10_init 62 = .ok (.bipush 6, 2) := by decide +kernel
theorem dX10_init_64 : decode cX10_init 64 = .ok (.newarray .int, 2) := by decide +kernel
theorem dX10_init_66 : decode cX10_init 66 = .ok (.putfield 31, 3) := by decide +kernel
theorem dX10_init_69 : decode cX10_init 69 = .ok (.aload_n 0, 1) := by decide +kernel
theorem dX10_init_70 : decode cX10_init 70 = .ok (.lconst 1, 1) := by decide +kernel
theorem dX10_init_71 : decode cX10_init 71 = .ok (.putfield 34, 3) := by decide +kernel
theorem dX10_init_74 : decode cX10_init 74 = .ok (.aload_n 0, 1) := by decide +kernel
theorem dX10_init_75 : decode cX10_init 75 = .ok (.bipush 6, 2) := by decide +kernel
theorem dX10_init_77 : decode cX10_init 77 = .ok (.newarray .int, 2) := by decide +kernel
theorem dX10_init_79 : decode cX10_init 79 = .ok (.putfield 38, 3) := by decide +kernel
theorem dX10_init_82 : decode cX10_init 82 = .ok (.aload_n 0, 1) := by decide +kernel
theorem dX10_init_83 : decode cX10_init 83 = .ok (.bipush 6, 2) := by decide +kernel
theorem dX10_init_85 : decode cX10_init 85 = .ok (.newarray .int, 2) := by decide +kernel
theorem dX10_init_87 : decode cX10_init 87 = .ok (.putfield 41, 3) := by decide +kernel
theorem dX10_init_90 : decode cX10_init 90 = .ok (.aload_n 0, 1) := by decide +kernel
theorem dX10_init_91 : decode cX10_init 91 = .ok (.bipush 6, 2) := by decide +kernel
theorem dX10_init_93 : decode cX10_init 93 = .ok (.newarray .int, 2) := by decide +kernel
theorem dX10_init_95 : decode cX10_init 95 = .ok (.putfield 44, 3) := by decide +kernel
theorem dX10_init_98 : decode cX10_init 98 = .ok (.aload_n 0, 1) := by decide +kernel
theorem dX10_init_99 : decode cX10_init 99 = .ok (.bipush 31, 2) := by decide +kernel
theorem dX10_init_101 : decode cX10_init 101 = .ok (.newarray .int, 2) := by decide +kernel
theorem dX10_init_103 : decode cX10_init 103 = .ok (.putfield 47, 3) := by decide +kernel
theorem dX10_init_106 : decode cX10_init 106 = .ok (.aload_n 0, 1) := by decide +kernel
theorem dX10_init_107 : decode cX10_init 107 = .ok (.bipush 81, 2) := by decide +kernel
theorem dX10_init_109 : decode cX10_init 109 = .ok (.newarray .int, 2) := by decide +kernel
theorem dX10_init_111 : decode cX10_init 111 = .ok (.putfield 50, 3) := by decide +kernel
theorem dX10_init_114 : decode cX10_init 114 = .ok (.iconst 0, 1) := by decide +kernel
theorem dX10_init_115 : decode cX10_init 115 = .ok (.istore_n 1, 1) := by decide +kernel
theorem dX10_init_116 : decode cX10_init 116 = .ok (.iload_n 1, 1) := by decide +kernel
theorem dX10_init_117 : decode cX10_init 117 = .ok (.bipush 6, 2) := by decide +kernel
theorem dX10_init_119 : decode cX10_init 119 = .ok (.if_icmp .ge 17, 3) := by decide +kernel
theorem dX10_init_122 : decode cX10_init 122 = .ok (.aload_n 0, 1) := by decide +kernel
theorem dX10_init_123 : decode cX10_init 123 = .ok (.getfield 22, 3) := by decide +kernel
theorem dX10_init_126 : decode cX10_init 126 = .ok (.iload_n 1, 1) := by decide +kernel
theorem dX10_init_127 : decode cX10_init 127 = .ok (.bipush (-9), 2) := by decide +kernel
theorem dX10_init_129 : decode cX10_init 129 = .ok (.iastore, 1) := by decide +kernel
theorem dX10_init_130 : decode cX10_init 130 = .ok (.iinc 1 1, 3) := by decide +kernel
theorem dX10_init_133 : decode cX10_init 133 = .ok (.goto (-17), 3) := by decide +kernel
theorem dX10_init_136 : decode cX10_init 136 = .ok (.iconst 0, 1) := by decide +kernel
theorem dX10_init_137 : decode cX10_init 137 = .ok (.istore_n 1, 1) := by decide +kernel
theorem dX10_init_138 : decode cX10_init 138 = .ok (.iload_n 1, 1) := by decide +kernel
theorem dX10_init_139 : decode cX10_init 139 = .ok (.iconst 4, 1) := by decide +kernel
theorem dX10_init_140 : decode cX10_init 140 = .ok (.if_icmp .ge 17, 3) := by decide +kernel
theorem dX10_init_143 : decode cX10_init 143 = .ok (.aload_n 0, 1) := by decide +kernel
theorem dX10_init_144 : decode cX10_init 144 = .ok (.getfield 28, 3) := by decide +kernel
theorem dX10_init_147 : decode cX10_init 147 = .ok (.iload_n 1, 1) := by decide +kernel
theorem dX10_init_148 : decode cX10_init 148 = .ok (.bipush (-9), 2) := by decide +kernel
theorem dX10_init_150 : decode cX10_init 150 = .ok (.iastore, 1) := by decide +kernel
theorem dX10_init_151 : decode cX10_init 151 = .ok (.iinc 1 1, 3) := by decide +kernel
theorem dX10_init_154 : decode cX10_init 154 = .ok (.goto (-16), 3) := by decide +kernel
theorem dX10_init_157 : decode cX10_init 157 = .ok (.aload_n 0, 1) := by decide +kernel
theorem dX10_init_158 : decode cX10_init 158 = .ok (.invokevirtual 53, 3) := by decide +kernel
theorem dX10_init_161 : decode cX10_init 161 = .ok (.aload_n 0, 1) := by decide +kernel
theorem dX10_init_162 : decode cX10_init 162 = .ok (.getfield 7, 3) := by decide +kernel
theorem dX10_init_165 : decode cX10_init 165 = .ok (.bipush 14, 2) := by decide +kernel
theorem dX10_init_167 : decode cX10_init 167 = .ok (.iconst 1, 1) := by decide +kernel
theorem dX10_init_168 : decode cX10_init 168 = .ok (.iastore, 1) := by decide +kernel
theorem dX10_init_169 : decode cX10_init 169 = .ok (.return_, 1) := by decide +kernel
theorem dX10_in_0 : decode cX10_in 0 = .ok (.iload_n 0, 1) := by decide +kernel
theorem dX10_in_1 : decode cX10_in 1 = .ok (.iload_n 1, 1) := by decide +kernel
theorem dX10_in_2 : decode cX10_in 2 = .ok (.if_icmp .lt 12, 3) := by decide +kernel
theorem dX10_in_5 : decode cX10_in 5 = .ok (.iload_n 0, 1) := by decide +kernel
theorem dX10_in_6 : decode cX10_in 6 = .ok (.iload_n 2, 1) := by decide +kernel
theorem dX10_in_7 : decode cX10_in 7 = .ok (.if_icmp .gt 7, 3) := by decide +kernel
theorem dX10_in_10 : decode cX10_in 10 = .ok (.iconst 1, 1) := by decide +kernel
theorem dX10_in_11 : decode cX10_in 11 = .ok (.goto 4, 3) := by decide +kernel
theorem dX10_in_14 : decode cX10_in 14 = .ok (.iconst 0, 1) := by decide +kernel
theorem dX10_in_15 : decode cX10_in 15 = .ok (.ireturn, 1) := by decide +kernel
theorem dX10_has_0 : decode cX10_has 0 = .ok (.iload_n 0, 1) := by decide +kernel
theorem dX10_has_1 : decode cX10_has 1 = .ok (.iload_n 1, 1) := by decide +kernel
theorem dX10_has_2 : decode cX10_has 2 = .ok (.ishr, 1) := by decide +kernel
theorem dX10_has_3 : decode cX10_has 3 = .ok (.iconst 1, 1) := by decide +kernel
theorem dX10_has_4 : decode cX10_has 4 = .ok (.iand, 1) := by decide +kernel
theorem dX10_has_5 : decode cX10_has 5 = .ok (.iconst 1, 1) := by decide +kernel
theorem dX10_has_6 : decode cX10_has 6 = .ok (.if_icmp .ne 7, 3) := by decide +kernel
theorem dX10_has_9 : decode cX10_has 9 = .ok (.iconst 1, 1) := by decide +kernel
theorem dX10_has_10 : decode cX10_has 10 = .ok (.goto 4, 3) := by decide +kernel
theorem dX10_has_13 : decode cX10_has 13 = .ok (.iconst 0, 1) := by decide +kernel
theorem dX10_has_14 : decode cX10_has 14 = .ok (.ireturn, 1) := by decide +kernel
theorem dX10_find_0 : decode cX10_find 0 = .ok (.aload_n 0, 1) := by decide +kernel
theorem dX10_find_1 : decode cX10_find 1 = .ok (.iload_n 1, 1) := by decide +kernel
theorem dX10_find_2 : decode cX10_find 2 = .ok (.putfield 56, 3) := by decide +kernel
theorem dX10_find_5 : decode cX10_find 5 = .ok (.aload_n 0, 1) := by decide +kernel
theorem dX10_find_6 : decode cX10_find 6 = .ok (.getfield 31, 3) := by decide +kernel
theorem dX10_find_9 : decode cX10_find 9 = .ok (.iload_n 1, 1) := by decide +kernel
theorem dX10_find_10 : decode cX10_find 10 = .ok (.dup2, 1) := by decide +kernel
theorem dX10_find_11 : decode cX10_find 11 = .ok (.iaload, 1) := by decide +kernel
theorem dX10_find_12 : decode cX10_find 12 = .ok (.iconst 1, 1) := by decide +kernel
theorem dX10_find_13 : decode cX10_find 13 = .ok (.iadd, 1) := by decide +kernel
theorem dX10_find_14 : decode cX10_find 14 = .ok (.iastore, 1) := by decide +kernel
theorem dX10_find_15 : decode cX10_find 15 = .ok (.bipush (-3), 2) := by decide +kernel
theorem dX10_find_17 : decode cX10_find 17 = .ok (.ireturn, 1) := by decide +kernel
theorem dX10_tell_0 : decode cX10_tell 0 = .ok (.aload_n 0, 1) := by decide +kernel
theorem dX10_tell_1 : decode cX10_tell 1 = .ok (.iload_n 1, 1) := by decide +kernel
theorem dX10_tell_2 : decode cX10_tell 2 = .ok (.putfield 60, 3) := by decide +kernel
theorem dX10_tell_5 : decode cX10_tell 5 = .ok (.iconst 1, 1) := by decide +kernel
theorem dX10_tell_6 : decode cX10_tell 6 = .ok (.ireturn, 1) := by decide +kernel
theorem dX10_forgetKept_0 : decode cX10_forgetKept 0 = .ok (.iconst 0, 1) := by decide +kernel
theorem dX10_forgetKept_1 : decode cX10_forgetKept 1 = .ok (.istore_n 1, 1) := by decide +kernel
theorem dX10_forgetKept_2 : decode cX10_forgetKept 2 = .ok (.iload_n 1, 1) := by decide +kernel
theorem dX10_forgetKept_3 : decode cX10_forgetKept 3 = .ok (.iconst 3, 1) := by decide +kernel
theorem dX10_forgetKept_4 : decode cX10_forgetKept 4 = .ok (.if_icmp .ge 17, 3) := by decide +kernel
theorem dX10_forgetKept_7 : decode cX10_forgetKept 7 = .ok (.aload_n 0, 1) := by decide +kernel
theorem dX10_forgetKept_8 : decode cX10_forgetKept 8 = .ok (.getfield 16, 3) := by decide +kernel
theorem dX10_forgetKept_11 : decode cX10_forgetKept 11 = .ok (.iload_n 1, 1) := by decide +kernel
theorem dX10_forgetKept_12 : decode cX10_forgetKept 12 = .ok (.bipush (-9), 2) := by decide +kernel
theorem dX10_forgetKept_14 : decode cX10_forgetKept 14 = .ok (.iastore, 1) := by decide +kernel
theorem dX10_forgetKept_15 : decode cX10_forgetKept 15 = .ok (.iinc 1 1, 3) := by decide +kernel
theorem dX10_forgetKept_18 : decode cX10_forgetKept 18 = .ok (.goto (-16), 3) := by decide +kernel
theorem dX10_forgetKept_21 : decode cX10_forgetKept 21 = .ok (.return_, 1) := by decide +kernel
theorem dX10_isRow_0 : decode cX10_isRow 0 = .ok (.iload_n 0, 1) := by decide +kernel
theorem dX10_isRow_1 : decode cX10_isRow 1 = .ok (.iconst 0, 1) := by decide +kernel
theorem dX10_isRow_2 : decode cX10_isRow 2 = .ok (.iconst 5, 1) := by decide +kernel
theorem dX10_isRow_3 : decode cX10_isRow 3 = .ok (.invokestatic 63, 3) := by decide +kernel
theorem dX10_isRow_6 : decode cX10_isRow 6 = .ok (.ireturn, 1) := by decide +kernel
theorem dX10_row_0 : decode cX10_row 0 = .ok (.iload_n 1, 1) := by decide +kernel
theorem dX10_row_1 : decode cX10_row 1 = .ok (.invokestatic 67, 3) := by decide +kernel
theorem dX10_row_4 : decode cX10_row 4 = .ok (.ifCond .eq 9, 3) := by decide +kernel
theorem dX10_row_7 : decode cX10_row 7 = .ok (.iload_n 2, 1) := by decide +kernel
theorem dX10_row_8 : decode cX10_row 8 = .ok (.bipush 40, 2) := by decide +kernel
theorem dX10_row_10 : decode cX10_row 10 = .ok (.if_icmp .le 5, 3) := by decide +kernel
theorem dX10_row_13 : decode cX10_row 13 = .ok (.iconst (-1), 1) := by decide +kernel
theorem dX10_row_14 : decode cX10_row 14 = .ok (.ireturn, 1) := by decide +kernel
theorem dX10_row_15 : decode cX10_row 15 = .ok (.iload_n 2, 1) := by decide +kernel
theorem dX10_row_16 : decode cX10_row 16 = .ok (.ifCond .ge 9, 3) := by decide +kernel
theorem dX10_row_19 : decode cX10_row 19 = .ok (.aload_n 0, 1) := by decide +kernel
theorem dX10_row_20 : decode cX10_row 20 = .ok (.iconst 5, 1) := by decide +kernel
theorem dX10_row_21 : decode cX10_row 21 = .ok (.invokevirtual 71, 3) := by decide +kernel
theorem dX10_row_24 : decode cX10_row 24 = .ok (.ireturn, 1) := by decide +kernel
theorem dX10_row_25 : decode cX10_row 25 = .ok (.iconst 0, 1) := by decide +kernel
theorem dX10_row_26 : decode cX10_row 26 = .ok (.istore_n 3, 1) := by decide +kernel
theorem dX10_row_27 : decode cX10_row 27 = .ok (.iload_n 3, 1) := by decide +kernel
theorem dX10_row_28 : decode cX10_row 28 = .ok (.iload_n 2, 1) := by decide +kernel
theorem dX10_row_29 : decode cX10_row 29 = .ok (.if_icmp .ge 21, 3) := by decide +kernel
theorem dX10_row_32 : decode cX10_row 32 = .ok (.aload_n 0, 1) := by decide +kernel
theorem dX10_row_33 : decode cX10_row 33 = .ok (.getfield 19, 3) := by decide +kernel
theorem dX10_row_36 : decode cX10_row 36 = .ok (.bipush 40, 2) := by decide +kernel
theorem dX10_row_38 : decode cX10_row 38 = .ok (.iload_n 1, 1) := by decide +kernel
theorem dX10_row_39 : decode cX10_row 39 = .ok (.imul, 1) := by decide +kernel
theorem dX10_row_40 : decode cX10_row 40 = .ok (.iload_n 3, 1) := by decide +kernel
theorem dX10_row_41 : decode cX10_row 41 = .ok (.iadd, 1) := by decide +kernel
theorem dX10_row_42 : decode cX10_row 42 = .ok (.iconst 0, 1) := by decide +kernel
theorem dX10_row_43 : decode cX10_row 43 = .ok (.iastore, 1) := by decide +kernel
theorem dX10_row_44 : decode cX10_row 44 = .ok (.iinc 3 1, 3) := by decide +kernel
theorem dX10_row_47 : decode cX10_row 47 = .ok (.goto (-20), 3) := by decide +kernel
theorem dX10_row_50 : decode cX10_row 50 = .ok (.aload_n 0, 1) := by decide +kernel
theorem dX10_row_51 : decode cX10_row 51 = .ok (.getfield 22, 3) := by decide +kernel
theorem dX10_row_54 : decode cX10_row 54 = .ok (.iload_n 1, 1) := by decide +kernel
theorem dX10_row_55 : decode cX10_row 55 = .ok (.iload_n 2, 1) := by decide +kernel
theorem dX10_row_56 : decode cX10_row 56 = .ok (.iastore, 1) := by decide +kernel
theorem dX10_row_57 : decode cX10_row 57 = .ok (.iload_n 2, 1) := by decide +kernel
theorem dX10_row_58 : decode cX10_row 58 = .ok (.ireturn, 1) := by decide +kernel
theorem dX10_wrongPlace_0 : decode cX10_wrongPlace 0 = .ok (.aload_n 0, 1) := by decide +kernel
theorem dX10_wrongPlace_1 : decode cX10_wrongPlace 1 = .ok (.getfield 22, 3) := by decide +kernel
theorem dX10_wrongPlace_4 : decode cX10_wrongPlace 4 = .ok (.iload_n 1, 1) := by decide +kernel
theorem dX10_wrongPlace_5 : decode cX10_wrongPlace 5 = .ok (.iaload, 1) := by decide +kernel
theorem dX10_wrongPlace_6 : decode cX10_wrongPlace 6 = .ok (.bipush (-9), 2) := by decide +kernel
theorem dX10_wrongPlace_8 : decode cX10_wrongPlace 8 = .ok (.if_icmp .ne 7, 3) := by decide +kernel
theorem dX10_wrongPlace_11 : decode cX10_wrongPlace 11 = .ok (.iconst 1, 1) := by decide +kernel
theorem dX10_wrongPlace_12 : decode cX10_wrongPlace 12 = .ok (.goto 24, 3) := by decide +kernel
theorem dX10_wrongPlace_15 : decode cX10_wrongPlace 15 = .ok (.iload_n 2, 1) := by decide +kernel
theorem dX10_wrongPlace_16 : decode cX10_wrongPlace 16 = .ok (.iconst 0, 1) := by decide +kernel
theorem dX10_wrongPlace_17 : decode cX10_wrongPlace 17 = .ok (.aload_n 0, 1) := by decide +kernel
theorem dX10_wrongPlace_18 : decode cX10_wrongPlace 18 = .ok (.getfield 22, 3) := by decide +kernel
theorem dX10_wrongPlace_21 : decode cX10_wrongPlace 21 = .ok (.iload_n 1, 1) := by decide +kernel
theorem dX10_wrongPlace_22 : decode cX10_wrongPlace 22 = .ok (.iaload, 1) := by decide +kernel
theorem dX10_wrongPlace_23 : decode cX10_wrongPlace 23 = .ok (.iconst 1, 1) := by decide +kernel
theorem dX10_wrongPlace_24 : decode cX10_wrongPlace 24 = .ok (.isub, 1) := by decide +kernel
theorem dX10_wrongPlace_25 : decode cX10_wrongPlace 25 = .ok (.invokestatic 63, 3) := by decide +kernel
theorem dX10_wrongPlace_28 : decode cX10_wrongPlace 28 = .ok (.ifCond .eq 7, 3) := by decide +kernel
theorem dX10_wrongPlace_31 : decode cX10_wrongPlace 31 = .ok (.iconst 0, 1) := by decide +kernel
theorem dX10_wrongPlace_32 : decode cX10_wrongPlace 32 = .ok (.goto 4, 3) := by decide +kernel
theorem dX10_wrongPlace_35 : decode cX10_wrongPlace 35 = .ok (.iconst 2, 1) := by decide +kernel
theorem dX10_wrongPlace_36 : decode cX10_wrongPlace 36 = .ok (.ireturn, 1) := by decide +kernel
theorem dX10_lay_0 : decode cX10_lay 0 = .ok (.iload_n 1, 1) := by decide +kernel
theorem dX10_lay_1 : decode cX10_lay 1 = .ok (.invokestatic 67, 3) := by decide +kernel
theorem dX10_lay_4 : decode cX10_lay 4 = .ok (.ifCond .ne 5, 3) := by decide +kernel
theorem dX10_lay_7 : decode cX10_lay 7 = .ok (.iconst (-1), 1) := by decide +kernel
theorem dX10_lay_8 : decode cX10_lay 8 = .ok (.ireturn, 1) := by decide +kernel
theorem dX10_lay_9 : decode cX10_lay 9 = .ok (.aload_n 0, 1) := by decide +kernel
theorem dX10_lay_10 : decode cX10_lay 10 = .ok (.iload_n 1, 1) := by decide +kernel
theorem dX10_lay_11 : decode cX10_lay 11 = .ok (.iload_n 2, 1) := by decide +kernel
theorem dX10_lay_12 : decode cX10_lay 12 = .ok (.invokevirtual 75, 3) := by decide +kernel
theorem dX10_lay_15 : decode cX10_lay 15 = .ok (.ifCond .le 14, 3) := by decide +kernel
theorem dX10_lay_18 : decode cX10_lay 18 = .ok (.aload_n 0, 1) := by decide +kernel
theorem dX10_lay_19 : decode cX10_lay 19 = .ok (.aload_n 0, 1) := by decide +kernel
theorem dX10_lay_20 : decode cX10_lay 20 = .ok (.iload_n 1, 1) := by decide +kernel
theorem dX10_lay_21 : decode cX10_lay 21 = .ok (.iload_n 2, 1) := by decide +kernel
theorem dX10_lay_22 : decode cX10_lay 22 = .ok (.invokevirtual 75, 3) := by decide +kernel
theorem dX10_lay_25 : decode cX10_lay 25 = .ok (.invokevirtual 71, 3) := by decide +kernel
theorem dX10_lay_28 : decode cX10_lay 28 = .ok (.ireturn, 1) := by decide +kernel
theorem dX10_lay_29 : decode cX10_lay 29 = .ok (.aload_n 0, 1) := by decide +kernel
theorem dX10_lay_30 : decode cX10_lay 30 = .ok (.getfield 19, 3) := by decide +kernel
theorem dX10_lay_33 : decode cX10_lay 33 = .ok (.bipush 40, 2) := by decide +kernel
theorem dX10_lay_35 : decode cX10_lay 35 = .ok (.iload_n 1, 1) := by decide +kernel
theorem dX10_lay_36 : decode cX10_lay 36 = .ok (.imul, 1) := by decide +kernel
theorem dX10_lay_37 : decode cX10_lay 37 = .ok (.iload_n 2, 1) := by decide +kernel
theorem dX10_lay_38 : decode cX10_lay 38 = .ok (.iadd, 1) := by decide +kernel
theorem dX10_lay_39 : decode cX10_lay 39 = .ok (.iaload, 1) := by decide +kernel
theorem dX10_lay_40 : decode cX10_lay 40 = .ok (.istore 4, 2) := by decide +kernel
theorem dX10_lay_42 : decode cX10_lay 42 = .ok (.aload_n 0, 1) := by decide +kernel
theorem dX10_lay_43 : decode cX10_lay 43 = .ok (.getfield 19, 3) := by decide +kernel
theorem dX10_lay_46 : decode cX10_lay 46 = .ok (.bipush 40, 2) := by decide +kernel
theorem dX10_lay_48 : decode cX10_lay 48 = .ok (.iload_n 1, 1) := by decide +kernel
theorem dX10_lay_49 : decode cX10_lay 49 = .ok (.imul, 1) := by decide +kernel
theorem dX10_lay_50 : decode cX10_lay 50 = .ok (.iload_n 2, 1) := by decide +kernel
theorem dX10_lay_51 : decode cX10_lay 51 = .ok (.iadd, 1) := by decide +kernel
theorem dX10_lay_52 : decode cX10_lay 52 = .ok (.iload_n 3, 1) := by decide +kernel
theorem dX10_lay_53 : decode cX10_lay 53 = .ok (.iastore, 1) := by decide +kernel
theorem dX10_lay_54 : decode cX10_lay 54 = .ok (.aload_n 0, 1) := by decide +kernel
theorem dX10_lay_55 : decode cX10_lay 55 = .ok (.iload 4, 2) := by decide +kernel
theorem dX10_lay_57 : decode cX10_lay 57 = .ok (.invokevirtual 79, 3) := by decide +kernel
theorem dX10_lay_60 : decode cX10_lay 60 = .ok (.ireturn, 1) := by decide +kernel
theorem dX10_at_0 : decode cX10_at 0 = .ok (.iload_n 1, 1) := by decide +kernel
theorem dX10_at_1 : decode cX10_at 1 = .ok (.invokestatic 67, 3) := by decide +kernel
theorem dX10_at_4 : decode cX10_at 4 = .ok (.ifCond .ne 5, 3) := by decide +kernel
theorem dX10_at_7 : decode cX10_at 7 = .ok (.iconst (-1), 1) := by decide +kernel
theorem dX10_at_8 : decode cX10_at 8 = .ok (.ireturn, 1) := by decide +kernel
theorem dX10_at_9 : decode cX10_at 9 = .ok (.aload_n 0, 1) := by decide +kernel
theorem dX10_at_10 : decode cX10_at 10 = .ok (.iload_n 1, 1) := by decide +kernel
theorem dX10_at_11 : decode cX10_at 11 = .ok (.iload_n 2, 1) := by decide +kernel
theorem dX10_at_12 : decode cX10_at 12 = .ok (.invokevirtual 75, 3) := by decide +kernel
theorem dX10_at_15 : decode cX10_at 15 = .ok (.ifCond .le 16, 3) := by decide +kernel
theorem dX10_at_18 : decode cX10_at 18 = .ok (.aload_n 0, 1) := by decide +kernel
theorem dX10_at_19 : decode cX10_at 19 = .ok (.aload_n 0, 1) := by decide +kernel
theorem dX10_at_20 : decode cX10_at 20 = .ok (.iload_n 1, 1) := by decide +kernel
theorem dX10_at_21 : decode cX10_at 21 = .ok (.iload_n 2, 1) := by decide +kernel
theorem dX10_at_22 : decode cX10_at 22 = .ok (.invokevirtual 75, 3) := by decide +kernel
theorem dX10_at_25 : decode cX10_at 25 = .ok (.invokevirtual 71, 3) := by decide +kernel
theorem dX10_at_28 : decode cX10_at 28 = .ok (.goto 18, 3) := by decide +kernel
theorem dX10_at_31 : decode cX10_at 31 = .ok (.aload_n 0, 1) := by decide +kernel
theorem dX10_at_32 : decode cX10_at 32 = .ok (.aload_n 0, 1) := by decide +kernel
theorem dX10_at_33 : decode cX10_at 33 = .ok (.getfield 19, 3) := by decide +kernel
theorem dX10_at_36 : decode cX10_at 36 = .ok (.bipush 40, 2) := by decide +kernel
theorem dX10_at_38 : decode cX10_at 38 = .ok (.iload_n 1, 1) := by decide +kernel
theorem dX10_at_39 : decode cX10_at 39 = .ok (.imul, 1) := by decide +kernel
theorem dX10_at_40 : decode cX10_at 40 = .ok (.iload_n 2, 1) := by decide +kernel
theorem dX10_at_41 : decode cX10_at 41 = .ok (.iadd, 1) := by decide +kernel
theorem dX10_at_42 : decode cX10_at 42 = .ok (.iaload, 1) := by decide +kernel
theorem dX10_at_43 : decode cX10_at 43 = .ok (.invokevirtual 79, 3) := by decide +kernel
theorem dX10_at_46 : decode cX10_at 46 = .ok (.ireturn, 1) := by decide +kernel
theorem dX10_tear_0 : decode cX10_tear 0 = .ok (.iload_n 1, 1) := by decide +kernel
theorem dX10_tear_1 : decode cX10_tear 1 = .ok (.invokestatic 67, 3) := by decide +kernel
theorem dX10_tear_4 : decode cX10_tear 4 = .ok (.ifCond .ne 5, 3) := by decide +kernel
theorem dX10_tear_7 : decode cX10_tear 7 = .ok (.iconst (-1), 1) := by decide +kernel
theorem dX10_tear_8 : decode cX10_tear 8 = .ok (.ireturn, 1) := by decide +kernel
theorem dX10_tear_9 : decode cX10_tear 9 = .ok (.aload_n 0, 1) := by decide +kernel
theorem dX10_tear_10 : decode cX10_tear 10 = .ok (.getfield 22, 3) := by decide +kernel
theorem dX10_tear_13 : decode cX10_tear 13 = .ok (.iload_n 1, 1) := by decide +kernel
theorem dX10_tear_14 : decode cX10_tear 14 = .ok (.iaload, 1) := by decide +kernel
theorem dX10_tear_15 : decode cX10_tear 15 = .ok (.bipush (-9), 2) := by decide +kernel
theorem dX10_tear_17 : decode cX10_tear 17 = .ok (.if_icmp .ne 9, 3) := by decide +kernel
theorem dX10_tear_20 : decode cX10_tear 20 = .ok (.aload_n 0, 1) := by decide +kernel
theorem dX10_tear_21 : decode cX10_tear 21 = .ok (.iconst 1, 1) := by decide +kernel
theorem dX10_tear_22 : decode cX10_tear 22 = .ok (.invokevirtual 71, 3) := by decide +kernel
theorem dX10_tear_25 : decode cX10_tear 25 = .ok (.ireturn, 1) := by decide +kernel
theorem dX10_tear_26 : decode cX10_tear 26 = .ok (.aload_n 0, 1) := by decide +kernel
theorem dX10_tear_27 : decode cX10_tear 27 = .ok (.getfield 22, 3) := by decide +kernel
theorem dX10_tear_30 : decode cX10_tear 30 = .ok (.iload_n 1, 1) := by decide +kernel
theorem dX10_tear_31 : decode cX10_tear 31 = .ok (.bipush (-9), 2) := by decide +kernel
theorem dX10_tear_33 : decode cX10_tear 33 = .ok (.iastore, 1) := by decide +kernel
theorem dX10_tear_34 : decode cX10_tear 34 = .ok (.iconst 1, 1) := by decide +kernel
theorem dX10_tear_35 : decode cX10_tear 35 = .ok (.ireturn, 1) := by decide +kernel
theorem dX10_copy_0 : decode cX10_copy 0 = .ok (.iload_n 1, 1) := by decide +kernel
theorem dX10_copy_1 : decode cX10_copy 1 = .ok (.invokestatic 67, 3) := by decide +kernel
theorem dX10_copy_4 : decode cX10_copy 4 = .ok (.ifCond .eq 10, 3) := by decide +kernel
theorem dX10_copy_7 : decode cX10_copy 7 = .ok (.iload_n 3, 1) := by decide +kernel
theorem dX10_copy_8 : decode cX10_copy 8 = .ok (.invokestatic 67, 3) := by decide +kernel
theorem dX10_copy_11 : decode cX10_copy 11 = .ok (.ifCond .ne 5, 3) := by decide +kernel
theorem dX10_copy_14 : decode cX10_copy 14 = .ok (.iconst (-1), 1) := by decide +kernel
theorem dX10_copy_15 : decode cX10_copy 15 = .ok (.ireturn, 1) := by decide +kernel
theorem dX10_copy_16 : decode cX10_copy 16 = .ok (.iload 5, 2) := by decide +kernel
theorem dX10_copy_18 : decode cX10_copy 18 = .ok (.ifCond .ge 9, 3) := by decide +kernel
theorem dX10_copy_21 : decode cX10_copy 21 = .ok (.aload_n 0, 1) := by decide +kernel
theorem dX10_copy_22 : decode cX10_copy 22 = .ok (.iconst 5, 1) := by decide +kernel
theorem dX10_copy_23 : decode cX10_copy 23 = .ok (.invokevirtual 71, 3) := by decide +kernel
theorem dX10_copy_26 : decode cX10_copy 26 = .ok (.ireturn, 1) := by decide +kernel
theorem dX10_copy_27 : decode cX10_copy 27 = .ok (.aload_n 0, 1) := by decide +kernel
theorem dX10_copy_28 : decode cX10_copy 28 = .ok (.getfield 22, 3) := by decide +kernel
theorem dX10_copy_31 : decode cX10_copy 31 = .ok (.iload_n 1, 1) := by decide +kernel
theorem dX10_copy_32 : decode cX10_copy 32 = .ok (.iaload, 1) := by decide +kernel
theorem dX10_copy_33 : decode cX10_copy 33 = .ok (.bipush (-9), 2) := by decide +kernel
theorem dX10_copy_35 : decode cX10_copy 35 = .ok (.if_icmp .eq 14, 3) := by decide +kernel
theorem dX10_copy_38 : decode cX10_copy 38 = .ok (.aload_n 0, 1) := by decide +kernel
theorem dX10_copy_39 : decode cX10_copy 39 = .ok (.getfield 22, 3) := by decide +kernel
theorem dX10_copy_42 : decode cX10_copy 42 = .ok (.iload_n 3, 1) := by decide +kernel
theorem dX10_copy_43 : decode cX10_copy 43 = .ok (.iaload, 1) := by decide +kernel
theorem dX10_copy_44 : decode cX10_copy 44 = .ok (.bipush (-9), 2) := by decide +kernel
theorem dX10_copy_46 : decode cX10_copy 46 = .ok (.if_icmp .ne 9, 3) := by decide +kernel
theorem dX10_copy_49 : decode cX10_copy 49 = .ok (.aload_n 0, 1) := by decide +kernel
theorem dX10_copy_50 : decode cX10_copy 50 = .ok (.iconst 1, 1) := by decide +kernel
theorem dX10_copy_51 : decode cX10_copy 51 = .ok (.invokevirtual 71, 3) := by decide +kernel
theorem dX10_copy_54 : decode cX10_copy 54 = .ok (.ireturn, 1) := by decide +kernel
theorem dX10_copy_55 : decode cX10_copy 55 = .ok (.iload 5, 2) := by decide +kernel
theorem dX10_copy_57 : decode cX10_copy 57 = .ok (.bipush 40, 2) := by decide +kernel
theorem dX10_copy_59 : decode cX10_copy 59 = .ok (.if_icmp .gt 38, 3) := by decide +kernel
theorem dX10_copy_62 : decode cX10_copy 62 = .ok (.iload_n 2, 1) := by decide +kernel
theorem dX10_copy_63 : decode cX10_copy 63 = .ok (.iconst 0, 1) := by decide +kernel
theorem dX10_copy_64 : decode cX10_copy 64 = .ok (.aload_n 0, 1) := by decide +kernel
theorem dX10_copy_65 : decode cX10_copy 65 = .ok (.getfield 22, 3) := by decide +kernel
theorem dX10_copy_68 : decode cX10_copy 68 = .ok (.iload_n 1, 1) := by decide +kernel
theorem dX10_copy_69 : decode cX10_copy 69 = .ok (.iaload, 1) := by decide +kernel
theorem dX10_copy_70 : decode cX10_copy 70 = .ok (.iload 5, 2) := by decide +kernel
theorem dX10_copy_72 : decode cX10_copy 72 = .ok (.isub, 1) := by decide +kernel
theorem dX10_copy_73 : decode cX10_copy 73 = .ok (.invokestatic 63, 3) := by decide +kernel
theorem dX10_copy_76 : decode cX10_copy 76 = .ok (.ifCond .eq 21, 3) := by decide +kernel
theorem dX10_copy_79 : decode cX10_copy 79 = .ok (.iload 4, 2) := by decide +kernel
theorem dX10_copy_81 : decode cX10_copy 81 = .ok (.iconst 0, 1) := by decide +kernel
theorem dX10_copy_82 : decode cX10_copy 82 = .ok (.aload_n 0, 1) := by decide +kernel
theorem dX10_copy_83 : decode cX10_copy 83 = .ok (.getfield 22, 3) := by decide +kernel
theorem dX10_copy_86 : decode cX10_copy 86 = .ok (.iload_n 3, 1) := by decide +kernel
theorem dX10_copy_87 : decode cX10_copy 87 = .ok (.iaload, 1) := by decide +kernel
theorem dX10_copy_88 : decode cX10_copy 88 = .ok (.iload 5, 2) := by decide +kernel
theorem dX10_copy_90 : decode cX10_copy 90 = .ok (.isub, 1) := by decide +kernel
theorem dX10_copy_91 : decode cX10_copy 91 = .ok (.invokestatic 63, 3) := by decide +kernel
theorem dX10_copy_94 : decode cX10_copy 94 = .ok (.ifCond .ne 9, 3) := by decide +kernel
theorem dX10_copy_97 : decode cX10_copy 97 = .ok (.aload_n 0, 1) := by decide +kernel
theorem dX10_copy_98 : decode cX10_copy 98 = .ok (.iconst 2, 1) := by decide +kernel
theorem dX10_copy_99 : decode cX10_copy 99 = .ok (.invokevirtual 71, 3) := by decide +kernel
theorem dX10_copy_102 : decode cX10_copy 102 = .ok (.ireturn, 1) := by decide +kernel
theorem dX10_copy_103 : decode cX10_copy 103 = .ok (.iload_n 1, 1) := by decide +kernel
theorem dX10_copy_104 : decode cX10_copy 104 = .ok (.iload_n 3, 1) := by decide +kernel
theorem dX10_copy_105 : decode cX10_copy 105 = .ok (.if_icmp .ne 13, 3) := by decide +kernel
theorem dX10_copy_108 : decode cX10_copy 108 = .ok (.iload_n 2, 1) := by decide +kernel
theorem dX10_copy_109 : decode cX10_copy 109 = .ok (.iload 4, 2) := by decide +kernel
theorem dX10_copy_111 : decode cX10_copy 111 = .ok (.if_icmp .ge 7, 3) := by decide +kernel
theorem dX10_copy_114 : decode cX10_copy 114 = .ok (.iconst 1, 1) := by decide +kernel
theorem dX10_copy_115 : decode cX10_copy 115 = .ok (.goto 4, 3) := by decide +kernel
theorem dX10_copy_118 : decode cX10_copy 118 = .ok (.iconst 0, 1) := by decide +kernel
theorem dX10_copy_119 : decode cX10_copy 119 = .ok (.istore 6, 2) := by decide +kernel
theorem dX10_copy_121 : decode cX10_copy 121 = .ok (.iconst 0, 1) := by decide +kernel
theorem dX10_copy_122 : decode cX10_copy 122 = .ok (.istore 7, 2) := by decide +kernel
theorem dX10_copy_124 : decode cX10_copy 124 = .ok (.iload 7, 2) := by decide +kernel
theorem dX10_copy_126 : decode cX10_copy 126 = .ok (.iload 5, 2) := by decide +kernel
theorem dX10_copy_128 : decode cX10_copy 128 = .ok (.if_icmp .ge 57, 3) := by decide +kernel
theorem dX10_copy_131 : decode cX10_copy 131 = .ok (.iload 6, 2) := by decide +kernel
theorem dX10_copy_133 : decode cX10_copy 133 = .ok (.ifCond .eq 13, 3) := by decide +kernel
theorem dX10_copy_136 : decode cX10_copy 136 = .ok (.iload 5, 2) := by decide +kernel
theorem dX10_copy_138 : decode cX10_copy 138 = .ok (.iconst 1, 1) := by decide +kernel
theorem dX10_copy_139 : decode cX10_copy 139 = .ok (.isub, 1) := by decide +kernel
theorem dX10_copy_140 : decode cX10_copy 140 = .ok (.iload 7, 2) := by decide +kernel
theorem dX10_copy_142 : decode cX10_copy 142 = .ok (.isub, 1) := by decide +kernel
theorem dX10_copy_143 : decode cX10_copy 143 = .ok (.goto 5, 3) := by decide +kernel
theorem dX10_copy_146 : decode cX10_copy 146 = .ok (.iload 7, 2) := by decide +kernel
theorem dX10_copy_148 : decode cX10_copy 148 = .ok (.istore 8, 2) := by decide +kernel
theorem dX10_copy_150 : decode cX10_copy 150 = .ok (.aload_n 0, 1) := by decide +kernel
theorem dX10_copy_151 : decode cX10_copy 151 = .ok (.getfield 19, 3) := by decide +kernel
theorem dX10_copy_154 : decode cX10_copy 154 = .ok (.bipush 40, 2) := by decide +kernel
theorem dX10_copy_156 : decode cX10_copy 156 = .ok (.iload_n 3, 1) := by decide +kernel
theorem dX10_copy_157 : decode cX10_copy 157 = .ok (.imul, 1) := by decide +kernel
theorem dX10_copy_158 : decode cX10_copy 158 = .ok (.iload 4, 2) := by decide +kernel
theorem dX10_copy_160 : decode cX10_copy 160 = .ok (.iadd, 1) := by decide +kernel
theorem dX10_copy_161 : decode cX10_copy 161 = .ok (.iload 8, 2) := by decide +kernel
theorem dX10_copy_163 : decode cX10_copy 163 = .ok (.iadd, 1) := by decide +kernel
theorem dX10_copy_164 : decode cX10_copy 164 = .ok (.aload_n 0, 1) := by decide +kernel
theorem dX10_copy_165 : decode cX10_copy 165 = .ok (.getfield 19, 3) := by decide +kernel
theorem dX10_copy_168 : decode cX10_copy 168 = .ok (.bipush 40, 2) := by decide +kernel
theorem dX10_copy_170 : decode cX10_copy 170 = .ok (.iload_n 1, 1) := by decide +kernel
theorem dX10_copy_171 : decode cX10_copy 171 = .ok (.imul, 1) := by decide +kernel
theorem dX10_copy_172 : decode cX10_copy 172 = .ok (.iload_n 2, 1) := by decide +kernel
theorem dX10_copy_173 : decode cX10_copy 173 = .ok (.iadd, 1) := by decide +kernel
theorem dX10_copy_174 : decode cX10_copy 174 = .ok (.iload 8, 2) := by decide +kernel
theorem dX10_copy_176 : decode cX10_copy 176 = .ok (.iadd, 1) := by decide +kernel
theorem dX10_copy_177 : decode cX10_copy 177 = .ok (.iaload, 1) := by decide +kernel
theorem dX10_copy_178 : decode cX10_copy 178 = .ok (.iastore, 1) := by decide +kernel
theorem dX10_copy_179 : decode cX10_copy 179 = .ok (.iinc 7 1, 3) := by decide +kernel
theorem dX10_copy_182 : decode cX10_copy 182 = .ok (.goto (-58), 3) := by decide +kernel
theorem dX10_copy_185 : decode cX10_copy 185 = .ok (.iconst 1, 1) := by decide +kernel
theorem dX10_copy_186 : decode cX10_copy 186 = .ok (.ireturn, 1) := by decide +kernel
theorem dX10_mean_0 : decode cX10_mean 0 = .ok (.iload_n 1, 1) := by decide +kernel
theorem dX10_mean_1 : decode cX10_mean 1 = .ok (.invokestatic 67, 3) := by decide +kernel
theorem dX10_mean_4 : decode cX10_mean 4 = .ok (.ifCond .ne 5, 3) := by decide +kernel
theorem dX10_mean_7 : decode cX10_mean 7 = .ok (.iconst (-1), 1) := by decide +kernel
theorem dX10_mean_8 : decode cX10_mean 8 = .ok (.ireturn, 1) := by decide +kernel
theorem dX10_mean_9 : decode cX10_mean 9 = .ok (.aload_n 0, 1) := by decide +kernel
theorem dX10_mean_10 : decode cX10_mean 10 = .ok (.getfield 22, 3) := by decide +kernel
theorem dX10_mean_13 : decode cX10_mean 13 = .ok (.iload_n 1, 1) := by decide +kernel
theorem dX10_mean_14 : decode cX10_mean 14 = .ok (.iaload, 1) := by decide +kernel
theorem dX10_mean_15 : decode cX10_mean 15 = .ok (.bipush (-9), 2) := by decide +kernel
theorem dX10_mean_17 : decode cX10_mean 17 = .ok (.if_icmp .ne 9, 3) := by decide +kernel
theorem dX10_mean_20 : decode cX10_mean 20 = .ok (.aload_n 0, 1) := by decide +kernel
theorem dX10_mean_21 : decode cX10_mean 21 = .ok (.iconst 1, 1) := by decide +kernel
theorem dX10_mean_22 : decode cX10_mean 22 = .ok (.invokevirtual 71, 3) := by decide +kernel
theorem dX10_mean_25 : decode cX10_mean 25 = .ok (.ireturn, 1) := by decide +kernel
theorem dX10_mean_26 : decode cX10_mean 26 = .ok (.aload_n 0, 1) := by decide +kernel
theorem dX10_mean_27 : decode cX10_mean 27 = .ok (.getfield 22, 3) := by decide +kernel
theorem dX10_mean_30 : decode cX10_mean 30 = .ok (.iload_n 1, 1) := by decide +kernel
theorem dX10_mean_31 : decode cX10_mean 31 = .ok (.iaload, 1) := by decide +kernel
theorem dX10_mean_32 : decode cX10_mean 32 = .ok (.ifCond .ne 9, 3) := by decide +kernel
theorem dX10_mean_35 : decode cX10_mean 35 = .ok (.aload_n 0, 1) := by decide +kernel
theorem dX10_mean_36 : decode cX10_mean 36 = .ok (.iconst 4, 1) := by decide +kernel
theorem dX10_mean_37 : decode cX10_mean 37 = .ok (.invokevirtual 71, 3) := by decide +kernel
theorem dX10_mean_40 : decode cX10_mean 40 = .ok (.ireturn, 1) := by decide +kernel
theorem dX10_mean_41 : decode cX10_mean 41 = .ok (.lconst 0, 1) := by decide +kernel
theorem dX10_mean_42 : decode cX10_mean 42 = .ok (.lstore_n 2, 1) := by decide +kernel
theorem dX10_mean_43 : decode cX10_mean 43 = .ok (.iconst 0, 1) := by decide +kernel
theorem dX10_mean_44 : decode cX10_mean 44 = .ok (.istore 4, 2) := by decide +kernel
theorem dX10_mean_46 : decode cX10_mean 46 = .ok (.iload 4, 2) := by decide +kernel
theorem dX10_mean_48 : decode cX10_mean 48 = .ok (.aload_n 0, 1) := by decide +kernel
theorem dX10_mean_49 : decode cX10_mean 49 = .ok (.getfield 22, 3) := by decide +kernel
theorem dX10_mean_52 : decode cX10_mean 52 = .ok (.iload_n 1, 1) := by decide +kernel
theorem dX10_mean_53 : decode cX10_mean 53 = .ok (.iaload, 1) := by decide +kernel
theorem dX10_mean_54 : decode cX10_mean 54 = .ok (.if_icmp .ge 25, 3) := by decide +kernel
theorem dX10_mean_57 : decode cX10_mean 57 = .ok (.lload_n 2, 1) := by decide +kernel
theorem dX10_mean_58 : decode cX10_mean 58 = .ok (.aload_n 0, 1) := by decide +kernel
theorem dX10_mean_59 : decode cX10_mean 59 = .ok (.getfield 19, 3) := by decide +kernel
theorem dX10_mean_62 : decode cX10_mean 62 = .ok (.bipush 40, 2) := by decide +kernel
theorem dX10_mean_64 : decode cX10_mean 64 = .ok (.iload_n 1, 1) := by decide +kernel
theorem dX10_mean_65 : decode cX10_mean 65 = .ok (.imul, 1) := by decide +kernel
theorem dX10_mean_66 : decode cX10_mean 66 = .ok (.iload 4, 2) := by decide +kernel
theorem dX10_mean_68 : decode cX10_mean 68 = .ok (.iadd, 1) := by decide +kernel
theorem dX10_mean_69 : decode cX10_mean 69 = .ok (.iaload, 1) := by decide +kernel
theorem dX10_mean_70 : decode cX10_mean 70 = .ok (.i2l, 1) := by decide +kernel
theorem dX10_mean_71 : decode cX10_mean 71 = .ok (.ladd, 1) := by decide +kernel
theorem dX10_mean_72 : decode cX10_mean 72 = .ok (.lstore_n 2, 1) := by decide +kernel
theorem dX10_mean_73 : decode cX10_mean 73 = .ok (.iinc 4 1, 3) := by decide +kernel
theorem dX10_mean_76 : decode cX10_mean 76 = .ok (.goto (-30), 3) := by decide +kernel
theorem dX10_mean_79 : decode cX10_mean 79 = .ok (.aload_n 0, 1) := by decide +kernel
theorem dX10_mean_80 : decode cX10_mean 80 = .ok (.lload_n 2, 1) := by decide +kernel
theorem dX10_mean_81 : decode cX10_mean 81 = .ok (.aload_n 0, 1) := by decide +kernel
theorem dX10_mean_82 : decode cX10_mean 82 = .ok (.getfield 22, 3) := by decide +kernel
theorem dX10_mean_85 : decode cX10_mean 85 = .ok (.iload_n 1, 1) := by decide +kernel
theorem dX10_mean_86 : decode cX10_mean 86 = .ok (.iaload, 1) := by decide +kernel
theorem dX10_mean_87 : decode cX10_mean 87 = .ok (.i2l, 1) := by decide +kernel
theorem dX10_mean_88 : decode cX10_mean 88 = .ok (.ldiv, 1) := by decide +kernel
theorem dX10_mean_89 : decode cX10_mean 89 = .ok (.l2i, 1) := by decide +kernel
theorem dX10_mean_90 : decode cX10_mean 90 = .ok (.invokevirtual 79, 3) := by decide +kernel
theorem dX10_mean_93 : decode cX10_mean 93 = .ok (.ireturn, 1) := by decide +kernel
theorem dX10_isText_0 : decode cX10_isText 0 = .ok (.iload_n 0, 1) := by decide +kernel
theorem dX10_isText_1 : decode cX10_isText 1 = .ok (.iconst 0, 1) := by decide +kernel
theorem dX10_isText_2 : decode cX10_isText 2 = .ok (.iconst 3, 1) := by decide +kernel
theorem dX10_isText_3 : decode cX10_isText 3 = .ok (.invokestatic 63, 3) := by decide +kernel
theorem dX10_isText_6 : decode cX10_isText 6 = .ok (.ireturn, 1) := by decide +kernel
theorem dX10_text_0 : decode cX10_text 0 = .ok (.iload_n 1, 1) := by decide +kernel
theorem dX10_text_1 : decode cX10_text 1 = .ok (.invokestatic 82, 3) := by decide +kernel
theorem dX10_text_4 : decode cX10_text 4 = .ok (.ifCond .eq 9, 3) := by decide +kernel
theorem dX10_text_7 : decode cX10_text 7 = .ok (.iload_n 2, 1) := by decide +kernel
theorem dX10_text_8 : decode cX10_text 8 = .ok (.bipush 60, 2) := by decide +kernel
theorem dX10_text_10 : decode cX10_text 10 = .ok (.if_icmp .le 5, 3) := by decide +kernel
theorem dX10_text_13 : decode cX10_text 13 = .ok (.iconst (-1), 1) := by decide +kernel
theorem dX10_text_14 : decode cX10_text 14 = .ok (.ireturn, 1) := by decide +kernel
theorem dX10_text_15 : decode cX10_text 15 = .ok (.iload_n 2, 1) := by decide +kernel
theorem dX10_text_16 : decode cX10_text 16 = .ok (.ifCond .ge 9, 3) := by decide +kernel
theorem dX10_text_19 : decode cX10_text 19 = .ok (.aload_n 0, 1) := by decide +kernel
theorem dX10_text_20 : decode cX10_text 20 = .ok (.iconst 5, 1) := by decide +kernel
theorem dX10_text_21 : decode cX10_text 21 = .ok (.invokevirtual 71, 3) := by decide +kernel
theorem dX10_text_24 : decode cX10_text 24 = .ok (.ireturn, 1) := by decide +kernel
theorem dX10_text_25 : decode cX10_text 25 = .ok (.iconst 0, 1) := by decide +kernel
theorem dX10_text_26 : decode cX10_text 26 = .ok (.istore_n 3, 1) := by decide +kernel
theorem dX10_text_27 : decode cX10_text 27 = .ok (.iload_n 3, 1) := by decide +kernel
theorem dX10_text_28 : decode cX10_text 28 = .ok (.iload_n 2, 1) := by decide +kernel
theorem dX10_text_29 : decode cX10_text 29 = .ok (.if_icmp .ge 22, 3) := by decide +kernel
theorem dX10_text_32 : decode cX10_text 32 = .ok (.aload_n 0, 1) := by decide +kernel
theorem dX10_text_33 : decode cX10_text 33 = .ok (.getfield 25, 3) := by decide +kernel
theorem dX10_text_36 : decode cX10_text 36 = .ok (.bipush 60, 2) := by decide +kernel
theorem dX10_text_38 : decode cX10_text 38 = .ok (.iload_n 1, 1) := by decide +kernel
theorem dX10_text_39 : decode cX10_text 39 = .ok (.imul, 1) := by decide +kernel
theorem dX10_text_40 : decode cX10_text 40 = .ok (.iload_n 3, 1) := by decide +kernel
theorem dX10_text_41 : decode cX10_text 41 = .ok (.iadd, 1) := by decide +kernel
theorem dX10_text_42 : decode cX10_text 42 = .ok (.bipush 32, 2) := by decide +kernel
theorem dX10_text_44 : decode cX10_text 44 = .ok (.iastore, 1) := by decide +kernel
theorem dX10_text_45 : decode cX10_text 45 = .ok (.iinc 3 1, 3) := by decide +kernel
theorem dX10_text_48 : decode cX10_text 48 = .ok (.goto (-21), 3) := by decide +kernel
theorem dX10_text_51 : decode cX10_text 51 = .ok (.aload_n 0, 1) := by decide +kernel
theorem dX10_text_52 : decode cX10_text 52 = .ok (.getfield 28, 3) := by decide +kernel
theorem dX10_text_55 : decode cX10_text 55 = .ok (.iload_n 1, 1) := by decide +kernel
theorem dX10_text_56 : decode cX10_text 56 = .ok (.iload_n 2, 1) := by decide +kernel
theorem dX10_text_57 : decode cX10_text 57 = .ok (.iastore, 1) := by decide +kernel
theorem dX10_text_58 : decode cX10_text 58 = .ok (.iload_n 2, 1) := by decide +kernel
theorem dX10_text_59 : decode cX10_text 59 = .ok (.ireturn, 1) := by decide +kernel
theorem dX10_put_0 : decode cX10_put 0 = .ok (.iload_n 1, 1) := by decide +kernel
theorem dX10_put_1 : decode cX10_put 1 = .ok (.invokestatic 82, 3) := by decide +kernel
theorem dX10_put_4 : decode cX10_put 4 = .ok (.ifCond .ne 5, 3) := by decide +kernel
theorem dX10_put_7 : decode cX10_put 7 = .ok (.iconst (-1), 1) := by decide +kernel
theorem dX10_put_8 : decode cX10_put 8 = .ok (.ireturn, 1) := by decide +kernel
theorem dX10_put_9 : decode cX10_put 9 = .ok (.aload_n 0, 1) := by decide +kernel
theorem dX10_put_10 : decode cX10_put 10 = .ok (.getfield 28, 3) := by decide +kernel
theorem dX10_put_13 : decode cX10_put 13 = .ok (.iload_n 1, 1) := by decide +kernel
theorem dX10_put_14 : decode cX10_put 14 = .ok (.iaload, 1) := by decide +kernel
theorem dX10_put_15 : decode cX10_put 15 = .ok (.bipush (-9), 2) := by decide +kernel
theorem dX10_put_17 : decode cX10_put 17 = .ok (.if_icmp .ne 9, 3) := by decide +kernel
theorem dX10_put_20 : decode cX10_put 20 = .ok (.aload_n 0, 1) := by decide +kernel
theorem dX10_put_21 : decode cX10_put 21 = .ok (.iconst 1, 1) := by decide +kernel
theorem dX10_put_22 : decode cX10_put 22 = .ok (.invokevirtual 71, 3) := by decide +kernel
theorem dX10_put_25 : decode cX10_put 25 = .ok (.ireturn, 1) := by decide +kernel
theorem dX10_put_26 : decode cX10_put 26 = .ok (.iload_n 2, 1) := by decide +kernel
theorem dX10_put_27 : decode cX10_put 27 = .ok (.iconst 0, 1) := by decide +kernel
theorem dX10_put_28 : decode cX10_put 28 = .ok (.aload_n 0, 1) := by decide +kernel
theorem dX10_put_29 : decode cX10_put 29 = .ok (.getfield 28, 3) := by decide +kernel
theorem dX10_put_32 : decode cX10_put 32 = .ok (.iload_n 1, 1) := by decide +kernel
theorem dX10_put_33 : decode cX10_put 33 = .ok (.iaload, 1) := by decide +kernel
theorem dX10_put_34 : decode cX10_put 34 = .ok (.iconst 1, 1) := by decide +kernel
theorem dX10_put_35 : decode cX10_put 35 = .ok (.isub, 1) := by decide +kernel
theorem dX10_put_36 : decode cX10_put 36 = .ok (.invokestatic 63, 3) := by decide +kernel
theorem dX10_put_39 : decode cX10_put 39 = .ok (.ifCond .ne 9, 3) := by decide +kernel
theorem dX10_put_42 : decode cX10_put 42 = .ok (.aload_n 0, 1) := by decide +kernel
theorem dX10_put_43 : decode cX10_put 43 = .ok (.iconst 2, 1) := by decide +kernel
theorem dX10_put_44 : decode cX10_put 44 = .ok (.invokevirtual 71, 3) := by decide +kernel
theorem dX10_put_47 : decode cX10_put 47 = .ok (.ireturn, 1) := by decide +kernel
theorem dX10_put_48 : decode cX10_put 48 = .ok (.aload_n 0, 1) := by decide +kernel
theorem dX10_put_49 : decode cX10_put 49 = .ok (.getfield 25, 3) := by decide +kernel
theorem dX10_put_52 : decode cX10_put 52 = .ok (.bipush 60, 2) := by decide +kernel
theorem dX10_put_54 : decode cX10_put 54 = .ok (.iload_n 1, 1) := by decide +kernel
theorem dX10_put_55 : decode cX10_put 55 = .ok (.imul, 1) := by decide +kernel
theorem dX10_put_56 : decode cX10_put 56 = .ok (.iload_n 2, 1) := by decide +kernel
theorem dX10_put_57 : decode cX10_put 57 = .ok (.iadd, 1) := by decide +kernel
theorem dX10_put_58 : decode cX10_put 58 = .ok (.iaload, 1) := by decide +kernel
theorem dX10_put_59 : decode cX10_put 59 = .ok (.istore 4, 2) := by decide +kernel
theorem dX10_put_61 : decode cX10_put 61 = .ok (.aload_n 0, 1) := by decide +kernel
theorem dX10_put_62 : decode cX10_put 62 = .ok (.getfield 25, 3) := by decide +kernel
theorem dX10_put_65 : decode cX10_put 65 = .ok (.bipush 60, 2) := by decide +kernel
theorem dX10_put_67 : decode cX10_put 67 = .ok (.iload_n 1, 1) := by decide +kernel
theorem dX10_put_68 : decode cX10_put 68 = .ok (.imul, 1) := by decide +kernel
theorem dX10_put_69 : decode cX10_put 69 = .ok (.iload_n 2, 1) := by decide +kernel
theorem dX10_put_70 : decode cX10_put 70 = .ok (.iadd, 1) := by decide +kernel
theorem dX10_put_71 : decode cX10_put 71 = .ok (.iload_n 3, 1) := by decide +kernel
theorem dX10_put_72 : decode cX10_put 72 = .ok (.i2b, 1) := by decide +kernel
theorem dX10_put_73 : decode cX10_put 73 = .ok (.iastore, 1) := by decide +kernel
theorem dX10_put_74 : decode cX10_put 74 = .ok (.iload 4, 2) := by decide +kernel
theorem dX10_put_76 : decode cX10_put 76 = .ok (.sipush 1000, 3) := by decide +kernel
theorem dX10_put_79 : decode cX10_put 79 = .ok (.iadd, 1) := by decide +kernel
theorem dX10_put_80 : decode cX10_put 80 = .ok (.ireturn, 1) := by decide +kernel
theorem dX10_letterAt_0 : decode cX10_letterAt 0 = .ok (.iload_n 2, 1) := by decide +kernel
theorem dX10_letterAt_1 : decode cX10_letterAt 1 = .ok (.aload_n 0, 1) := by decide +kernel
theorem dX10_letterAt_2 : decode cX10_letterAt 2 = .ok (.getfield 28, 3) := by decide +kernel
theorem dX10_letterAt_5 : decode cX10_letterAt 5 = .ok (.iload_n 1, 1) := by decide +kernel
theorem dX10_letterAt_6 : decode cX10_letterAt 6 = .ok (.iaload, 1) := by decide +kernel
theorem dX10_letterAt_7 : decode cX10_letterAt 7 = .ok (.if_icmp .ge 17, 3) := by decide +kernel
theorem dX10_letterAt_10 : decode cX10_letterAt 10 = .ok (.aload_n 0, 1) := by decide +kernel
theorem dX10_letterAt_11 : decode cX10_letterAt 11 = .ok (.getfield 25, 3) := by decide +kernel
theorem dX10_letterAt_14 : decode cX10_letterAt 14 = .ok (.bipush 60, 2) := by decide +kernel
theorem dX10_letterAt_16 : decode cX10_letterAt 16 = .ok (.iload_n 1, 1) := by decide +kernel
theorem dX10_letterAt_17 : decode cX10_letterAt 17 = .ok (.imul, 1) := by decide +kernel
theorem dX10_letterAt_18 : decode cX10_letterAt 18 = .ok (.iload_n 2, 1) := by decide +kernel
theorem dX10_letterAt_19 : decode cX10_letterAt 19 = .ok (.iadd, 1) := by decide +kernel
theorem dX10_letterAt_20 : decode cX10_letterAt 20 = .ok (.iaload, 1) := by decide +kernel
theorem dX10_letterAt_21 : decode cX10_letterAt 21 = .ok (.goto 5, 3) := by decide +kernel
theorem dX10_letterAt_24 : decode cX10_letterAt 24 = .ok (.bipush (-9), 2) := by decide +kernel
theorem dX10_letterAt_26 : decode cX10_letterAt 26 = .ok (.ireturn, 1) := by decide +kernel
theorem dX10_isFigure_0 : decode cX10_isFigure 0 = .ok (.aload_n 0, 1) := by decide +kernel
theorem dX10_isFigure_1 : decode cX10_isFigure 1 = .ok (.iload_n 1, 1) := by decide +kernel
theorem dX10_isFigure_2 : decode cX10_isFigure 2 = .ok (.iload_n 2, 1) := by decide +kernel
theorem dX10_isFigure_3 : decode cX10_isFigure 3 = .ok (.invokevirtual 85, 3) := by decide +kernel
theorem dX10_isFigure_6 : decode cX10_isFigure 6 = .ok (.bipush 48, 2) := by decide +kernel
theorem dX10_isFigure_8 : decode cX10_isFigure 8 = .ok (.bipush 57, 2) := by decide +kernel
theorem dX10_isFigure_10 : decode cX10_isFigure 10 = .ok (.invokestatic 63, 3) := by decide +kernel
theorem dX10_isFigure_13 : decode cX10_isFigure 13 = .ok (.ireturn, 1) := by decide +kernel
theorem dX10_figure_0 : decode cX10_figure 0 = .ok (.aload_n 0, 1) := by decide +kernel
theorem dX10_figure_1 : decode cX10_figure 1 = .ok (.iload_n 1, 1) := by decide +kernel
theorem dX10_figure_2 : decode cX10_figure 2 = .ok (.iload_n 2, 1) := by decide +kernel
theorem dX10_figure_3 : decode cX10_figure 3 = .ok (.invokevirtual 85, 3) := by decide +kernel
theorem dX10_figure_6 : decode cX10_figure 6 = .ok (.bipush 48, 2) := by decide +kernel
theorem dX10_figure_8 : decode cX10_figure 8 = .ok (.isub, 1) := by decide +kernel
theorem dX10_figure_9 : decode cX10_figure 9 = .ok (.ireturn, 1) := by decide +kernel
theorem dX10_skipBlanks_0 : decode cX10_skipBlanks 0 = .ok (.aload_n 0, 1) := by decide +kernel
theorem dX10_skipBlanks_1 : decode cX10_skipBlanks 1 = .ok (.iload_n 1, 1) := by decide +kernel
theorem dX10_skipBlanks_2 : decode cX10_skipBlanks 2 = .ok (.aload_n 0, 1) := by decide +kernel
theorem dX10_skipBlanks_3 : decode cX10_skipBlanks 3 = .ok (.getfield 88, 3) := by decide +kernel
theorem dX10_skipBlanks_6 : decode cX10_skipBlanks 6 = .ok (.invokevirtual 85, 3) := by decide +kernel
theorem dX10_skipBlanks_9 : decode cX10_skipBlanks 9 = .ok (.bipush 32, 2) := by decide +kernel
theorem dX10_skipBlanks_11 : decode cX10_skipBlanks 11 = .ok (.if_icmp .ne 16, 3) := by decide +kernel
theorem dX10_skipBlanks_14 : decode cX10_skipBlanks 14 = .ok (.aload_n 0, 1) := by decide +kernel
theorem dX10_skipBlanks_15 : decode cX10_skipBlanks 15 = .ok (.dup, 1) := by decide +kernel
theorem dX10_skipBlanks_16 : decode cX10_skipBlanks 16 = .ok (.getfield 88, 3) := by decide +kernel
