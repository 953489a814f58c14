theorem dX10_skipBlanks_19 : decode cX10_skipBlanks 19 = .ok (.iconst 1, 1) := by decide +kernel
theorem dX10_skipBlanks_20 : decode cX10_skipBlanks 20 = .ok (.iadd, 1) := by decide +kernel
theorem dX10_skipBlanks_21 : decode cX10_skipBlanks 21 = .ok (.putfield 88, 3) := by decide +kernel
theorem dX10_skipBlanks_24 : decode cX10_skipBlanks 24 = .ok (.goto (-24), 3) := by decide +kernel
theorem dX10_skipBlanks_27 : decode cX10_skipBlanks 27 = .ok (.return_, 1) := by decide +kernel
theorem dX10_kindOf_0 : decode cX10_kindOf 0 = .ok (.iload_n 0, 1) := by decide +kernel
theorem dX10_kindOf_1 : decode cX10_kindOf 1 = .ok (.lookupswitch 71 #[(98, 61), (103, 63), (105, 67), (108, 69), (112, 59), (119, 65)], 59) := by decide +kernel
theorem dX10_kindOf_60 : decode cX10_kindOf 60 = .ok (.iconst 0, 1) := by decide +kernel
theorem dX10_kindOf_61 : decode cX10_kindOf 61 = .ok (.ireturn, 1) := by decide +kernel
theorem dX10_kindOf_62 : decode cX10_kindOf 62 = .ok (.iconst 1, 1) := by decide +kernel
theorem dX10_kindOf_63 : decode cX10_kindOf 63 = .ok (.ireturn, 1) := by decide +kernel
theorem dX10_kindOf_64 : decode cX10_kindOf 64 = .ok (.iconst 2, 1) := by decide +kernel
theorem dX10_kindOf_65 : decode cX10_kindOf 65 = .ok (.ireturn, 1) := by decide +kernel
theorem dX10_kindOf_66 : decode cX10_kindOf 66 = .ok (.iconst 3, 1) := by decide +kernel
theorem dX10_kindOf_67 : decode cX10_kindOf 67 = .ok (.ireturn, 1) := by decide +kernel
theorem dX10_kindOf_68 : decode cX10_kindOf 68 = .ok (.iconst 4, 1) := by decide +kernel
theorem dX10_kindOf_69 : decode cX10_kindOf 69 = .ok (.ireturn, 1) := by decide +kernel
theorem dX10_kindOf_70 : decode cX10_kindOf 70 = .ok (.iconst 5, 1) := by decide +kernel
theorem dX10_kindOf_71 : decode cX10_kindOf 71 = .ok (.ireturn, 1) := by decide +kernel
theorem dX10_kindOf_72 : decode cX10_kindOf 72 = .ok (.bipush (-9), 2) := by decide +kernel
theorem dX10_kindOf_74 : decode cX10_kindOf 74 = .ok (.ireturn, 1) := by decide +kernel
theorem dX10_readOne_0 : decode cX10_readOne 0 = .ok (.aload_n 0, 1) := by decide +kernel
theorem dX10_readOne_1 : decode cX10_readOne 1 = .ok (.iload_n 1, 1) := by decide +kernel
theorem dX10_readOne_2 : decode cX10_readOne 2 = .ok (.aload_n 0, 1) := by decide +kernel
theorem dX10_readOne_3 : decode cX10_readOne 3 = .ok (.getfield 88, 3) := by decide +kernel
theorem dX10_readOne_6 : decode cX10_readOne 6 = .ok (.invokevirtual 85, 3) := by decide +kernel
theorem dX10_readOne_9 : decode cX10_readOne 9 = .ok (.invokestatic 91, 3) := by decide +kernel
theorem dX10_readOne_12 : decode cX10_readOne 12 = .ok (.istore_n 2, 1) := by decide +kernel
theorem dX10_readOne_13 : decode cX10_readOne 13 = .ok (.iload_n 2, 1) := by decide +kernel
theorem dX10_readOne_14 : decode cX10_readOne 14 = .ok (.bipush (-9), 2) := by decide +kernel
theorem dX10_readOne_16 : decode cX10_readOne 16 = .ok (.if_icmp .eq 12, 3) := by decide +kernel
theorem dX10_readOne_19 : decode cX10_readOne 19 = .ok (.aload_n 0, 1) := by decide +kernel
theorem dX10_readOne_20 : decode cX10_readOne 20 = .ok (.getfield 94, 3) := by decide +kernel
theorem dX10_readOne_23 : decode cX10_readOne 23 = .ok (.bipush 6, 2) := by decide +kernel
theorem dX10_readOne_25 : decode cX10_readOne 25 = .ok (.if_icmp .ne 8, 3) := by decide +kernel
theorem dX10_readOne_28 : decode cX10_readOne 28 = .ok (.aload_n 0, 1) := by decide +kernel
theorem dX10_readOne_29 : decode cX10_readOne 29 = .ok (.getfield 88, 3) := by decide +kernel
theorem dX10_readOne_32 : decode cX10_readOne 32 = .ok (.ireturn, 1) := by decide +kernel
theorem dX10_readOne_33 : decode cX10_readOne 33 = .ok (.iconst 1, 1) := by decide +kernel
theorem dX10_readOne_34 : decode cX10_readOne 34 = .ok (.istore_n 3, 1) := by decide +kernel
theorem dX10_readOne_35 : decode cX10_readOne 35 = .ok (.iload_n 3, 1) := by decide +kernel
theorem dX10_readOne_36 : decode cX10_readOne 36 = .ok (.iconst 3, 1) := by decide +kernel
theorem dX10_readOne_37 : decode cX10_readOne 37 = .ok (.if_icmp .gt 30, 3) := by decide +kernel
theorem dX10_readOne_40 : decode cX10_readOne 40 = .ok (.aload_n 0, 1) := by decide +kernel
theorem dX10_readOne_41 : decode cX10_readOne 41 = .ok (.iload_n 1, 1) := by decide +kernel
theorem dX10_readOne_42 : decode cX10_readOne 42 = .ok (.aload_n 0, 1) := by decide +kernel
theorem dX10_readOne_43 : decode cX10_readOne 43 = .ok (.getfield 88, 3) := by decide +kernel
theorem dX10_readOne_46 : decode cX10_readOne 46 = .ok (.iload_n 3, 1) := by decide +kernel
theorem dX10_readOne_47 : decode cX10_readOne 47 = .ok (.iadd, 1) := by decide +kernel
theorem dX10_readOne_48 : decode cX10_readOne 48 = .ok (.invokevirtual 97, 3) := by decide +kernel
theorem dX10_readOne_51 : decode cX10_readOne 51 = .ok (.ifCond .ne 10, 3) := by decide +kernel
theorem dX10_readOne_54 : decode cX10_readOne 54 = .ok (.aload_n 0, 1) := by decide +kernel
theorem dX10_readOne_55 : decode cX10_readOne 55 = .ok (.getfield 88, 3) := by decide +kernel
theorem dX10_readOne_58 : decode cX10_readOne 58 = .ok (.iload_n 3, 1) := by decide +kernel
theorem dX10_readOne_59 : decode cX10_readOne 59 = .ok (.iadd, 1) := by decide +kernel
theorem dX10_readOne_60 : decode cX10_readOne 60 = .ok (.ireturn, 1) := by decide +kernel
theorem dX10_readOne_61 : decode cX10_readOne 61 = .ok (.iinc 3 1, 3) := by decide +kernel
theorem dX10_readOne_64 : decode cX10_readOne 64 = .ok (.goto (-29), 3) := by decide +kernel
theorem dX10_readOne_67 : decode cX10_readOne 67 = .ok (.bipush 10, 2) := by decide +kernel
theorem dX10_readOne_69 : decode cX10_readOne 69 = .ok (.aload_n 0, 1) := by decide +kernel
theorem dX10_readOne_70 : decode cX10_readOne 70 = .ok (.iload_n 1, 1) := by decide +kernel
theorem dX10_readOne_71 : decode cX10_readOne 71 = .ok (.aload_n 0, 1) := by decide +kernel
theorem dX10_readOne_72 : decode cX10_readOne 72 = .ok (.getfield 88, 3) := by decide +kernel
theorem dX10_readOne_75 : decode cX10_readOne 75 = .ok (.iconst 2, 1) := by decide +kernel
theorem dX10_readOne_76 : decode cX10_readOne 76 = .ok (.iadd, 1) := by decide +kernel
theorem dX10_readOne_77 : decode cX10_readOne 77 = .ok (.invokevirtual 101, 3) := by decide +kernel
theorem dX10_readOne_80 : decode cX10_readOne 80 = .ok (.imul, 1) := by decide +kernel
theorem dX10_readOne_81 : decode cX10_readOne 81 = .ok (.aload_n 0, 1) := by decide +kernel
theorem dX10_readOne_82 : decode cX10_readOne 82 = .ok (.iload_n 1, 1) := by decide +kernel
theorem dX10_readOne_83 : decode cX10_readOne 83 = .ok (.aload_n 0, 1) := by decide +kernel
theorem dX10_readOne_84 : decode cX10_readOne 84 = .ok (.getfield 88, 3) := by decide +kernel
theorem dX10_readOne_87 : decode cX10_readOne 87 = .ok (.iconst 3, 1) := by decide +kernel
theorem dX10_readOne_88 : decode cX10_readOne 88 = .ok (.iadd, 1) := by decide +kernel
theorem dX10_readOne_89 : decode cX10_readOne 89 = .ok (.invokevirtual 101, 3) := by decide +kernel
theorem dX10_readOne_92 : decode cX10_readOne 92 = .ok (.iadd, 1) := by decide +kernel
theorem dX10_readOne_93 : decode cX10_readOne 93 = .ok (.istore_n 3, 1) := by decide +kernel
theorem dX10_readOne_94 : decode cX10_readOne 94 = .ok (.iload_n 3, 1) := by decide +kernel
theorem dX10_readOne_95 : decode cX10_readOne 95 = .ok (.bipush 30, 2) := by decide +kernel
theorem dX10_readOne_97 : decode cX10_readOne 97 = .ok (.if_icmp .le 10, 3) := by decide +kernel
theorem dX10_readOne_100 : decode cX10_readOne 100 = .ok (.aload_n 0, 1) := by decide +kernel
theorem dX10_readOne_101 : decode cX10_readOne 101 = .ok (.getfield 88, 3) := by decide +kernel
theorem dX10_readOne_104 : decode cX10_readOne 104 = .ok (.iconst 2, 1) := by decide +kernel
theorem dX10_readOne_105 : decode cX10_readOne 105 = .ok (.iadd, 1) := by decide +kernel
theorem dX10_readOne_106 : decode cX10_readOne 106 = .ok (.ireturn, 1) := by decide +kernel
theorem dX10_readOne_107 : decode cX10_readOne 107 = .ok (.aload_n 0, 1) := by decide +kernel
theorem dX10_readOne_108 : decode cX10_readOne 108 = .ok (.getfield 38, 3) := by decide +kernel
theorem dX10_readOne_111 : decode cX10_readOne 111 = .ok (.aload_n 0, 1) := by decide +kernel
theorem dX10_readOne_112 : decode cX10_readOne 112 = .ok (.getfield 94, 3) := by decide +kernel
theorem dX10_readOne_115 : decode cX10_readOne 115 = .ok (.iload_n 2, 1) := by decide +kernel
theorem dX10_readOne_116 : decode cX10_readOne 116 = .ok (.iastore, 1) := by decide +kernel
theorem dX10_readOne_117 : decode cX10_readOne 117 = .ok (.aload_n 0, 1) := by decide +kernel
theorem dX10_readOne_118 : decode cX10_readOne 118 = .ok (.getfield 41, 3) := by decide +kernel
theorem dX10_readOne_121 : decode cX10_readOne 121 = .ok (.aload_n 0, 1) := by decide +kernel
theorem dX10_readOne_122 : decode cX10_readOne 122 = .ok (.getfield 94, 3) := by decide +kernel
theorem dX10_readOne_125 : decode cX10_readOne 125 = .ok (.aload_n 0, 1) := by decide +kernel
theorem dX10_readOne_126 : decode cX10_readOne 126 = .ok (.iload_n 1, 1) := by decide +kernel
theorem dX10_readOne_127 : decode cX10_readOne 127 = .ok (.aload_n 0, 1) := by decide +kernel
theorem dX10_readOne_128 : decode cX10_readOne 128 = .ok (.getfield 88, 3) := by decide +kernel
theorem dX10_readOne_131 : decode cX10_readOne 131 = .ok (.iconst 1, 1) := by decide +kernel
theorem dX10_readOne_132 : decode cX10_readOne 132 = .ok (.iadd, 1) := by decide +kernel
theorem dX10_readOne_133 : decode cX10_readOne 133 = .ok (.invokevirtual 101, 3) := by decide +kernel
theorem dX10_readOne_136 : decode cX10_readOne 136 = .ok (.iastore, 1) := by decide +kernel
theorem dX10_readOne_137 : decode cX10_readOne 137 = .ok (.aload_n 0, 1) := by decide +kernel
theorem dX10_readOne_138 : decode cX10_readOne 138 = .ok (.getfield 44, 3) := by decide +kernel
theorem dX10_readOne_141 : decode cX10_readOne 141 = .ok (.aload_n 0, 1) := by decide +kernel
theorem dX10_readOne_142 : decode cX10_readOne 142 = .ok (.getfield 94, 3) := by decide +kernel
theorem dX10_readOne_145 : decode cX10_readOne 145 = .ok (.iload_n 3, 1) := by decide +kernel
theorem dX10_readOne_146 : decode cX10_readOne 146 = .ok (.iastore, 1) := by decide +kernel
theorem dX10_readOne_147 : decode cX10_readOne 147 = .ok (.aload_n 0, 1) := by decide +kernel
theorem dX10_readOne_148 : decode cX10_readOne 148 = .ok (.dup, 1) := by decide +kernel
theorem dX10_readOne_149 : decode cX10_readOne 149 = .ok (.getfield 94, 3) := by decide +kernel
theorem dX10_readOne_152 : decode cX10_readOne 152 = .ok (.iconst 1, 1) := by decide +kernel
theorem dX10_readOne_153 : decode cX10_readOne 153 = .ok (.iadd, 1) := by decide +kernel
theorem dX10_readOne_154 : decode cX10_readOne 154 = .ok (.putfield 94, 3) := by decide +kernel
theorem dX10_readOne_157 : decode cX10_readOne 157 = .ok (.aload_n 0, 1) := by decide +kernel
theorem dX10_readOne_158 : decode cX10_readOne 158 = .ok (.dup, 1) := by decide +kernel
theorem dX10_readOne_159 : decode cX10_readOne 159 = .ok (.getfield 88, 3) := by decide +kernel
theorem dX10_readOne_162 : decode cX10_readOne 162 = .ok (.iconst 4, 1) := by decide +kernel
theorem dX10_readOne_163 : decode cX10_readOne 163 = .ok (.iadd, 1) := by decide +kernel
theorem dX10_readOne_164 : decode cX10_readOne 164 = .ok (.putfield 88, 3) := by decide +kernel
theorem dX10_readOne_167 : decode cX10_readOne 167 = .ok (.bipush (-9), 2) := by decide +kernel
theorem dX10_readOne_169 : decode cX10_readOne 169 = .ok (.ireturn, 1) := by decide +kernel
theorem dX10_faultOf_0 : decode cX10_faultOf 0 = .ok (.aload_n 0, 1) := by decide +kernel
theorem dX10_faultOf_1 : decode cX10_faultOf 1 = .ok (.iconst 0, 1) := by decide +kernel
theorem dX10_faultOf_2 : decode cX10_faultOf 2 = .ok (.putfield 88, 3) := by decide +kernel
theorem dX10_faultOf_5 : decode cX10_faultOf 5 = .ok (.aload_n 0, 1) := by decide +kernel
theorem dX10_faultOf_6 : decode cX10_faultOf 6 = .ok (.iconst 0, 1) := by decide +kernel
theorem dX10_faultOf_7 : decode cX10_faultOf 7 = .ok (.putfield 94, 3) := by decide +kernel
theorem dX10_faultOf_10 : decode cX10_faultOf 10 = .ok (.aload_n 0, 1) := by decide +kernel
theorem dX10_faultOf_11 : decode cX10_faultOf 11 = .ok (.iload_n 1, 1) := by decide +kernel
theorem dX10_faultOf_12 : decode cX10_faultOf 12 = .ok (.invokevirtual 104, 3) := by decide +kernel
theorem dX10_faultOf_15 : decode cX10_faultOf 15 = .ok (.aload_n 0, 1) := by decide +kernel
theorem dX10_faultOf_16 : decode cX10_faultOf 16 = .ok (.iload_n 1, 1) := by decide +kernel
theorem dX10_faultOf_17 : decode cX10_faultOf 17 = .ok (.aload_n 0, 1) := by decide +kernel
theorem dX10_faultOf_18 : decode cX10_faultOf 18 = .ok (.getfield 88, 3) := by decide +kernel
theorem dX10_faultOf_21 : decode cX10_faultOf 21 = .ok (.invokevirtual 85, 3) := by decide +kernel
theorem dX10_faultOf_24 : decode cX10_faultOf 24 = .ok (.bipush 100, 2) := by decide +kernel
theorem dX10_faultOf_26 : decode cX10_faultOf 26 = .ok (.if_icmp .eq 8, 3) := by decide +kernel
theorem dX10_faultOf_29 : decode cX10_faultOf 29 = .ok (.aload_n 0, 1) := by decide +kernel
theorem dX10_faultOf_30 : decode cX10_faultOf 30 = .ok (.getfield 88, 3) := by decide +kernel
theorem dX10_faultOf_33 : decode cX10_faultOf 33 = .ok (.ireturn, 1) := by decide +kernel
theorem dX10_faultOf_34 : decode cX10_faultOf 34 = .ok (.iconst 1, 1) := by decide +kernel
theorem dX10_faultOf_35 : decode cX10_faultOf 35 = .ok (.istore_n 2, 1) := by decide +kernel
theorem dX10_faultOf_36 : decode cX10_faultOf 36 = .ok (.iload_n 2, 1) := by decide +kernel
theorem dX10_faultOf_37 : decode cX10_faultOf 37 = .ok (.iconst 2, 1) := by decide +kernel
theorem dX10_faultOf_38 : decode cX10_faultOf 38 = .ok (.if_icmp .gt 30, 3) := by decide +kernel
theorem dX10_faultOf_41 : decode cX10_faultOf 41 = .ok (.aload_n 0, 1) := by decide +kernel
theorem dX10_faultOf_42 : decode cX10_faultOf 42 = .ok (.iload_n 1, 1) := by decide +kernel
theorem dX10_faultOf_43 : decode cX10_faultOf 43 = .ok (.aload_n 0, 1) := by decide +kernel
theorem dX10_faultOf_44 : decode cX10_faultOf 44 = .ok (.getfield 88, 3) := by decide +kernel
theorem dX10_faultOf_47 : decode cX10_faultOf 47 = .ok (.iload_n 2, 1) := by decide +kernel
theorem dX10_faultOf_48 : decode cX10_faultOf 48 = .ok (.iadd, 1) := by decide +kernel
theorem dX10_faultOf_49 : decode cX10_faultOf 49 = .ok (.invokevirtual 97, 3) := by decide +kernel
theorem dX10_faultOf_52 : decode cX10_faultOf 52 = .ok (.ifCond .ne 10, 3) := by decide +kernel
theorem dX10_faultOf_55 : decode cX10_faultOf 55 = .ok (.aload_n 0, 1) := by decide +kernel
theorem dX10_faultOf_56 : decode cX10_faultOf 56 = .ok (.getfield 88, 3) := by decide +kernel
theorem dX10_faultOf_59 : decode cX10_faultOf 59 = .ok (.iload_n 2, 1) := by decide +kernel
theorem dX10_faultOf_60 : decode cX10_faultOf 60 = .ok (.iadd, 1) := by decide +kernel
theorem dX10_faultOf_61 : decode cX10_faultOf 61 = .ok (.ireturn, 1) := by decide +kernel
theorem dX10_faultOf_62 : decode cX10_faultOf 62 = .ok (.iinc 2 1, 3) := by decide +kernel
theorem dX10_faultOf_65 : decode cX10_faultOf 65 = .ok (.goto (-29), 3) := by decide +kernel
theorem dX10_faultOf_68 : decode cX10_faultOf 68 = .ok (.aload_n 0, 1) := by decide +kernel
theorem dX10_faultOf_69 : decode cX10_faultOf 69 = .ok (.aload_n 0, 1) := by decide +kernel
theorem dX10_faultOf_70 : decode cX10_faultOf 70 = .ok (.iload_n 1, 1) := by decide +kernel
theorem dX10_faultOf_71 : decode cX10_faultOf 71 = .ok (.aload_n 0, 1) := by decide +kernel
theorem dX10_faultOf_72 : decode cX10_faultOf 72 = .ok (.getfield 88, 3) := by decide +kernel
theorem dX10_faultOf_75 : decode cX10_faultOf 75 = .ok (.iconst 1, 1) := by decide +kernel
theorem dX10_faultOf_76 : decode cX10_faultOf 76 = .ok (.iadd, 1) := by decide +kernel
theorem dX10_faultOf_77 : decode cX10_faultOf 77 = .ok (.invokevirtual 101, 3) := by decide +kernel
theorem dX10_faultOf_80 : decode cX10_faultOf 80 = .ok (.putfield 108, 3) := by decide +kernel
theorem dX10_faultOf_83 : decode cX10_faultOf 83 = .ok (.aload_n 0, 1) := by decide +kernel
theorem dX10_faultOf_84 : decode cX10_faultOf 84 = .ok (.aload_n 0, 1) := by decide +kernel
theorem dX10_faultOf_85 : decode cX10_faultOf 85 = .ok (.iload_n 1, 1) := by decide +kernel
theorem dX10_faultOf_86 : decode cX10_faultOf 86 = .ok (.aload_n 0, 1) := by decide +kernel
theorem dX10_faultOf_87 : decode cX10_faultOf 87 = .ok (.getfield 88, 3) := by decide +kernel
theorem dX10_faultOf_90 : decode cX10_faultOf 90 = .ok (.iconst 2, 1) := by decide +kernel
theorem dX10_faultOf_91 : decode cX10_faultOf 91 = .ok (.iadd, 1) := by decide +kernel
theorem dX10_faultOf_92 : decode cX10_faultOf 92 = .ok (.invokevirtual 101, 3) := by decide +kernel
theorem dX10_faultOf_95 : decode cX10_faultOf 95 = .ok (.putfield 111, 3) := by decide +kernel
theorem dX10_faultOf_98 : decode cX10_faultOf 98 = .ok (.aload_n 0, 1) := by decide +kernel
theorem dX10_faultOf_99 : decode cX10_faultOf 99 = .ok (.dup, 1) := by decide +kernel
theorem dX10_faultOf_100 : decode cX10_faultOf 100 = .ok (.getfield 88, 3) := by decide +kernel
theorem dX10_faultOf_103 : decode cX10_faultOf 103 = .ok (.iconst 3, 1) := by decide +kernel
theorem dX10_faultOf_104 : decode cX10_faultOf 104 = .ok (.iadd, 1) := by decide +kernel
theorem dX10_faultOf_105 : decode cX10_faultOf 105 = .ok (.putfield 88, 3) := by decide +kernel
theorem dX10_faultOf_108 : decode cX10_faultOf 108 = .ok (.aload_n 0, 1) := by decide +kernel
theorem dX10_faultOf_109 : decode cX10_faultOf 109 = .ok (.iload_n 1, 1) := by decide +kernel
theorem dX10_faultOf_110 : decode cX10_faultOf 110 = .ok (.invokevirtual 104, 3) := by decide +kernel
theorem dX10_faultOf_113 : decode cX10_faultOf 113 = .ok (.aload_n 0, 1) := by decide +kernel
theorem dX10_faultOf_114 : decode cX10_faultOf 114 = .ok (.getfield 88, 3) := by decide +kernel
theorem dX10_faultOf_117 : decode cX10_faultOf 117 = .ok (.aload_n 0, 1) := by decide +kernel
theorem dX10_faultOf_118 : decode cX10_faultOf 118 = .ok (.getfield 28, 3) := by decide +kernel
theorem dX10_faultOf_121 : decode cX10_faultOf 121 = .ok (.iload_n 1, 1) := by decide +kernel
theorem dX10_faultOf_122 : decode cX10_faultOf 122 = .ok (.iaload, 1) := by decide +kernel
theorem dX10_faultOf_123 : decode cX10_faultOf 123 = .ok (.if_icmp .lt 10, 3) := by decide +kernel
theorem dX10_faultOf_126 : decode cX10_faultOf 126 = .ok (.aload_n 0, 1) := by decide +kernel
theorem dX10_faultOf_127 : decode cX10_faultOf 127 = .ok (.getfield 94, 3) := by decide +kernel
theorem dX10_faultOf_130 : decode cX10_faultOf 130 = .ok (.ifCond .ne 25, 3) := by decide +kernel
theorem dX10_faultOf_133 : decode cX10_faultOf 133 = .ok (.aload_n 0, 1) := by decide +kernel
theorem dX10_faultOf_134 : decode cX10_faultOf 134 = .ok (.iload_n 1, 1) := by decide +kernel
theorem dX10_faultOf_135 : decode cX10_faultOf 135 = .ok (.invokevirtual 114, 3) := by decide +kernel
theorem dX10_faultOf_138 : decode cX10_faultOf 138 = .ok (.istore_n 2, 1) := by decide +kernel
theorem dX10_faultOf_139 : decode cX10_faultOf 139 = .ok (.iload_n 2, 1) := by decide +kernel
theorem dX10_faultOf_140 : decode cX10_faultOf 140 = .ok (.bipush (-9), 2) := by decide +kernel
theorem dX10_faultOf_142 : decode cX10_faultOf 142 = .ok (.if_icmp .eq 5, 3) := by decide +kernel
theorem dX10_faultOf_145 : decode cX10_faultOf 145 = .ok (.iload_n 2, 1) := by decide +kernel
theorem dX10_faultOf_146 : decode cX10_faultOf 146 = .ok (.ireturn, 1) := by decide +kernel
theorem dX10_faultOf_147 : decode cX10_faultOf 147 = .ok (.aload_n 0, 1) := by decide +kernel
theorem dX10_faultOf_148 : decode cX10_faultOf 148 = .ok (.iload_n 1, 1) := by decide +kernel
theorem dX10_faultOf_149 : decode cX10_faultOf 149 = .ok (.invokevirtual 104, 3) := by decide +kernel
theorem dX10_faultOf_152 : decode cX10_faultOf 152 = .ok (.goto (-39), 3) := by decide +kernel
theorem dX10_faultOf_155 : decode cX10_faultOf 155 = .ok (.bipush (-9), 2) := by decide +kernel
theorem dX10_faultOf_157 : decode cX10_faultOf 157 = .ok (.ireturn, 1) := by decide +kernel
theorem dX10_fault_0 : decode cX10_fault 0 = .ok (.iload_n 1, 1) := by decide +kernel
theorem dX10_fault_1 : decode cX10_fault 1 = .ok (.invokestatic 82, 3) := by decide +kernel
theorem dX10_fault_4 : decode cX10_fault 4 = .ok (.ifCond .ne 5, 3) := by decide +kernel
theorem dX10_fault_7 : decode cX10_fault 7 = .ok (.iconst (-1), 1) := by decide +kernel
theorem dX10_fault_8 : decode cX10_fault 8 = .ok (.ireturn, 1) := by decide +kernel
theorem dX10_fault_9 : decode cX10_fault 9 = .ok (.aload_n 0, 1) := by decide +kernel
theorem dX10_fault_10 : decode cX10_fault 10 = .ok (.getfield 28, 3) := by decide +kernel
theorem dX10_fault_13 : decode cX10_fault 13 = .ok (.iload_n 1, 1) := by decide +kernel
theorem dX10_fault_14 : decode cX10_fault 14 = .ok (.iaload, 1) := by decide +kernel
theorem dX10_fault_15 : decode cX10_fault 15 = .ok (.bipush (-9), 2) := by decide +kernel
theorem dX10_fault_17 : decode cX10_fault 17 = .ok (.if_icmp .ne 11, 3) := by decide +kernel
theorem dX10_fault_20 : decode cX10_fault 20 = .ok (.aload_n 0, 1) := by decide +kernel
theorem dX10_fault_21 : decode cX10_fault 21 = .ok (.iconst 1, 1) := by decide +kernel
theorem dX10_fault_22 : decode cX10_fault 22 = .ok (.invokevirtual 71, 3) := by decide +kernel
theorem dX10_fault_25 : decode cX10_fault 25 = .ok (.goto 8, 3) := by decide +kernel
theorem dX10_fault_28 : decode cX10_fault 28 = .ok (.aload_n 0, 1) := by decide +kernel
theorem dX10_fault_29 : decode cX10_fault 29 = .ok (.iload_n 1, 1) := by decide +kernel
theorem dX10_fault_30 : decode cX10_fault 30 = .ok (.invokevirtual 117, 3) := by decide +kernel
theorem dX10_fault_33 : decode cX10_fault 33 = .ok (.ireturn, 1) := by decide +kernel
theorem dX10_front_0 : decode cX10_front 0 = .ok (.iload_n 1, 1) := by decide +kernel
theorem dX10_front_1 : decode cX10_front 1 = .ok (.invokestatic 82, 3) := by decide +kernel
theorem dX10_front_4 : decode cX10_front 4 = .ok (.ifCond .ne 5, 3) := by decide +kernel
theorem dX10_front_7 : decode cX10_front 7 = .ok (.iconst (-1), 1) := by decide +kernel
theorem dX10_front_8 : decode cX10_front 8 = .ok (.ireturn, 1) := by decide +kernel
theorem dX10_front_9 : decode cX10_front 9 = .ok (.aload_n 0, 1) := by decide +kernel
theorem dX10_front_10 : decode cX10_front 10 = .ok (.getfield 28, 3) := by decide +kernel
theorem dX10_front_13 : decode cX10_front 13 = .ok (.iload_n 1, 1) := by decide +kernel
theorem dX10_front_14 : decode cX10_front 14 = .ok (.iaload, 1) := by decide +kernel
theorem dX10_front_15 : decode cX10_front 15 = .ok (.bipush (-9), 2) := by decide +kernel
theorem dX10_front_17 : decode cX10_front 17 = .ok (.if_icmp .ne 9, 3) := by decide +kernel
theorem dX10_front_20 : decode cX10_front 20 = .ok (.aload_n 0, 1) := by decide +kernel
theorem dX10_front_21 : decode cX10_front 21 = .ok (.iconst 1, 1) := by decide +kernel
theorem dX10_front_22 : decode cX10_front 22 = .ok (.invokevirtual 71, 3) := by decide +kernel
theorem dX10_front_25 : decode cX10_front 25 = .ok (.ireturn, 1) := by decide +kernel
theorem dX10_front_26 : decode cX10_front 26 = .ok (.aload_n 0, 1) := by decide +kernel
theorem dX10_front_27 : decode cX10_front 27 = .ok (.iload_n 1, 1) := by decide +kernel
theorem dX10_front_28 : decode cX10_front 28 = .ok (.invokevirtual 117, 3) := by decide +kernel
theorem dX10_front_31 : decode cX10_front 31 = .ok (.bipush (-9), 2) := by decide +kernel
theorem dX10_front_33 : decode cX10_front 33 = .ok (.if_icmp .eq 6, 3) := by decide +kernel
theorem dX10_front_36 : decode cX10_front 36 = .ok (.bipush (-4), 2) := by decide +kernel
theorem dX10_front_38 : decode cX10_front 38 = .ok (.ireturn, 1) := by decide +kernel
theorem dX10_front_39 : decode cX10_front 39 = .ok (.aload_n 0, 1) := by decide +kernel
theorem dX10_front_40 : decode cX10_front 40 = .ok (.aload_n 0, 1) := by decide +kernel
theorem dX10_front_41 : decode cX10_front 41 = .ok (.getfield 94, 3) := by decide +kernel
theorem dX10_front_44 : decode cX10_front 44 = .ok (.putfield 120, 3) := by decide +kernel
theorem dX10_front_47 : decode cX10_front 47 = .ok (.aload_n 0, 1) := by decide +kernel
theorem dX10_front_48 : decode cX10_front 48 = .ok (.aload_n 0, 1) := by decide +kernel
theorem dX10_front_49 : decode cX10_front 49 = .ok (.getfield 108, 3) := by decide +kernel
theorem dX10_front_52 : decode cX10_front 52 = .ok (.putfield 123, 3) := by decide +kernel
theorem dX10_front_55 : decode cX10_front 55 = .ok (.aload_n 0, 1) := by decide +kernel
theorem dX10_front_56 : decode cX10_front 56 = .ok (.aload_n 0, 1) := by decide +kernel
theorem dX10_front_57 : decode cX10_front 57 = .ok (.getfield 111, 3) := by decide +kernel
theorem dX10_front_60 : decode cX10_front 60 = .ok (.putfield 126, 3) := by decide +kernel
theorem dX10_front_63 : decode cX10_front 63 = .ok (.aload_n 0, 1) := by decide +kernel
theorem dX10_front_64 : decode cX10_front 64 = .ok (.iconst 0, 1) := by decide +kernel
theorem dX10_front_65 : decode cX10_front 65 = .ok (.putfield 129, 3) := by decide +kernel
theorem dX10_front_68 : decode cX10_front 68 = .ok (.iconst 0, 1) := by decide +kernel
theorem dX10_front_69 : decode cX10_front 69 = .ok (.istore_n 2, 1) := by decide +kernel
theorem dX10_front_70 : decode cX10_front 70 = .ok (.iload_n 2, 1) := by decide +kernel
theorem dX10_front_71 : decode cX10_front 71 = .ok (.aload_n 0, 1) := by decide +kernel
theorem dX10_front_72 : decode cX10_front 72 = .ok (.getfield 120, 3) := by decide +kernel
theorem dX10_front_75 : decode cX10_front 75 = .ok (.if_icmp .ge 48, 3) := by decide +kernel
theorem dX10_front_78 : decode cX10_front 78 = .ok (.aload_n 0, 1) := by decide +kernel
theorem dX10_front_79 : decode cX10_front 79 = .ok (.getfield 13, 3) := by decide +kernel
theorem dX10_front_82 : decode cX10_front 82 = .ok (.iload_n 2, 1) := by decide +kernel
theorem dX10_front_83 : decode cX10_front 83 = .ok (.aload_n 0, 1) := by decide +kernel
theorem dX10_front_84 : decode cX10_front 84 = .ok (.getfield 38, 3) := by decide +kernel
theorem dX10_front_87 : decode cX10_front 87 = .ok (.iload_n 2, 1) := by decide +kernel
theorem dX10_front_88 : decode cX10_front 88 = .ok (.iaload, 1) := by decide +kernel
theorem dX10_front_89 : decode cX10_front 89 = .ok (.iastore, 1) := by decide +kernel
theorem dX10_front_90 : decode cX10_front 90 = .ok (.aload_n 0, 1) := by decide +kernel
theorem dX10_front_91 : decode cX10_front 91 = .ok (.getfield 7, 3) := by decide +kernel
theorem dX10_front_94 : decode cX10_front 94 = .ok (.iload_n 2, 1) := by decide +kernel
theorem dX10_front_95 : decode cX10_front 95 = .ok (.aload_n 0, 1) := by decide +kernel
theorem dX10_front_96 : decode cX10_front 96 = .ok (.getfield 41, 3) := by decide +kernel
theorem dX10_front_99 : decode cX10_front 99 = .ok (.iload_n 2, 1) := by decide +kernel
theorem dX10_front_100 : decode cX10_front 100 = .ok (.iaload, 1) := by decide +kernel
theorem dX10_front_101 : decode cX10_front 101 = .ok (.iastore, 1) := by decide +kernel
theorem dX10_front_102 : decode cX10_front 102 = .ok (.aload_n 0, 1) := by decide +kernel
theorem dX10_front_103 : decode cX10_front 103 = .ok (.getfield 7, 3) := by decide +kernel
theorem dX10_front_106 : decode cX10_front 106 = .ok (.bipush 6, 2) := by decide +kernel
theorem dX10_front_108 : decode cX10_front 108 = .ok (.iload_n 2, 1) := by decide +kernel
theorem dX10_front_109 : decode cX10_front 109 = .ok (.iadd, 1) := by decide +kernel
theorem dX10_front_110 : decode cX10_front 110 = .ok (.aload_n 0, 1) := by decide +kernel
theorem dX10_front_111 : decode cX10_front 111 = .ok (.getfield 44, 3) := by decide +kernel
theorem dX10_front_114 : decode cX10_front 114 = .ok (.iload_n 2, 1) := by decide +kernel
theorem dX10_front_115 : decode cX10_front 115 = .ok (.iaload, 1) := by decide +kernel
theorem dX10_front_116 : decode cX10_front 116 = .ok (.iastore, 1) := by decide +kernel
theorem dX10_front_117 : decode cX10_front 117 = .ok (.iinc 2 1, 3) := by decide +kernel
theorem dX10_front_120 : decode cX10_front 120 = .ok (.goto (-50), 3) := by decide +kernel
theorem dX10_front_123 : decode cX10_front 123 = .ok (.aload_n 0, 1) := by decide +kernel
theorem dX10_front_124 : decode cX10_front 124 = .ok (.getfield 7, 3) := by decide +kernel
theorem dX10_front_127 : decode cX10_front 127 = .ok (.bipush 12, 2) := by decide +kernel
theorem dX10_front_129 : decode cX10_front 129 = .ok (.iconst 0, 1) := by decide +kernel
theorem dX10_front_130 : decode cX10_front 130 = .ok (.iastore, 1) := by decide +kernel
theorem dX10_front_131 : decode cX10_front 131 = .ok (.aload_n 0, 1) := by decide +kernel
theorem dX10_front_132 : decode cX10_front 132 = .ok (.getfield 7, 3) := by decide +kernel
theorem dX10_front_135 : decode cX10_front 135 = .ok (.bipush 13, 2) := by decide +kernel
theorem dX10_front_137 : decode cX10_front 137 = .ok (.aload_n 0, 1) := by decide +kernel
theorem dX10_front_138 : decode cX10_front 138 = .ok (.getfield 123, 3) := by decide +kernel
theorem dX10_front_141 : decode cX10_front 141 = .ok (.iastore, 1) := by decide +kernel
theorem dX10_front_142 : decode cX10_front 142 = .ok (.aload_n 0, 1) := by decide +kernel
theorem dX10_front_143 : decode cX10_front 143 = .ok (.getfield 7, 3) := by decide +kernel
theorem dX10_front_146 : decode cX10_front 146 = .ok (.bipush 14, 2) := by decide +kernel
theorem dX10_front_148 : decode cX10_front 148 = .ok (.iconst 1, 1) := by decide +kernel
theorem dX10_front_149 : decode cX10_front 149 = .ok (.iastore, 1) := by decide +kernel
theorem dX10_front_150 : decode cX10_front 150 = .ok (.aload_n 0, 1) := by decide +kernel
theorem dX10_front_151 : decode cX10_front 151 = .ok (.getfield 7, 3) := by decide +kernel
theorem dX10_front_154 : decode cX10_front 154 = .ok (.bipush 15, 2) := by decide +kernel
theorem dX10_front_156 : decode cX10_front 156 = .ok (.iconst 0, 1) := by decide +kernel
theorem dX10_front_157 : decode cX10_front 157 = .ok (.iastore, 1) := by decide +kernel
theorem dX10_front_158 : decode cX10_front 158 = .ok (.aload_n 0, 1) := by decide +kernel
theorem dX10_front_159 : decode cX10_front 159 = .ok (.getfield 7, 3) := by decide +kernel
theorem dX10_front_162 : decode cX10_front 162 = .ok (.bipush 16, 2) := by decide +kernel
theorem dX10_front_164 : decode cX10_front 164 = .ok (.iconst 0, 1) := by decide +kernel
theorem dX10_front_165 : decode cX10_front 165 = .ok (.iastore, 1) := by decide +kernel
theorem dX10_front_166 : decode cX10_front 166 = .ok (.aload_n 0, 1) := by decide +kernel
theorem dX10_front_167 : decode cX10_front 167 = .ok (.invokevirtual 53, 3) := by decide +kernel
theorem dX10_front_170 : decode cX10_front 170 = .ok (.aload_n 0, 1) := by decide +kernel
theorem dX10_front_171 : decode cX10_front 171 = .ok (.getfield 120, 3) := by decide +kernel
theorem dX10_front_174 : decode cX10_front 174 = .ok (.ireturn, 1) := by decide +kernel
theorem dX10_now_0 : decode cX10_now 0 = .ok (.bipush 17, 2) := by decide +kernel
theorem dX10_now_2 : decode cX10_now 2 = .ok (.aload_n 0, 1) := by decide +kernel
theorem dX10_now_3 : decode cX10_now 3 = .ok (.getfield 129, 3) := by decide +kernel
theorem dX10_now_6 : decode cX10_now 6 = .ok (.imul, 1) := by decide +kernel
theorem dX10_now_7 : decode cX10_now 7 = .ok (.ireturn, 1) := by decide +kernel
theorem dX10_copyRow_0 : decode cX10_copyRow 0 = .ok (.iconst 0, 1) := by decide +kernel
theorem dX10_copyRow_1 : decode cX10_copyRow 1 = .ok (.istore_n 3, 1) := by decide +kernel
theorem dX10_copyRow_2 : decode cX10_copyRow 2 = .ok (.iload_n 3, 1) := by decide +kernel
theorem dX10_copyRow_3 : decode cX10_copyRow 3 = .ok (.bipush 17, 2) := by decide +kernel
theorem dX10_copyRow_5 : decode cX10_copyRow 5 = .ok (.if_icmp .ge 25, 3) := by decide +kernel
theorem dX10_copyRow_8 : decode cX10_copyRow 8 = .ok (.aload_n 0, 1) := by decide +kernel
theorem dX10_copyRow_9 : decode cX10_copyRow 9 = .ok (.getfield 7, 3) := by decide +kernel
theorem dX10_copyRow_12 : decode cX10_copyRow 12 = .ok (.iload_n 2, 1) := by decide +kernel
theorem dX10_copyRow_13 : decode cX10_copyRow 13 = .ok (.iload_n 3, 1) := by decide +kernel
theorem dX10_copyRow_14 : decode cX10_copyRow 14 = .ok (.iadd, 1) := by decide +kernel
theorem dX10_copyRow_15 : decode cX10_copyRow 15 = .ok (.aload_n 0, 1) := by decide +kernel
theorem dX10_copyRow_16 : decode cX10_copyRow 16 = .ok (.getfield 7, 3) := by decide +kernel
theorem dX10_copyRow_19 : decode cX10_copyRow 19 = .ok (.iload_n 1, 1) := by decide +kernel
theorem dX10_copyRow_20 : decode cX10_copyRow 20 = .ok (.iload_n 3, 1) := by decide +kernel
theorem dX10_copyRow_21 : decode cX10_copyRow 21 = .ok (.iadd, 1) := by decide +kernel
theorem dX10_copyRow_22 : decode cX10_copyRow 22 = .ok (.iaload, 1) := by decide +kernel
theorem dX10_copyRow_23 : decode cX10_copyRow 23 = .ok (.iastore, 1) := by decide +kernel
theorem dX10_copyRow_24 : decode cX10_copyRow 24 = .ok (.iinc 3 1, 3) := by decide +kernel
theorem dX10_copyRow_27 : decode cX10_copyRow 27 = .ok (.goto (-25), 3) := by decide +kernel
theorem dX10_copyRow_30 : decode cX10_copyRow 30 = .ok (.return_, 1) := by decide +kernel
theorem dX10_lesser_0 : decode cX10_lesser 0 = .ok (.iload_n 0, 1) := by decide +kernel
theorem dX10_lesser_1 : decode cX10_lesser 1 = .ok (.iload_n 1, 1) := by decide +kernel
theorem dX10_lesser_2 : decode cX10_lesser 2 = .ok (.if_icmp .ge 7, 3) := by decide +kernel
theorem dX10_lesser_5 : decode cX10_lesser 5 = .ok (.iload_n 0, 1) := by decide +kernel
theorem dX10_lesser_6 : decode cX10_lesser 6 = .ok (.goto 4, 3) := by decide +kernel
theorem dX10_lesser_9 : decode cX10_lesser 9 = .ok (.iload_n 1, 1) := by decide +kernel
theorem dX10_lesser_10 : decode cX10_lesser 10 = .ok (.ireturn, 1) := by decide +kernel
theorem dX10_gatheredBy_0 : decode cX10_gatheredBy 0 = .ok (.iload_n 0, 1) := by decide +kernel
theorem dX10_gatheredBy_1 : decode cX10_gatheredBy 1 = .ok (.tableswitch 56 2 5 #[31, 38, 56, 42], 31) := by decide +kernel
theorem dX10_gatheredBy_32 : decode cX10_gatheredBy 32 = .ok (.iload_n 1, 1) := by decide +kernel
theorem dX10_gatheredBy_33 : decode cX10_gatheredBy 33 = .ok (.bipush 9, 2) := by decide +kernel
theorem dX10_gatheredBy_35 : decode cX10_gatheredBy 35 = .ok (.invokestatic 132, 3) := by decide +kernel
theorem dX10_gatheredBy_38 : decode cX10_gatheredBy 38 = .ok (.ireturn, 1) := by decide +kernel
theorem dX10_gatheredBy_39 : decode cX10_gatheredBy 39 = .ok (.iload_n 1, 1) := by decide +kernel
theorem dX10_gatheredBy_40 : decode cX10_gatheredBy 40 = .ok (.iconst 2, 1) := by decide +kernel
theorem dX10_gatheredBy_41 : decode cX10_gatheredBy 41 = .ok (.idiv, 1) := by decide +kernel
theorem dX10_gatheredBy_42 : decode cX10_gatheredBy 42 = .ok (.ireturn, 1) := by decide +kernel
theorem dX10_gatheredBy_43 : decode cX10_gatheredBy 43 = .ok (.iload_n 1, 1) := by decide +kernel
theorem dX10_gatheredBy_44 : decode cX10_gatheredBy 44 = .ok (.bipush 20, 2) := by decide +kernel
theorem dX10_gatheredBy_46 : decode cX10_gatheredBy 46 = .ok (.if_icmp .lt 7, 3) := by decide +kernel
theorem dX10_gatheredBy_49 : decode cX10_gatheredBy 49 = .ok (.iload_n 1, 1) := by decide +kernel
theorem dX10_gatheredBy_50 : decode cX10_gatheredBy 50 = .ok (.goto 6, 3) := by decide +kernel
theorem dX10_gatheredBy_53 : decode cX10_gatheredBy 53 = .ok (.iload_n 1, 1) := by decide +kernel
theorem dX10_gatheredBy_54 : decode cX10_gatheredBy 54 = .ok (.iconst 2, 1) := by decide +kernel
theorem dX10_gatheredBy_55 : decode cX10_gatheredBy 55 = .ok (.idiv, 1) := by decide +kernel
theorem dX10_gatheredBy_56 : decode cX10_gatheredBy 56 = .ok (.ireturn, 1) := by decide +kernel
theorem dX10_gatheredBy_57 : decode cX10_gatheredBy 57 = .ok (.iload_n 1, 1) := by decide +kernel
theorem dX10_gatheredBy_58 : decode cX10_gatheredBy 58 = .ok (.iconst 2, 1) := by decide +kernel
theorem dX10_gatheredBy_59 : decode cX10_gatheredBy 59 = .ok (.invokestatic 132, 3) := by decide +kernel
theorem dX10_gatheredBy_62 : decode cX10_gatheredBy 62 = .ok (.ireturn, 1) := by decide +kernel
theorem dX10_turnIn_0 : decode cX10_turnIn 0 = .ok (.aload_n 0, 1) := by decide +kernel
theorem dX10_turnIn_1 : decode cX10_turnIn 1 = .ok (.getfield 7, 3) := by decide +kernel
theorem dX10_turnIn_4 : decode cX10_turnIn 4 = .ok (.iload_n 1, 1) := by decide +kernel
theorem dX10_turnIn_5 : decode cX10_turnIn 5 = .ok (.bipush 12, 2) := by decide +kernel
theorem dX10_turnIn_7 : decode cX10_turnIn 7 = .ok (.iadd, 1) := by decide +kernel
theorem dX10_turnIn_8 : decode cX10_turnIn 8 = .ok (.iaload, 1) := by decide +kernel
theorem dX10_turnIn_9 : decode cX10_turnIn 9 = .ok (.istore 5, 2) := by decide +kernel
theorem dX10_turnIn_11 : decode cX10_turnIn 11 = .ok (.iload 5, 2) := by decide +kernel
theorem dX10_turnIn_13 : decode cX10_turnIn 13 = .ok (.ifCond .le 71, 3) := by decide +kernel
theorem dX10_turnIn_16 : decode cX10_turnIn 16 = .ok (.aload_n 0, 1) := by decide +kernel
theorem dX10_turnIn_17 : decode cX10_turnIn 17 = .ok (.getfield 7, 3) := by decide +kernel
theorem dX10_turnIn_20 : decode cX10_turnIn 20 = .ok (.iload_n 1, 1) := by decide +kernel
theorem dX10_turnIn_21 : decode cX10_turnIn 21 = .ok (.bipush 15, 2) := by decide +kernel
theorem dX10_turnIn_23 : decode cX10_turnIn 23 = .ok (.iadd, 1) := by decide +kernel
theorem dX10_turnIn_24 : decode cX10_turnIn 24 = .ok (.iaload, 1) := by decide +kernel
theorem dX10_turnIn_25 : decode cX10_turnIn 25 = .ok (.iconst 1, 1) := by decide +kernel
theorem dX10_turnIn_26 : decode cX10_turnIn 26 = .ok (.if_icmp .ne 10, 3) := by decide +kernel
theorem dX10_turnIn_29 : decode cX10_turnIn 29 = .ok (.iload 5, 2) := by decide +kernel
theorem dX10_turnIn_31 : decode cX10_turnIn 31 = .ok (.iconst 2, 1) := by decide +kernel
theorem dX10_turnIn_32 : decode cX10_turnIn 32 = .ok (.idiv, 1) := by decide +kernel
theorem dX10_turnIn_33 : decode cX10_turnIn 33 = .ok (.goto 15, 3) := by decide +kernel
theorem dX10_turnIn_36 : decode cX10_turnIn 36 = .ok (.bipush 60, 2) := by decide +kernel
theorem dX10_turnIn_38 : decode cX10_turnIn 38 = .ok (.iload 5, 2) := by decide +kernel
theorem dX10_turnIn_40 : decode cX10_turnIn 40 = .ok (.aload_n 0, 1) := by decide +kernel
theorem dX10_turnIn_41 : decode cX10_turnIn 41 = .ok (.getfield 126, 3) := by decide +kernel
theorem dX10_turnIn_44 : decode cX10_turnIn 44 = .ok (.iadd, 1) := by decide +kernel
theorem dX10_turnIn_45 : decode cX10_turnIn 45 = .ok (.invokestatic 132, 3) := by decide +kernel
theorem dX10_turnIn_48 : decode cX10_turnIn 48 = .ok (.istore 5, 2) := by decide +kernel
theorem dX10_turnIn_50 : decode cX10_turnIn 50 = .ok (.aload_n 0, 1) := by decide +kernel
theorem dX10_turnIn_51 : decode cX10_turnIn 51 = .ok (.getfield 7, 3) := by decide +kernel
theorem dX10_turnIn_54 : decode cX10_turnIn 54 = .ok (.iload_n 1, 1) := by decide +kernel
theorem dX10_turnIn_55 : decode cX10_turnIn 55 = .ok (.bipush 13, 2) := by decide +kernel
theorem dX10_turnIn_57 : decode cX10_turnIn 57 = .ok (.iadd, 1) := by decide +kernel
theorem dX10_turnIn_58 : decode cX10_turnIn 58 = .ok (.aload_n 0, 1) := by decide +kernel
theorem dX10_turnIn_59 : decode cX10_turnIn 59 = .ok (.getfield 7, 3) := by decide +kernel
theorem dX10_turnIn_62 : decode cX10_turnIn 62 = .ok (.iload_n 1, 1) := by decide +kernel
theorem dX10_turnIn_63 : decode cX10_turnIn 63 = .ok (.bipush 13, 2) := by decide +kernel
theorem dX10_turnIn_65 : decode cX10_turnIn 65 = .ok (.iadd, 1) := by decide +kernel
theorem dX10_turnIn_66 : decode cX10_turnIn 66 = .ok (.iaload, 1) := by decide +kernel
theorem dX10_turnIn_67 : decode cX10_turnIn 67 = .ok (.aload_n 0, 1) := by decide +kernel
theorem dX10_turnIn_68 : decode cX10_turnIn 68 = .ok (.getfield 7, 3) := by decide +kernel
theorem dX10_turnIn_71 : decode cX10_turnIn 71 = .ok (.iload_n 1, 1) := by decide +kernel
theorem dX10_turnIn_72 : decode cX10_turnIn 72 = .ok (.bipush 14, 2) := by decide +kernel
theorem dX10_turnIn_74 : decode cX10_turnIn 74 = .ok (.iadd, 1) := by decide +kernel
theorem dX10_turnIn_75 : decode cX10_turnIn 75 = .ok (.iaload, 1) := by decide +kernel
theorem dX10_turnIn_76 : decode cX10_turnIn 76 = .ok (.iadd, 1) := by decide +kernel
theorem dX10_turnIn_77 : decode cX10_turnIn 77 = .ok (.bipush 9, 2) := by decide +kernel
theorem dX10_turnIn_79 : decode cX10_turnIn 79 = .ok (.iadd, 1) := by decide +kernel
theorem dX10_turnIn_80 : decode cX10_turnIn 80 = .ok (.bipush 10, 2) := by decide +kernel
theorem dX10_turnIn_82 : decode cX10_turnIn 82 = .ok (.irem, 1) := by decide +kernel
theorem dX10_turnIn_83 : decode cX10_turnIn 83 = .ok (.iastore, 1) := by decide +kernel
theorem dX10_turnIn_84 : decode cX10_turnIn 84 = .ok (.iconst 0, 1) := by decide +kernel
theorem dX10_turnIn_85 : decode cX10_turnIn 85 = .ok (.istore 6, 2) := by decide +kernel
theorem dX10_turnIn_87 : decode cX10_turnIn 87 = .ok (.iconst 0, 1) := by decide +kernel
theorem dX10_turnIn_88 : decode cX10_turnIn 88 = .ok (.istore 7, 2) := by decide +kernel
theorem dX10_turnIn_90 : decode cX10_turnIn 90 = .ok (.iload 7, 2) := by decide +kernel
theorem dX10_turnIn_92 : decode cX10_turnIn 92 = .ok (.aload_n 0, 1) := by decide +kernel
theorem dX10_turnIn_93 : decode cX10_turnIn 93 = .ok (.getfield 120, 3) := by decide +kernel
theorem dX10_turnIn_96 : decode cX10_turnIn 96 = .ok (.if_icmp .ge 224, 3) := by decide +kernel
theorem dX10_turnIn_99 : decode cX10_turnIn 99 = .ok (.iload 7, 2) := by decide +kernel
theorem dX10_turnIn_101 : decode cX10_turnIn 101 = .ok (.iload_n 3, 1) := by decide +kernel
theorem dX10_turnIn_102 : decode cX10_turnIn 102 = .ok (.if_icmp .ne 8, 3) := by decide +kernel
theorem dX10_turnIn_105 : decode cX10_turnIn 105 = .ok (.iload 4, 2) := by decide +kernel
theorem dX10_turnIn_107 : decode cX10_turnIn 107 = .ok (.goto 10, 3) := by decide +kernel
theorem dX10_turnIn_110 : decode cX10_turnIn 110 = .ok (.aload_n 0, 1) := by decide +kernel
theorem dX10_turnIn_111 : decode cX10_turnIn 111 = .ok (.getfield 13, 3) := by decide +kernel
theorem dX10_turnIn_114 : decode cX10_turnIn 114 = .ok (.iload 7, 2) := by decide +kernel
theorem dX10_turnIn_116 : decode cX10_turnIn 116 = .ok (.iaload, 1) := by decide +kernel
theorem dX10_turnIn_117 : decode cX10_turnIn 117 = .ok (.istore 8, 2) := by decide +kernel
theorem dX10_turnIn_119 : decode cX10_turnIn 119 = .ok (.aload_n 0, 1) := by decide +kernel
theorem dX10_turnIn_120 : decode cX10_turnIn 120 = .ok (.getfield 7, 3) := by decide +kernel
theorem dX10_turnIn_123 : decode cX10_turnIn 123 = .ok (.iload_n 1, 1) := by decide +kernel
theorem dX10_turnIn_124 : decode cX10_turnIn 124 = .ok (.iload 7, 2) := by decide +kernel
theorem dX10_turnIn_126 : decode cX10_turnIn 126 = .ok (.iadd, 1) := by decide +kernel
theorem dX10_turnIn_127 : decode cX10_turnIn 127 = .ok (.iaload, 1) := by decide +kernel
theorem dX10_turnIn_128 : decode cX10_turnIn 128 = .ok (.aload_n 0, 1) := by decide +kernel
theorem dX10_turnIn_129 : decode cX10_turnIn 129 = .ok (.getfield 7, 3) := by decide +kernel
theorem dX10_turnIn_132 : decode cX10_turnIn 132 = .ok (.iload_n 1, 1) := by decide +kernel
theorem dX10_turnIn_133 : decode cX10_turnIn 133 = .ok (.bipush 13, 2) := by decide +kernel
theorem dX10_turnIn_135 : decode cX10_turnIn 135 = .ok (.iadd, 1) := by decide +kernel
theorem dX10_turnIn_136 : decode cX10_turnIn 136 = .ok (.iaload, 1) := by decide +kernel
theorem dX10_turnIn_137 : decode cX10_turnIn 137 = .ok (.if_icmp .ne 22, 3) := by decide +kernel
theorem dX10_turnIn_140 : decode cX10_turnIn 140 = .ok (.iload_n 2, 1) := by decide +kernel
theorem dX10_turnIn_141 : decode cX10_turnIn 141 = .ok (.iload 7, 2) := by decide +kernel
theorem dX10_turnIn_143 : decode cX10_turnIn 143 = .ok (.invokestatic 135, 3) := by decide +kernel
theorem dX10_turnIn_146 : decode cX10_turnIn 146 = .ok (.ifCond .ne 13, 3) := by decide +kernel
theorem dX10_turnIn_149 : decode cX10_turnIn 149 = .ok (.iload 8, 2) := by decide +kernel
theorem dX10_turnIn_151 : decode cX10_turnIn 151 = .ok (.iload 5, 2) := by decide +kernel
theorem dX10_turnIn_153 : decode cX10_turnIn 153 = .ok (.invokestatic 138, 3) := by decide +kernel
theorem dX10_turnIn_156 : decode cX10_turnIn 156 = .ok (.goto 4, 3) := by decide +kernel
theorem dX10_turnIn_159 : decode cX10_turnIn 159 = .ok (.iconst 0, 1) := by decide +kernel
theorem dX10_turnIn_160 : decode cX10_turnIn 160 = .ok (.istore 9, 2) := by decide +kernel
theorem dX10_turnIn_162 : decode cX10_turnIn 162 = .ok (.iload 9, 2) := by decide +kernel
theorem dX10_turnIn_164 : decode cX10_turnIn 164 = .ok (.ifCond .le 73, 3) := by decide +kernel
theorem dX10_turnIn_167 : decode cX10_turnIn 167 = .ok (.iload 6, 2) := by decide +kernel
theorem dX10_turnIn_169 : decode cX10_turnIn 169 = .ok (.iconst 1, 1) := by decide +kernel
theorem dX10_turnIn_170 : decode cX10_turnIn 170 = .ok (.iload 7, 2) := by decide +kernel
theorem dX10_turnIn_172 : decode cX10_turnIn 172 = .ok (.ishl, 1) := by decide +kernel
theorem dX10_turnIn_173 : decode cX10_turnIn 173 = .ok (.ior, 1) := by decide +kernel
theorem dX10_turnIn_174 : decode cX10_turnIn 174 = .ok (.istore 6, 2) := by decide +kernel
theorem dX10_turnIn_176 : decode cX10_turnIn 176 = .ok (.aload_n 0, 1) := by decide +kernel
theorem dX10_turnIn_177 : decode cX10_turnIn 177 = .ok (.getfield 7, 3) := by decide +kernel
theorem dX10_turnIn_180 : decode cX10_turnIn 180 = .ok (.iload_n 1, 1) := by decide +kernel
theorem dX10_turnIn_181 : decode cX10_turnIn 181 = .ok (.bipush 6, 2) := by decide +kernel
theorem dX10_turnIn_183 : decode cX10_turnIn 183 = .ok (.iadd, 1) := by decide +kernel
theorem dX10_turnIn_184 : decode cX10_turnIn 184 = .ok (.iload 7, 2) := by decide +kernel
theorem dX10_turnIn_186 : decode cX10_turnIn 186 = .ok (.iadd, 1) := by decide +kernel
theorem dX10_turnIn_187 : decode cX10_turnIn 187 = .ok (.bipush 30, 2) := by decide +kernel
theorem dX10_turnIn_189 : decode cX10_turnIn 189 = .ok (.aload_n 0, 1) := by decide +kernel
theorem dX10_turnIn_190 : decode cX10_turnIn 190 = .ok (.getfield 7, 3) := by decide +kernel
theorem dX10_turnIn_193 : decode cX10_turnIn 193 = .ok (.iload_n 1, 1) := by decide +kernel
theorem dX10_turnIn_194 : decode cX10_turnIn 194 = .ok (.bipush 6, 2) := by decide +kernel
theorem dX10_turnIn_196 : decode cX10_turnIn 196 = .ok (.iadd, 1) := by decide +kernel
theorem dX10_turnIn_197 : decode cX10_turnIn 197 = .ok (.iload 7, 2) := by decide +kernel
theorem dX10_turnIn_199 : decode cX10_turnIn 199 = .ok (.iadd, 1) := by decide +kernel
theorem dX10_turnIn_200 : decode cX10_turnIn 200 = .ok (.iaload, 1) := by decide +kernel
theorem dX10_turnIn_201 : decode cX10_turnIn 201 = .ok (.iload 9, 2) := by decide +kernel
theorem dX10_turnIn_203 : decode cX10_turnIn 203 = .ok (.iadd, 1) := by decide +kernel
theorem dX10_turnIn_204 : decode cX10_turnIn 204 = .ok (.invokestatic 132, 3) := by decide +kernel
theorem dX10_turnIn_207 : decode cX10_turnIn 207 = .ok (.iastore, 1) := by decide +kernel
theorem dX10_turnIn_208 : decode cX10_turnIn 208 = .ok (.iload 5, 2) := by decide +kernel
theorem dX10_turnIn_210 : decode cX10_turnIn 210 = .ok (.iload 9, 2) := by decide +kernel
theorem dX10_turnIn_212 : decode cX10_turnIn 212 = .ok (.isub, 1) := by decide +kernel
theorem dX10_turnIn_213 : decode cX10_turnIn 213 = .ok (.istore 5, 2) := by decide +kernel
theorem dX10_turnIn_215 : decode cX10_turnIn 215 = .ok (.iload 8, 2) := by decide +kernel
theorem dX10_turnIn_217 : decode cX10_turnIn 217 = .ok (.iconst 4, 1) := by decide +kernel
theorem dX10_turnIn_218 : decode cX10_turnIn 218 = .ok (.if_icmp .ne 15, 3) := by decide +kernel
theorem dX10_turnIn_221 : decode cX10_turnIn 221 = .ok (.bipush 60, 2) := by decide +kernel
theorem dX10_turnIn_223 : decode cX10_turnIn 223 = .ok (.iload 5, 2) := by decide +kernel
theorem dX10_turnIn_225 : decode cX10_turnIn 225 = .ok (.iconst 3, 1) := by decide +kernel
theorem dX10_turnIn_226 : decode cX10_turnIn 226 = .ok (.iadd, 1) := by decide +kernel
theorem dX10_turnIn_227 : decode cX10_turnIn 227 = .ok (.invokestatic 132, 3) := by decide +kernel
theorem dX10_turnIn_230 : decode cX10_turnIn 230 = .ok (.goto 5, 3) := by decide +kernel
theorem dX10_turnIn_233 : decode cX10_turnIn 233 = .ok (.iload 5, 2) := by decide +kernel
theorem dX10_turnIn_235 : decode cX10_turnIn 235 = .ok (.istore 5, 2) := by decide +kernel
theorem dX10_turnIn_237 : decode cX10_turnIn 237 = .ok (.iload 8, 2) := by decide +kernel
theorem dX10_turnIn_239 : decode cX10_turnIn 239 = .ok (.iconst 1, 1) := by decide +kernel
theorem dX10_turnIn_240 : decode cX10_turnIn 240 = .ok (.if_icmp .eq 21, 3) := by decide +kernel
theorem dX10_turnIn_243 : decode cX10_turnIn 243 = .ok (.iload 8, 2) := by decide +kernel
theorem dX10_turnIn_245 : decode cX10_turnIn 245 = .ok (.iconst 4, 1) := by decide +kernel
theorem dX10_turnIn_246 : decode cX10_turnIn 246 = .ok (.if_icmp .eq 15, 3) := by decide +kernel
theorem dX10_turnIn_249 : decode cX10_turnIn 249 = .ok (.aload_n 0, 1) := by decide +kernel
theorem dX10_turnIn_250 : decode cX10_turnIn 250 = .ok (.getfield 7, 3) := by decide +kernel
theorem dX10_turnIn_253 : decode cX10_turnIn 253 = .ok (.iload_n 1, 1) := by decide +kernel
theorem dX10_turnIn_254 : decode cX10_turnIn 254 = .ok (.bipush 15, 2) := by decide +kernel
theorem dX10_turnIn_256 : decode cX10_turnIn 256 = .ok (.iadd, 1) := by decide +kernel
theorem dX10_turnIn_257 : decode cX10_turnIn 257 = .ok (.iaload, 1) := by decide +kernel
theorem dX10_turnIn_258 : decode cX10_turnIn 258 = .ok (.ifCond .ne 7, 3) := by decide +kernel
theorem dX10_turnIn_261 : decode cX10_turnIn 261 = .ok (.iconst 1, 1) := by decide +kernel
theorem dX10_turnIn_262 : decode cX10_turnIn 262 = .ok (.goto 4, 3) := by decide +kernel
theorem dX10_turnIn_265 : decode cX10_turnIn 265 = .ok (.iconst 0, 1) := by decide +kernel
theorem dX10_turnIn_266 : decode cX10_turnIn 266 = .ok (.istore 10, 2) := by decide +kernel
theorem dX10_turnIn_268 : decode cX10_turnIn 268 = .ok (.aload_n 0, 1) := by decide +kernel
theorem dX10_turnIn_269 : decode cX10_turnIn 269 = .ok (.getfield 7, 3) := by decide +kernel
theorem dX10_turnIn_272 : decode cX10_turnIn 272 = .ok (.iload_n 1, 1) := by decide +kernel
theorem dX10_turnIn_273 : decode cX10_turnIn 273 = .ok (.bipush 6, 2) := by decide +kernel
theorem dX10_turnIn_275 : decode cX10_turnIn 275 = .ok (.iadd, 1) := by decide +kernel
theorem dX10_turnIn_276 : decode cX10_turnIn 276 = .ok (.iload 7, 2) := by decide +kernel
theorem dX10_turnIn_278 : decode cX10_turnIn 278 = .ok (.iadd, 1) := by decide +kernel
theorem dX10_turnIn_279 : decode cX10_turnIn 279 = .ok (.iload 10, 2) := by decide +kernel
theorem dX10_turnIn_281 : decode cX10_turnIn 281 = .ok (.ifCond .eq 18, 3) := by decide +kernel
theorem dX10_turnIn_284 : decode cX10_turnIn 284 = .ok (.aload_n 0, 1) := by decide +kernel
theorem dX10_turnIn_285 : decode cX10_turnIn 285 = .ok (.getfield 7, 3) := by decide +kernel
theorem dX10_turnIn_288 : decode cX10_turnIn 288 = .ok (.iload_n 1, 1) := by decide +kernel
theorem dX10_turnIn_289 : decode cX10_turnIn 289 = .ok (.bipush 6, 2) := by decide +kernel
theorem dX10_turnIn_291 : decode cX10_turnIn 291 = .ok (.iadd, 1) := by decide +kernel
theorem dX10_turnIn_292 : decode cX10_turnIn 292 = .ok (.iload 7, 2) := by decide +kernel
theorem dX10_turnIn_294 : decode cX10_turnIn 294 = .ok (.iadd, 1) := by decide +kernel
theorem dX10_turnIn_295 : decode cX10_turnIn 295 = .ok (.iaload, 1) := by decide +kernel
theorem dX10_turnIn_296 : decode cX10_turnIn 296 = .ok (.goto 17, 3) := by decide +kernel
theorem dX10_turnIn_299 : decode cX10_turnIn 299 = .ok (.aload_n 0, 1) := by decide +kernel
theorem dX10_turnIn_300 : decode cX10_turnIn 300 = .ok (.getfield 7, 3) := by decide +kernel
theorem dX10_turnIn_303 : decode cX10_turnIn 303 = .ok (.iload_n 1, 1) := by decide +kernel
theorem dX10_turnIn_304 : decode cX10_turnIn 304 = .ok (.bipush 6, 2) := by decide +kernel
theorem dX10_turnIn_306 : decode cX10_turnIn 306 = .ok (.iadd, 1) := by decide +kernel
theorem dX10_turnIn_307 : decode cX10_turnIn 307 = .ok (.iload 7, 2) := by decide +kernel
theorem dX10_turnIn_309 : decode cX10_turnIn 309 = .ok (.iadd, 1) := by decide +kernel
theorem dX10_turnIn_310 : decode cX10_turnIn 310 = .ok (.iaload, 1) := by decide +kernel
theorem dX10_turnIn_311 : decode cX10_turnIn 311 = .ok (.iconst 2, 1) := by decide +kernel
theorem dX10_turnIn_312 : decode cX10_turnIn 312 = .ok (.idiv, 1) := by decide +kernel
theorem dX10_turnIn_313 : decode cX10_turnIn 313 = .ok (.iastore, 1) := by decide +kernel
theorem dX10_turnIn_314 : decode cX10_turnIn 314 = .ok (.iinc 7 1, 3) := by decide +kernel
theorem dX10_turnIn_317 : decode cX10_turnIn 317 = .ok (.goto (-227), 3) := by decide +kernel
theorem dX10_turnIn_320 : decode cX10_turnIn 320 = .ok (.aload_n 0, 1) := by decide +kernel
theorem dX10_turnIn_321 : decode cX10_turnIn 321 = .ok (.getfield 7, 3) := by decide +kernel
theorem dX10_turnIn_324 : decode cX10_turnIn 324 = .ok (.iload_n 1, 1) := by decide +kernel
theorem dX10_turnIn_325 : decode cX10_turnIn 325 = .ok (.bipush 12, 2) := by decide +kernel
theorem dX10_turnIn_327 : decode cX10_turnIn 327 = .ok (.iadd, 1) := by decide +kernel
theorem dX10_turnIn_328 : decode cX10_turnIn 328 = .ok (.iload 5, 2) := by decide +kernel
theorem dX10_turnIn_330 : decode cX10_turnIn 330 = .ok (.iastore, 1) := by decide +kernel
theorem dX10_turnIn_331 : decode cX10_turnIn 331 = .ok (.aload_n 0, 1) := by decide +kernel
theorem dX10_turnIn_332 : decode cX10_turnIn 332 = .ok (.getfield 7, 3) := by decide +kernel
theorem dX10_turnIn_335 : decode cX10_turnIn 335 = .ok (.iload_n 1, 1) := by decide +kernel
theorem dX10_turnIn_336 : decode cX10_turnIn 336 = .ok (.bipush 13, 2) := by decide +kernel
theorem dX10_turnIn_338 : decode cX10_turnIn 338 = .ok (.iadd, 1) := by decide +kernel
theorem dX10_turnIn_339 : decode cX10_turnIn 339 = .ok (.iload 5, 2) := by decide +kernel
theorem dX10_turnIn_341 : decode cX10_turnIn 341 = .ok (.ifCond .ne 10, 3) := by decide +kernel
theorem dX10_turnIn_344 : decode cX10_turnIn 344 = .ok (.aload_n 0, 1) := by decide +kernel
theorem dX10_turnIn_345 : decode cX10_turnIn 345 = .ok (.getfield 123, 3) := by decide +kernel
theorem dX10_turnIn_348 : decode cX10_turnIn 348 = .ok (.goto 12, 3) := by decide +kernel
theorem dX10_turnIn_351 : decode cX10_turnIn 351 = .ok (.aload_n 0, 1) := by decide +kernel
theorem dX10_turnIn_352 : decode cX10_turnIn 352 = .ok (.getfield 7, 3) := by decide +kernel
theorem dX10_turnIn_355 : decode cX10_turnIn 355 = .ok (.iload_n 1, 1) := by decide +kernel
theorem dX10_turnIn_356 : decode cX10_turnIn 356 = .ok (.bipush 13, 2) := by decide +kernel
theorem dX10_turnIn_358 : decode cX10_turnIn 358 = .ok (.iadd, 1) := by decide +kernel
theorem dX10_turnIn_359 : decode cX10_turnIn 359 = .ok (.iaload, 1) := by decide +kernel
theorem dX10_turnIn_360 : decode cX10_turnIn 360 = .ok (.iastore, 1) := by decide +kernel
theorem dX10_turnIn_361 : decode cX10_turnIn 361 = .ok (.aload_n 0, 1) := by decide +kernel
theorem dX10_turnIn_362 : decode cX10_turnIn 362 = .ok (.getfield 7, 3) := by decide +kernel
theorem dX10_turnIn_365 : decode cX10_turnIn 365 = .ok (.iload_n 1, 1) := by decide +kernel
theorem dX10_turnIn_366 : decode cX10_turnIn 366 = .ok (.bipush 16, 2) := by decide +kernel
theorem dX10_turnIn_368 : decode cX10_turnIn 368 = .ok (.iadd, 1) := by decide +kernel
theorem dX10_turnIn_369 : decode cX10_turnIn 369 = .ok (.dup2, 1) := by decide +kernel
theorem dX10_turnIn_370 : decode cX10_turnIn 370 = .ok (.iaload, 1) := by decide +kernel
theorem dX10_turnIn_371 : decode cX10_turnIn 371 = .ok (.iconst 1, 1) := by decide +kernel
theorem dX10_turnIn_372 : decode cX10_turnIn 372 = .ok (.iadd, 1) := by decide +kernel
theorem dX10_turnIn_373 : decode cX10_turnIn 373 = .ok (.iastore, 1) := by decide +kernel
theorem dX10_turnIn_374 : decode cX10_turnIn 374 = .ok (.iload 6, 2) := by decide +kernel
theorem dX10_turnIn_376 : decode cX10_turnIn 376 = .ok (.ireturn, 1) := by decide +kernel
theorem dX10_plainTurn_0 : decode cX10_plainTurn 0 = .ok (.aload_n 0, 1) := by decide +kernel
theorem dX10_plainTurn_1 : decode cX10_plainTurn 1 = .ok (.iload_n 1, 1) := by decide +kernel
theorem dX10_plainTurn_2 : decode cX10_plainTurn 2 = .ok (.iconst 0, 1) := by decide +kernel
theorem dX10_plainTurn_3 : decode cX10_plainTurn 3 = .ok (.bipush (-9), 2) := by decide +kernel
theorem dX10_plainTurn_5 : decode cX10_plainTurn 5 = .ok (.iconst 0, 1) := by decide +kernel
theorem dX10_plainTurn_6 : decode cX10_plainTurn 6 = .ok (.invokevirtual 141, 3) := by decide +kernel
theorem dX10_plainTurn_9 : decode cX10_plainTurn 9 = .ok (.ireturn, 1) := by decide +kernel
theorem dX10_isOne_0 : decode cX10_isOne 0 = .ok (.iload_n 1, 1) := by decide +kernel
theorem dX10_isOne_1 : decode cX10_isOne 1 = .ok (.iconst 0, 1) := by decide +kernel
theorem dX10_isOne_2 : decode cX10_isOne 2 = .ok (.aload_n 0, 1) := by decide +kernel
theorem dX10_isOne_3 : decode cX10_isOne 3 = .ok (.getfield 120, 3) := by decide +kernel
theorem dX10_isOne_6 : decode cX10_isOne 6 = .ok (.iconst 1, 1) := by decide +kernel
theorem dX10_isOne_7 : decode cX10_isOne 7 = .ok (.isub, 1) := by decide +kernel
theorem dX10_isOne_8 : decode cX10_isOne 8 = .ok (.invokestatic 63, 3) := by decide +kernel
theorem dX10_isOne_11 : decode cX10_isOne 11 = .ok (.ireturn, 1) := by decide +kernel
theorem dX10_distance_0 : decode cX10_distance 0 = .ok (.aload_n 0, 1) := by decide +kernel
theorem dX10_distance_1 : decode cX10_distance 1 = .ok (.getfield 7, 3) := by decide +kernel
theorem dX10_distance_4 : decode cX10_distance 4 = .ok (.aload_n 0, 1) := by decide +kernel
theorem dX10_distance_5 : decode cX10_distance 5 = .ok (.invokevirtual 145, 3) := by decide +kernel
theorem dX10_distance_8 : decode cX10_distance 8 = .ok (.iload_n 1, 1) := by decide +kernel
theorem dX10_distance_9 : decode cX10_distance 9 = .ok (.iadd, 1) := by decide +kernel
theorem dX10_distance_10 : decode cX10_distance 10 = .ok (.iaload, 1) := by decide +kernel
theorem dX10_distance_11 : decode cX10_distance 11 = .ok (.aload_n 0, 1) := by decide +kernel
theorem dX10_distance_12 : decode cX10_distance 12 = .ok (.getfield 7, 3) := by decide +kernel
theorem dX10_distance_15 : decode cX10_distance 15 = .ok (.aload_n 0, 1) := by decide +kernel
theorem dX10_distance_16 : decode cX10_distance 16 = .ok (.invokevirtual 145, 3) := by decide +kernel
theorem dX10_distance_19 : decode cX10_distance 19 = .ok (.bipush 13, 2) := by decide +kernel
theorem dX10_distance_21 : decode cX10_distance 21 = .ok (.iadd, 1) := by decide +kernel
theorem dX10_distance_22 : decode cX10_distance 22 = .ok (.iaload, 1) := by decide +kernel
theorem dX10_distance_23 : decode cX10_distance 23 = .ok (.isub, 1) := by decide +kernel
theorem dX10_distance_24 : decode cX10_distance 24 = .ok (.istore_n 2, 1) := by decide +kernel
theorem dX10_distance_25 : decode cX10_distance 25 = .ok (.iload_n 2, 1) := by decide +kernel
theorem dX10_distance_26 : decode cX10_distance 26 = .ok (.ifCond .ge 8, 3) := by decide +kernel
theorem dX10_distance_29 : decode cX10_distance 29 = .ok (.iload_n 2, 1) := by decide +kernel
theorem dX10_distance_30 : decode cX10_distance 30 = .ok (.ineg, 1) := by decide +kernel
theorem dX10_distance_31 : decode cX10_distance 31 = .ok (.goto 4, 3) := by decide +kernel
theorem dX10_distance_34 : decode cX10_distance 34 = .ok (.iload_n 2, 1) := by decide +kernel
theorem dX10_distance_35 : decode cX10_distance 35 = .ok (.istore_n 2, 1) := by decide +kernel
theorem dX10_distance_36 : decode cX10_distance 36 = .ok (.iload_n 2, 1) := by decide +kernel
theorem dX10_distance_37 : decode cX10_distance 37 = .ok (.bipush 10, 2) := by decide +kernel
theorem dX10_distance_39 : decode cX10_distance 39 = .ok (.iload_n 2, 1) := by decide +kernel
theorem dX10_distance_40 : decode cX10_distance 40 = .ok (.isub, 1) := by decide +kernel
theorem dX10_distance_41 : decode cX10_distance 41 = .ok (.invokestatic 132, 3) := by decide +kernel
theorem dX10_distance_44 : decode cX10_distance 44 = .ok (.ireturn, 1) := by decide +kernel
theorem dX10_ofOne_0 : decode cX10_ofOne 0 = .ok (.iload_n 2, 1) := by decide +kernel
theorem dX10_ofOne_1 : decode cX10_ofOne 1 = .ok (.tableswitch 87 0 3 #[31, 38, 50, 65], 31) := by decide +kernel
theorem dX10_ofOne_32 : decode cX10_ofOne 32 = .ok (.aload_n 0, 1) := by decide +kernel
theorem dX10_ofOne_33 : decode cX10_ofOne 33 = .ok (.getfield 13, 3) := by decide +kernel
theorem dX10_ofOne_36 : decode cX10_ofOne 36 = .ok (.iload_n 1, 1) := by decide +kernel
theorem dX10_ofOne_37 : decode cX10_ofOne 37 = .ok (.iaload, 1) := by decide +kernel
theorem dX10_ofOne_38 : decode cX10_ofOne 38 = .ok (.ireturn, 1) := by decide +kernel
theorem dX10_ofOne_39 : decode cX10_ofOne 39 = .ok (.aload_n 0, 1) := by decide +kernel
theorem dX10_ofOne_40 : decode cX10_ofOne 40 = .ok (.getfield 7, 3) := by decide +kernel
theorem dX10_ofOne_43 : decode cX10_ofOne 43 = .ok (.aload_n 0, 1) := by decide +kernel
theorem dX10_ofOne_44 : decode cX10_ofOne 44 = .ok (.invokevirtual 145, 3) := by decide +kernel
theorem dX10_ofOne_47 : decode cX10_ofOne 47 = .ok (.iload_n 1, 1) := by decide +kernel
theorem dX10_ofOne_48 : decode cX10_ofOne 48 = .ok (.iadd, 1) := by decide +kernel
theorem dX10_ofOne_49 : decode cX10_ofOne 49 = .ok (.iaload, 1) := by decide +kernel
theorem dX10_ofOne_50 : decode cX10_ofOne 50 = .ok (.ireturn, 1) := by decide +kernel
theorem dX10_ofOne_51 : decode cX10_ofOne 51 = .ok (.aload_n 0, 1) := by decide +kernel
theorem dX10_ofOne_52 : decode cX10_ofOne 52 = .ok (.getfield 7, 3) := by decide +kernel
theorem dX10_ofOne_55 : decode cX10_ofOne 55 = .ok (.aload_n 0, 1) := by decide +kernel
theorem dX10_ofOne_56 : decode cX10_ofOne 56 = .ok (.invokevirtual 145, 3) := by decide +kernel
theorem dX10_ofOne_59 : decode cX10_ofOne 59 = .ok (.bipush 6, 2) := by decide +kernel
theorem dX10_ofOne_61 : decode cX10_ofOne 61 = .ok (.iadd, 1) := by decide +kernel
theorem dX10_ofOne_62 : decode cX10_ofOne 62 = .ok (.iload_n 1, 1) := by decide +kernel
theorem dX10_ofOne_63 : decode cX10_ofOne 63 = .ok (.iadd, 1) := by decide +kernel
theorem dX10_ofOne_64 : decode cX10_ofOne 64 = .ok (.iaload, 1) := by decide +kernel
theorem dX10_ofOne_65 : decode cX10_ofOne 65 = .ok (.ireturn, 1) := by decide +kernel
theorem dX10_ofOne_66 : decode cX10_ofOne 66 = .ok (.aload_n 0, 1) := by decide +kernel
theorem dX10_ofOne_67 : decode cX10_ofOne 67 = .ok (.getfield 13, 3) := by decide +kernel
theorem dX10_ofOne_70 : decode cX10_ofOne 70 = .ok (.iload_n 1, 1) := by decide +kernel
theorem dX10_ofOne_71 : decode cX10_ofOne 71 = .ok (.iaload, 1) := by decide +kernel
theorem dX10_ofOne_72 : decode cX10_ofOne 72 = .ok (.aload_n 0, 1) := by decide +kernel
theorem dX10_ofOne_73 : decode cX10_ofOne 73 = .ok (.getfield 7, 3) := by decide +kernel
theorem dX10_ofOne_76 : decode cX10_ofOne 76 = .ok (.aload_n 0, 1) := by decide +kernel
theorem dX10_ofOne_77 : decode cX10_ofOne 77 = .ok (.invokevirtual 145, 3) := by decide +kernel
theorem dX10_ofOne_80 : decode cX10_ofOne 80 = .ok (.bipush 12, 2) := by decide +kernel
theorem dX10_ofOne_82 : decode cX10_ofOne 82 = .ok (.iadd, 1) := by decide +kernel
theorem dX10_ofOne_83 : decode cX10_ofOne 83 = .ok (.iaload, 1) := by decide +kernel
theorem dX10_ofOne_84 : decode cX10_ofOne 84 = .ok (.invokestatic 138, 3) := by decide +kernel
theorem dX10_ofOne_87 : decode cX10_ofOne 87 = .ok (.ireturn, 1) := by decide +kernel
theorem dX10_ofOne_88 : decode cX10_ofOne 88 = .ok (.aload_n 0, 1) := by decide +kernel
theorem dX10_ofOne_89 : decode cX10_ofOne 89 = .ok (.iload_n 1, 1) := by decide +kernel
theorem dX10_ofOne_90 : decode cX10_ofOne 90 = .ok (.invokevirtual 149, 3) := by decide +kernel
theorem dX10_ofOne_93 : decode cX10_ofOne 93 = .ok (.ireturn, 1) := by decide +kernel
theorem dX10_one_0 : decode cX10_one 0 = .ok (.aload_n 0, 1) := by decide +kernel
theorem dX10_one_1 : decode cX10_one 1 = .ok (.iload_n 1, 1) := by decide +kernel
theorem dX10_one_2 : decode cX10_one 2 = .ok (.invokevirtual 152, 3) := by decide +kernel
theorem dX10_one_5 : decode cX10_one 5 = .ok (.ifCond .eq 25, 3) := by decide +kernel
theorem dX10_one_8 : decode cX10_one 8 = .ok (.iload_n 2, 1) := by decide +kernel
theorem dX10_one_9 : decode cX10_one 9 = .ok (.iconst 0, 1) := by decide +kernel
theorem dX10_one_10 : decode cX10_one 10 = .ok (.iconst 4, 1) := by decide +kernel
theorem dX10_one_11 : decode cX10_one 11 = .ok (.invokestatic 63, 3) := by decide +kernel
theorem dX10_one_14 : decode cX10_one 14 = .ok (.ifCond .eq 16, 3) := by decide +kernel
theorem dX10_one_17 : decode cX10_one 17 = .ok (.aload_n 0, 1) := by decide +kernel
theorem dX10_one_18 : decode cX10_one 18 = .ok (.aload_n 0, 1) := by decide +kernel
theorem dX10_one_19 : decode cX10_one 19 = .ok (.iload_n 1, 1) := by decide +kernel
theorem dX10_one_20 : decode cX10_one 20 = .ok (.iload_n 2, 1) := by decide +kernel
theorem dX10_one_21 : decode cX10_one 21 = .ok (.invokevirtual 155, 3) := by decide +kernel
theorem dX10_one_24 : decode cX10_one 24 = .ok (.invokevirtual 79, 3) := by decide +kernel
theorem dX10_one_27 : decode cX10_one 27 = .ok (.goto 4, 3) := by decide +kernel
theorem dX10_one_30 : decode cX10_one 30 = .ok (.iconst (-1), 1) := by decide +kernel
theorem dX10_one_31 : decode cX10_one 31 = .ok (.ireturn, 1) := by decide +kernel
theorem dX10_allHave_0 : decode cX10_allHave 0 = .ok (.iconst 0, 1) := by decide +kernel
theorem dX10_allHave_1 : decode cX10_allHave 1 = .ok (.istore_n 2, 1) := by decide +kernel
theorem dX10_allHave_2 : decode cX10_allHave 2 = .ok (.iconst 0, 1) := by decide +kernel
theorem dX10_allHave_3 : decode cX10_allHave 3 = .ok (.istore_n 3, 1) := by decide +kernel
theorem dX10_allHave_4 : decode cX10_allHave 4 = .ok (.iload_n 3, 1) := by decide +kernel
theorem dX10_allHave_5 : decode cX10_allHave 5 = .ok (.aload_n 0, 1) := by decide +kernel
theorem dX10_allHave_6 : decode cX10_allHave 6 = .ok (.getfield 120, 3) := by decide +kernel
theorem dX10_allHave_9 : decode cX10_allHave 9 = .ok (.if_icmp .ge 23, 3) := by decide +kernel
theorem dX10_allHave_12 : decode cX10_allHave 12 = .ok (.iload_n 2, 1) := by decide +kernel
theorem dX10_allHave_13 : decode cX10_allHave 13 = .ok (.aload_n 0, 1) := by decide +kernel
theorem dX10_allHave_14 : decode cX10_allHave 14 = .ok (.getfield 7, 3) := by decide +kernel
theorem dX10_allHave_17 : decode cX10_allHave 17 = .ok (.iload_n 1, 1) := by decide +kernel
theorem dX10_allHave_18 : decode cX10_allHave 18 = .ok (.bipush 6, 2) := by decide +kernel
theorem dX10_allHave_20 : decode cX10_allHave 20 = .ok (.iadd, 1) := by decide +kernel
theorem dX10_allHave_21 : decode cX10_allHave 21 = .ok (.iload_n 3, 1) := by decide +kernel
theorem dX10_allHave_22 : decode cX10_allHave 22 = .ok (.iadd, 1) := by decide +kernel
theorem dX10_allHave_23 : decode cX10_allHave 23 = .ok (.iaload, 1) := by decide +kernel
theorem dX10_allHave_24 : decode cX10_allHave 24 = .ok (.iadd, 1) := by decide +kernel
theorem dX10_allHave_25 : decode cX10_allHave 25 = .ok (.istore_n 2, 1) := by decide +kernel
theorem dX10_allHave_26 : decode cX10_allHave 26 = .ok (.iinc 3 1, 3) := by decide +kernel
theorem dX10_allHave_29 : decode cX10_allHave 29 = .ok (.goto (-25), 3) := by decide +kernel
theorem dX10_allHave_32 : decode cX10_allHave 32 = .ok (.iload_n 2, 1) := by decide +kernel
theorem dX10_allHave_33 : decode cX10_allHave 33 = .ok (.ireturn, 1) := by decide +kernel
theorem dX10_isOf_0 : decode cX10_isOf 0 = .ok (.iload_n 0, 1) := by decide +kernel
theorem dX10_isOf_1 : decode cX10_isOf 1 = .ok (.iload_n 1, 1) := by decide +kernel
theorem dX10_isOf_2 : decode cX10_isOf 2 = .ok (.if_icmp .eq 23, 3) := by decide +kernel
theorem dX10_isOf_5 : decode cX10_isOf 5 = .ok (.iload_n 0, 1) := by decide +kernel
theorem dX10_isOf_6 : decode cX10_isOf 6 = .ok (.iconst 4, 1) := by decide +kernel
theorem dX10_isOf_7 : decode cX10_isOf 7 = .ok (.if_icmp .ne 8, 3) := by decide +kernel
theorem dX10_isOf_10 : decode cX10_isOf 10 = .ok (.iload_n 1, 1) := by decide +kernel
theorem dX10_isOf_11 : decode cX10_isOf 11 = .ok (.iconst 1, 1) := by decide +kernel
theorem dX10_isOf_12 : decode cX10_isOf 12 = .ok (.if_icmp .eq 13, 3) := by decide +kernel
theorem dX10_isOf_15 : decode cX10_isOf 15 = .ok (.iload_n 0, 1) := by decide +kernel
theorem dX10_isOf_16 : decode cX10_isOf 16 = .ok (.iconst 5, 1) := by decide +kernel
theorem dX10_isOf_17 : decode cX10_isOf 17 = .ok (.if_icmp .ne 12, 3) := by decide +kernel
theorem dX10_isOf_20 : decode cX10_isOf 20 = .ok (.iload_n 1, 1) := by decide +kernel
theorem dX10_isOf_21 : decode cX10_isOf 21 = .ok (.iconst 3, 1) := by decide +kernel
theorem dX10_isOf_22 : decode cX10_isOf 22 = .ok (.if_icmp .ne 7, 3) := by decide +kernel
theorem dX10_isOf_25 : decode cX10_isOf 25 = .ok (.iconst 1, 1) := by decide +kernel
theorem dX10_isOf_26 : decode cX10_isOf 26 = .ok (.goto 4, 3) := by decide +kernel
theorem dX10_isOf_29 : decode cX10_isOf 29 = .ok (.iconst 0, 1) := by decide +kernel
theorem dX10_isOf_30 : decode cX10_isOf 30 = .ok (.ireturn, 1) := by decide +kernel
theorem dX10_leastAlike_0 : decode cX10_leastAlike 0 = .ok (.iload_n 1, 1) := by decide +kernel
theorem dX10_leastAlike_1 : decode cX10_leastAlike 1 = .ok (.aload_n 0, 1) := by decide +kernel
theorem dX10_leastAlike_2 : decode cX10_leastAlike 2 = .ok (.getfield 7, 3) := by decide +kernel
theorem dX10_leastAlike_5 : decode cX10_leastAlike 5 = .ok (.aload_n 0, 1) := by decide +kernel
theorem dX10_leastAlike_6 : decode cX10_leastAlike 6 = .ok (.invokevirtual 145, 3) := by decide +kernel
theorem dX10_leastAlike_9 : decode cX10_leastAlike 9 = .ok (.bipush 12, 2) := by decide +kernel
theorem dX10_leastAlike_11 : decode cX10_leastAlike 11 = .ok (.iadd, 1) := by decide +kernel
theorem dX10_leastAlike_12 : decode cX10_leastAlike 12 = .ok (.iaload, 1) := by decide +kernel
theorem dX10_leastAlike_13 : decode cX10_leastAlike 13 = .ok (.invokestatic 138, 3) := by decide +kernel
theorem dX10_leastAlike_16 : decode cX10_leastAlike 16 = .ok (.istore_n 2, 1) := by decide +kernel
theorem dX10_leastAlike_17 : decode cX10_leastAlike 17 = .ok (.iconst 0, 1) := by decide +kernel
theorem dX10_leastAlike_18 : decode cX10_leastAlike 18 = .ok (.istore_n 3, 1) := by decide +kernel
theorem dX10_leastAlike_19 : decode cX10_leastAlike 19 = .ok (.iload_n 1, 1) := by decide +kernel
theorem dX10_leastAlike_20 : decode cX10_leastAlike 20 = .ok (.iload_n 3, 1) := by decide +kernel
theorem dX10_leastAlike_21 : decode cX10_leastAlike 21 = .ok (.invokestatic 138, 3) := by decide +kernel
theorem dX10_leastAlike_24 : decode cX10_leastAlike 24 = .ok (.iload_n 2, 1) := by decide +kernel
theorem dX10_leastAlike_25 : decode cX10_leastAlike 25 = .ok (.if_icmp .eq 9, 3) := by decide +kernel
theorem dX10_leastAlike_28 : decode cX10_leastAlike 28 = .ok (.iinc 3 1, 3) := by decide +kernel
theorem dX10_leastAlike_31 : decode cX10_leastAlike 31 = .ok (.goto (-12), 3) := by decide +kernel
theorem dX10_leastAlike_34 : decode cX10_leastAlike 34 = .ok (.iload_n 3, 1) := by decide +kernel
theorem dX10_leastAlike_35 : decode cX10_leastAlike 35 = .ok (.ireturn, 1) := by decide +kernel
theorem dX10_mark_0 : decode cX10_mark 0 = .ok (.aload_n 0, 1) := by decide +kernel
theorem dX10_mark_1 : decode cX10_mark 1 = .ok (.iload_n 1, 1) := by decide +kernel
theorem dX10_mark_2 : decode cX10_mark 2 = .ok (.invokevirtual 152, 3) := by decide +kernel
theorem dX10_mark_5 : decode cX10_mark 5 = .ok (.ifCond .eq 12, 3) := by decide +kernel
theorem dX10_mark_8 : decode cX10_mark 8 = .ok (.iload_n 2, 1) := by decide +kernel
theorem dX10_mark_9 : decode cX10_mark 9 = .ok (.iconst 1, 1) := by decide +kernel
theorem dX10_mark_10 : decode cX10_mark 10 = .ok (.iconst 5, 1) := by decide +kernel
theorem dX10_mark_11 : decode cX10_mark 11 = .ok (.invokestatic 63, 3) := by decide +kernel
theorem dX10_mark_14 : decode cX10_mark 14 = .ok (.ifCond .ne 5, 3) := by decide +kernel
theorem dX10_mark_17 : decode cX10_mark 17 = .ok (.iconst (-1), 1) := by decide +kernel
theorem dX10_mark_18 : decode cX10_mark 18 = .ok (.ireturn, 1) := by decide +kernel
theorem dX10_mark_19 : decode cX10_mark 19 = .ok (.aload_n 0, 1) := by decide +kernel
theorem dX10_mark_20 : decode cX10_mark 20 = .ok (.getfield 13, 3) := by decide +kernel
theorem dX10_mark_23 : decode cX10_mark 23 = .ok (.iload_n 1, 1) := by decide +kernel
theorem dX10_mark_24 : decode cX10_mark 24 = .ok (.iaload, 1) := by decide +kernel
theorem dX10_mark_25 : decode cX10_mark 25 = .ok (.iload_n 2, 1) := by decide +kernel
theorem dX10_mark_26 : decode cX10_mark 26 = .ok (.invokestatic 158, 3) := by decide +kernel
theorem dX10_mark_29 : decode cX10_mark 29 = .ok (.ifCond .ne 9, 3) := by decide +kernel
theorem dX10_mark_32 : decode cX10_mark 32 = .ok (.aload_n 0, 1) := by decide +kernel
theorem dX10_mark_33 : decode cX10_mark 33 = .ok (.iconst 3, 1) := by decide +kernel
theorem dX10_mark_34 : decode cX10_mark 34 = .ok (.invokevirtual 71, 3) := by decide +kernel
theorem dX10_mark_37 : decode cX10_mark 37 = .ok (.ireturn, 1) := by decide +kernel
theorem dX10_mark_38 : decode cX10_mark 38 = .ok (.aload_n 0, 1) := by decide +kernel
theorem dX10_mark_39 : decode cX10_mark 39 = .ok (.getfield 7, 3) := by decide +kernel
theorem dX10_mark_42 : decode cX10_mark 42 = .ok (.aload_n 0, 1) := by decide +kernel
theorem dX10_mark_43 : decode cX10_mark 43 = .ok (.invokevirtual 145, 3) := by decide +kernel
theorem dX10_mark_46 : decode cX10_mark 46 = .ok (.bipush 12, 2) := by decide +kernel
theorem dX10_mark_48 : decode cX10_mark 48 = .ok (.iadd, 1) := by decide +kernel
theorem dX10_mark_49 : decode cX10_mark 49 = .ok (.iaload, 1) := by decide +kernel
theorem dX10_mark_50 : decode cX10_mark 50 = .ok (.istore_n 3, 1) := by decide +kernel
theorem dX10_mark_51 : decode cX10_mark 51 = .ok (.iload_n 2, 1) := by decide +kernel
theorem dX10_mark_52 : decode cX10_mark 52 = .ok (.tableswitch 90 1 4 #[32, 56, 74, 85], 32) := by decide +kernel
theorem dX10_mark_84 : decode cX10_mark 84 = .ok (.aload_n 0, 1) := by decide +kernel
theorem dX10_mark_85 : decode cX10_mark 85 = .ok (.aload_n 0, 1) := by decide +kernel
theorem dX10_mark_86 : decode cX10_mark 86 = .ok (.invokevirtual 145, 3) := by decide +kernel
theorem dX10_mark_89 : decode cX10_mark 89 = .ok (.invokevirtual 161, 3) := by decide +kernel
theorem dX10_mark_92 : decode cX10_mark 92 = .ok (.aload_n 0, 1) := by decide +kernel
theorem dX10_mark_93 : decode cX10_mark 93 = .ok (.getfield 7, 3) := by decide +kernel
theorem dX10_mark_96 : decode cX10_mark 96 = .ok (.aload_n 0, 1) := by decide +kernel
theorem dX10_mark_97 : decode cX10_mark 97 = .ok (.invokevirtual 145, 3) := by decide +kernel
theorem dX10_mark_100 : decode cX10_mark 100 = .ok (.bipush 6, 2) := by decide +kernel
theorem dX10_mark_102 : decode cX10_mark 102 = .ok (.iadd, 1) := by decide +kernel
theorem dX10_mark_103 : decode cX10_mark 103 = .ok (.iload_n 1, 1) := by decide +kernel
theorem dX10_mark_104 : decode cX10_mark 104 = .ok (.iadd, 1) := by decide +kernel
theorem dX10_mark_105 : decode cX10_mark 105 = .ok (.iaload, 1) := by decide +kernel
theorem dX10_mark_106 : decode cX10_mark 106 = .ok (.isub, 1) := by decide +kernel
theorem dX10_mark_107 : decode cX10_mark 107 = .ok (.ireturn, 1) := by decide +kernel
theorem dX10_mark_108 : decode cX10_mark 108 = .ok (.bipush 30, 2) := by decide +kernel
theorem dX10_mark_110 : decode cX10_mark 110 = .ok (.aload_n 0, 1) := by decide +kernel
theorem dX10_mark_111 : decode cX10_mark 111 = .ok (.getfield 7, 3) := by decide +kernel
theorem dX10_mark_114 : decode cX10_mark 114 = .ok (.aload_n 0, 1) := by decide +kernel
theorem dX10_mark_115 : decode cX10_mark 115 = .ok (.invokevirtual 145, 3) := by decide +kernel
theorem dX10_mark_118 : decode cX10_mark 118 = .ok (.bipush 6, 2) := by decide +kernel
theorem dX10_mark_120 : decode cX10_mark 120 = .ok (.iadd, 1) := by decide +kernel
theorem dX10_mark_121 : decode cX10_mark 121 = .ok (.iload_n 1, 1) := by decide +kernel
theorem dX10_mark_122 : decode cX10_mark 122 = .ok (.iadd, 1) := by decide +kernel
theorem dX10_mark_123 : decode cX10_mark 123 = .ok (.iaload, 1) := by decide +kernel
theorem dX10_mark_124 : decode cX10_mark 124 = .ok (.isub, 1) := by decide +kernel
theorem dX10_mark_125 : decode cX10_mark 125 = .ok (.ireturn, 1) := by decide +kernel
theorem dX10_mark_126 : decode cX10_mark 126 = .ok (.aload_n 0, 1) := by decide +kernel
theorem dX10_mark_127 : decode cX10_mark 127 = .ok (.aload_n 0, 1) := by decide +kernel
theorem dX10_mark_128 : decode cX10_mark 128 = .ok (.getfield 13, 3) := by decide +kernel
theorem dX10_mark_131 : decode cX10_mark 131 = .ok (.iload_n 1, 1) := by decide +kernel
theorem dX10_mark_132 : decode cX10_mark 132 = .ok (.iaload, 1) := by decide +kernel
theorem dX10_mark_133 : decode cX10_mark 133 = .ok (.invokevirtual 164, 3) := by decide +kernel
theorem dX10_mark_136 : decode cX10_mark 136 = .ok (.ireturn, 1) := by decide +kernel
theorem dX10_mark_137 : decode cX10_mark 137 = .ok (.bipush 60, 2) := by decide +kernel
theorem dX10_mark_139 : decode cX10_mark 139 = .ok (.iload_n 3, 1) := by decide +kernel
theorem dX10_mark_140 : decode cX10_mark 140 = .ok (.isub, 1) := by decide +kernel
theorem dX10_mark_141 : decode cX10_mark 141 = .ok (.ireturn, 1) := by decide +kernel
theorem dX10_mark_142 : decode cX10_mark 142 = .ok (.iload_n 3, 1) := by decide +kernel
theorem dX10_mark_143 : decode cX10_mark 143 = .ok (.bipush 20, 2) := by decide +kernel
theorem dX10_mark_145 : decode cX10_mark 145 = .ok (.if_icmp .lt 7, 3) := by decide +kernel
theorem dX10_mark_148 : decode cX10_mark 148 = .ok (.iconst 0, 1) := by decide +kernel
theorem dX10_mark_149 : decode cX10_mark 149 = .ok (.goto 7, 3) := by decide +kernel
theorem dX10_mark_152 : decode cX10_mark 152 = .ok (.bipush 20, 2) := by decide +kernel
theorem dX10_mark_154 : decode cX10_mark 154 = .ok (.iload_n 3, 1) := by decide +kernel
theorem dX10_mark_155 : decode cX10_mark 155 = .ok (.isub, 1) := by decide +kernel
theorem dX10_mark_156 : decode cX10_mark 156 = .ok (.ireturn, 1) := by decide +kernel
theorem dX10_begin_0 : decode cX10_begin 0 = .ok (.aload_n 0, 1) := by decide +kernel
theorem dX10_begin_1 : decode cX10_begin 1 = .ok (.aload_n 0, 1) := by decide +kernel
theorem dX10_begin_2 : decode cX10_begin 2 = .ok (.invokevirtual 145, 3) := by decide +kernel
theorem dX10_begin_5 : decode cX10_begin 5 = .ok (.aload_n 0, 1) := by decide +kernel
theorem dX10_begin_6 : decode cX10_begin 6 = .ok (.invokevirtual 145, 3) := by decide +kernel
theorem dX10_begin_9 : decode cX10_begin 9 = .ok (.bipush 17, 2) := by decide +kernel
theorem dX10_begin_11 : decode cX10_begin 11 = .ok (.iadd, 1) := by decide +kernel
theorem dX10_begin_12 : decode cX10_begin 12 = .ok (.invokevirtual 167, 3) := by decide +kernel
theorem dX10_begin_15 : decode cX10_begin 15 = .ok (.aload_n 0, 1) := by decide +kernel
theorem dX10_begin_16 : decode cX10_begin 16 = .ok (.dup, 1) := by decide +kernel
theorem dX10_begin_17 : decode cX10_begin 17 = .ok (.getfield 129, 3) := by decide +kernel
theorem dX10_begin_20 : decode cX10_begin 20 = .ok (.iconst 1, 1) := by decide +kernel
theorem dX10_begin_21 : decode cX10_begin 21 = .ok (.iadd, 1) := by decide +kernel
theorem dX10_begin_22 : decode cX10_begin 22 = .ok (.putfield 129, 3) := by decide +kernel
theorem dX10_begin_25 : decode cX10_begin 25 = .ok (.aload_n 0, 1) := by decide +kernel
theorem dX10_begin_26 : decode cX10_begin 26 = .ok (.invokevirtual 145, 3) := by decide +kernel
theorem dX10_begin_29 : decode cX10_begin 29 = .ok (.ireturn, 1) := by decide +kernel
theorem dX10_turn_0 : decode cX10_turn 0 = .ok (.aload_n 0, 1) := by decide +kernel
theorem dX10_turn_1 : decode cX10_turn 1 = .ok (.getfield 120, 3) := by decide +kernel
theorem dX10_turn_4 : decode cX10_turn 4 = .ok (.ifCond .ne 6, 3) := by decide +kernel
theorem dX10_turn_7 : decode cX10_turn 7 = .ok (.bipush (-4), 2) := by decide +kernel
theorem dX10_turn_9 : decode cX10_turn 9 = .ok (.ireturn, 1) := by decide +kernel
theorem dX10_turn_10 : decode cX10_turn 10 = .ok (.aload_n 0, 1) := by decide +kernel
theorem dX10_turn_11 : decode cX10_turn 11 = .ok (.getfield 129, 3) := by decide +kernel
theorem dX10_turn_14 : decode cX10_turn 14 = .ok (.bipush 40, 2) := by decide +kernel
theorem dX10_turn_16 : decode cX10_turn 16 = .ok (.if_icmp .ne 8, 3) := by decide +kernel
theorem dX10_turn_19 : decode cX10_turn 19 = .ok (.bipush (-2), 2) := by decide +kernel
theorem dX10_turn_21 : decode cX10_turn 21 = .ok (.goto 11, 3) := by decide +kernel
theorem dX10_turn_24 : decode cX10_turn 24 = .ok (.aload_n 0, 1) := by decide +kernel
theorem dX10_turn_25 : decode cX10_turn 25 = .ok (.aload_n 0, 1) := by decide +kernel
theorem dX10_turn_26 : decode cX10_turn 26 = .ok (.invokevirtual 171, 3) := by decide +kernel
theorem dX10_turn_29 : decode cX10_turn 29 = .ok (.invokevirtual 174, 3) := by decide +kernel
theorem dX10_turn_32 : decode cX10_turn 32 = .ok (.ireturn, 1) := by decide +kernel
theorem dX10_spoonIn_0 : decode cX10_spoonIn 0 = .ok (.aload_n 0, 1) := by decide +kernel
theorem dX10_spoonIn_1 : decode cX10_spoonIn 1 = .ok (.getfield 7, 3) := by decide +kernel
theorem dX10_spoonIn_4 : decode cX10_spoonIn 4 = .ok (.iload_n 1, 1) := by decide +kernel
theorem dX10_spoonIn_5 : decode cX10_spoonIn 5 = .ok (.bipush 12, 2) := by decide +kernel
theorem dX10_spoonIn_7 : decode cX10_spoonIn 7 = .ok (.iadd, 1) := by decide +kernel
theorem dX10_spoonIn_8 : decode cX10_spoonIn 8 = .ok (.bipush 60, 2) := by decide +kernel
theorem dX10_spoonIn_10 : decode cX10_spoonIn 10 = .ok (.aload_n 0, 1) := by decide +kernel
theorem dX10_spoonIn_11 : decode cX10_spoonIn 11 = .ok (.getfield 7, 3) := by decide +kernel
theorem dX10_spoonIn_14 : decode cX10_spoonIn 14 = .ok (.iload_n 1, 1) := by decide +kernel
theorem dX10_spoonIn_15 : decode cX10_spoonIn 15 = .ok (.bipush 12, 2) := by decide +kernel
theorem dX10_spoonIn_17 : decode cX10_spoonIn 17 = .ok (.iadd, 1) := by decide +kernel
theorem dX10_spoonIn_18 : decode cX10_spoonIn 18 = .ok (.iaload, 1) := by decide +kernel
theorem dX10_spoonIn_19 : decode cX10_spoonIn 19 = .ok (.iload_n 2, 1) := by decide +kernel
theorem dX10_spoonIn_20 : decode cX10_spoonIn 20 = .ok (.iadd, 1) := by decide +kernel
theorem dX10_spoonIn_21 : decode cX10_spoonIn 21 = .ok (.invokestatic 132, 3) := by decide +kernel
theorem dX10_spoonIn_24 : decode cX10_spoonIn 24 = .ok (.iastore, 1) := by decide +kernel
theorem dX10_spoonIn_25 : decode cX10_spoonIn 25 = .ok (.return_, 1) := by decide +kernel
theorem dX10_spoon_0 : decode cX10_spoon 0 = .ok (.iload_n 1, 1) := by decide +kernel
theorem dX10_spoon_1 : decode cX10_spoon 1 = .ok (.iconst 1, 1) := by decide +kernel
theorem dX10_spoon_2 : decode cX10_spoon 2 = .ok (.bipush 9, 2) := by decide +kernel
theorem dX10_spoon_4 : decode cX10_spoon 4 = .ok (.invokestatic 63, 3) := by decide +kernel
theorem dX10_spoon_7 : decode cX10_spoon 7 = .ok (.ifCond .ne 5, 3) := by decide +kernel
theorem dX10_spoon_10 : decode cX10_spoon 10 = .ok (.iconst (-1), 1) := by decide +kernel
theorem dX10_spoon_11 : decode cX10_spoon 11 = .ok (.ireturn, 1) := by decide +kernel
theorem dX10_spoon_12 : decode cX10_spoon 12 = .ok (.aload_n 0, 1) := by decide +kernel
theorem dX10_spoon_13 : decode cX10_spoon 13 = .ok (.getfield 120, 3) := by decide +kernel
theorem dX10_spoon_16 : decode cX10_spoon 16 = .ok (.ifCond .eq 20, 3) := by decide +kernel
theorem dX10_spoon_19 : decode cX10_spoon 19 = .ok (.aload_n 0, 1) := by decide +kernel
theorem dX10_spoon_20 : decode cX10_spoon 20 = .ok (.getfield 7, 3) := by decide +kernel
theorem dX10_spoon_23 : decode cX10_spoon 23 = .ok (.aload_n 0, 1) := by decide +kernel
theorem dX10_spoon_24 : decode cX10_spoon 24 = .ok (.invokevirtual 145, 3) := by decide +kernel
theorem dX10_spoon_27 : decode cX10_spoon 27 = .ok (.bipush 12, 2) := by decide +kernel
theorem dX10_spoon_29 : decode cX10_spoon 29 = .ok (.iadd, 1) := by decide +kernel
theorem dX10_spoon_30 : decode cX10_spoon 30 = .ok (.iaload, 1) := by decide +kernel
theorem dX10_spoon_31 : decode cX10_spoon 31 = .ok (.bipush 60, 2) := by decide +kernel
theorem dX10_spoon_33 : decode cX10_spoon 33 = .ok (.if_icmp .ne 6, 3) := by decide +kernel
theorem dX10_spoon_36 : decode cX10_spoon 36 = .ok (.bipush (-4), 2) := by decide +kernel
theorem dX10_spoon_38 : decode cX10_spoon 38 = .ok (.ireturn, 1) := by decide +kernel
theorem dX10_spoon_39 : decode cX10_spoon 39 = .ok (.aload_n 0, 1) := by decide +kernel
theorem dX10_spoon_40 : decode cX10_spoon 40 = .ok (.getfield 129, 3) := by decide +kernel
theorem dX10_spoon_43 : decode cX10_spoon 43 = .ok (.bipush 40, 2) := by decide +kernel
theorem dX10_spoon_45 : decode cX10_spoon 45 = .ok (.if_icmp .ne 6, 3) := by decide +kernel
theorem dX10_spoon_48 : decode cX10_spoon 48 = .ok (.bipush (-2), 2) := by decide +kernel
theorem dX10_spoon_50 : decode cX10_spoon 50 = .ok (.ireturn, 1) := by decide +kernel
theorem dX10_spoon_51 : decode cX10_spoon 51 = .ok (.aload_n 0, 1) := by decide +kernel
theorem dX10_spoon_52 : decode cX10_spoon 52 = .ok (.aload_n 0, 1) := by decide +kernel
theorem dX10_spoon_53 : decode cX10_spoon 53 = .ok (.invokevirtual 171, 3) := by decide +kernel
theorem dX10_spoon_56 : decode cX10_spoon 56 = .ok (.iload_n 1, 1) := by decide +kernel
theorem dX10_spoon_57 : decode cX10_spoon 57 = .ok (.invokevirtual 177, 3) := by decide +kernel
theorem dX10_spoon_60 : decode cX10_spoon 60 = .ok (.aload_n 0, 1) := by decide +kernel
theorem dX10_spoon_61 : decode cX10_spoon 61 = .ok (.getfield 7, 3) := by decide +kernel
theorem dX10_spoon_64 : decode cX10_spoon 64 = .ok (.aload_n 0, 1) := by decide +kernel
theorem dX10_spoon_65 : decode cX10_spoon 65 = .ok (.invokevirtual 145, 3) := by decide +kernel
theorem dX10_spoon_68 : decode cX10_spoon 68 = .ok (.bipush 12, 2) := by decide +kernel
theorem dX10_spoon_70 : decode cX10_spoon 70 = .ok (.iadd, 1) := by decide +kernel
theorem dX10_spoon_71 : decode cX10_spoon 71 = .ok (.iaload, 1) := by decide +kernel
theorem dX10_spoon_72 : decode cX10_spoon 72 = .ok (.ireturn, 1) := by decide +kernel
theorem dX10_wind_0 : decode cX10_wind 0 = .ok (.iload_n 1, 1) := by decide +kernel
theorem dX10_wind_1 : decode cX10_wind 1 = .ok (.iconst 0, 1) := by decide +kernel
theorem dX10_wind_2 : decode cX10_wind 2 = .ok (.iconst 2, 1) := by decide +kernel
theorem dX10_wind_3 : decode cX10_wind 3 = .ok (.invokestatic 63, 3) := by decide +kernel
theorem dX10_wind_6 : decode cX10_wind 6 = .ok (.ifCond .ne 5, 3) := by decide +kernel
theorem dX10_wind_9 : decode cX10_wind 9 = .ok (.iconst (-1), 1) := by decide +kernel
theorem dX10_wind_10 : decode cX10_wind 10 = .ok (.ireturn, 1) := by decide +kernel
theorem dX10_wind_11 : decode cX10_wind 11 = .ok (.aload_n 0, 1) := by decide +kernel
theorem dX10_wind_12 : decode cX10_wind 12 = .ok (.getfield 120, 3) := by decide +kernel
theorem dX10_wind_15 : decode cX10_wind 15 = .ok (.ifCond .eq 19, 3) := by decide +kernel
theorem dX10_wind_18 : decode cX10_wind 18 = .ok (.aload_n 0, 1) := by decide +kernel
theorem dX10_wind_19 : decode cX10_wind 19 = .ok (.getfield 7, 3) := by decide +kernel
theorem dX10_wind_22 : decode cX10_wind 22 = .ok (.aload_n 0, 1) := by decide +kernel
theorem dX10_wind_23 : decode cX10_wind 23 = .ok (.invokevirtual 145, 3) := by decide +kernel
theorem dX10_wind_26 : decode cX10_wind 26 = .ok (.bipush 14, 2) := by decide +kernel
theorem dX10_wind_28 : decode cX10_wind 28 = .ok (.iadd, 1) := by decide +kernel
theorem dX10_wind_29 : decode cX10_wind 29 = .ok (.iaload, 1) := by decide +kernel
theorem dX10_wind_30 : decode cX10_wind 30 = .ok (.iload_n 1, 1) := by decide +kernel
theorem dX10_wind_31 : decode cX10_wind 31 = .ok (.if_icmp .ne 6, 3) := by decide +kernel
theorem dX10_wind_34 : decode cX10_wind 34 = .ok (.bipush (-4), 2) := by decide +kernel
theorem dX10_wind_36 : decode cX10_wind 36 = .ok (.ireturn, 1) := by decide +kernel
theorem dX10_wind_37 : decode cX10_wind 37 = .ok (.aload_n 0, 1) := by decide +kernel
theorem dX10_wind_38 : decode cX10_wind 38 = .ok (.getfield 129, 3) := by decide +kernel
theorem dX10_wind_41 : decode cX10_wind 41 = .ok (.bipush 40, 2) := by decide +kernel
theorem dX10_wind_43 : decode cX10_wind 43 = .ok (.if_icmp .ne 6, 3) := by decide +kernel
theorem dX10_wind_46 : decode cX10_wind 46 = .ok (.bipush (-2), 2) := by decide +kernel
theorem dX10_wind_48 : decode cX10_wind 48 = .ok (.ireturn, 1) := by decide +kernel
theorem dX10_wind_49 : decode cX10_wind 49 = .ok (.aload_n 0, 1) := by decide +kernel
theorem dX10_wind_50 : decode cX10_wind 50 = .ok (.getfield 7, 3) := by decide +kernel
theorem dX10_wind_53 : decode cX10_wind 53 = .ok (.aload_n 0, 1) := by decide +kernel
theorem dX10_wind_54 : decode cX10_wind 54 = .ok (.invokevirtual 145, 3) := by decide +kernel
theorem dX10_wind_57 : decode cX10_wind 57 = .ok (.bipush 14, 2) := by decide +kernel
theorem dX10_wind_59 : decode cX10_wind 59 = .ok (.iadd, 1) := by decide +kernel
theorem dX10_wind_60 : decode cX10_wind 60 = .ok (.iaload, 1) := by decide +kernel
theorem dX10_wind_61 : decode cX10_wind 61 = .ok (.istore_n 2, 1) := by decide +kernel
theorem dX10_wind_62 : decode cX10_wind 62 = .ok (.aload_n 0, 1) := by decide +kernel
theorem dX10_wind_63 : decode cX10_wind 63 = .ok (.getfield 7, 3) := by decide +kernel
theorem dX10_wind_66 : decode cX10_wind 66 = .ok (.aload_n 0, 1) := by decide +kernel
theorem dX10_wind_67 : decode cX10_wind 67 = .ok (.invokevirtual 171, 3) := by decide +kernel
theorem dX10_wind_70 : decode cX10_wind 70 = .ok (.bipush 14, 2) := by decide +kernel
theorem dX10_wind_72 : decode cX10_wind 72 = .ok (.iadd, 1) := by decide +kernel
theorem dX10_wind_73 : decode cX10_wind 73 = .ok (.iload_n 1, 1) := by decide +kernel
theorem dX10_wind_74 : decode cX10_wind 74 = .ok (.iastore, 1) := by decide +kernel
theorem dX10_wind_75 : decode cX10_wind 75 = .ok (.iload_n 2, 1) := by decide +kernel
theorem dX10_wind_76 : decode cX10_wind 76 = .ok (.ireturn, 1) := by decide +kernel
theorem dX10_rain_0 : decode cX10_rain 0 = .ok (.iload_n 1, 1) := by decide +kernel
theorem dX10_rain_1 : decode cX10_rain 1 = .ok (.iconst 0, 1) := by decide +kernel
theorem dX10_rain_2 : decode cX10_rain 2 = .ok (.iconst 1, 1) := by decide +kernel
theorem dX10_rain_3 : decode cX10_rain 3 = .ok (.invokestatic 63, 3) := by decide +kernel
theorem dX10_rain_6 : decode cX10_rain 6 = .ok (.ifCond .ne 5, 3) := by decide +kernel
theorem dX10_rain_9 : decode cX10_rain 9 = .ok (.iconst (-1), 1) := by decide +kernel
theorem dX10_rain_10 : decode cX10_rain 10 = .ok (.ireturn, 1) := by decide +kernel
theorem dX10_rain_11 : decode cX10_rain 11 = .ok (.aload_n 0, 1) := by decide +kernel
theorem dX10_rain_12 : decode cX10_rain 12 = .ok (.getfield 120, 3) := by decide +kernel
theorem dX10_rain_15 : decode cX10_rain 15 = .ok (.ifCond .eq 19, 3) := by decide +kernel
theorem dX10_rain_18 : decode cX10_rain 18 = .ok (.aload_n 0, 1) := by decide +kernel
theorem dX10_rain_19 : decode cX10_rain 19 = .ok (.getfield 7, 3) := by decide +kernel
theorem dX10_rain_22 : decode cX10_rain 22 = .ok (.aload_n 0, 1) := by decide +kernel
theorem dX10_rain_23 : decode cX10_rain 23 = .ok (.invokevirtual 145, 3) := by decide +kernel
theorem dX10_rain_26 : decode cX10_rain 26 = .ok (.bipush 15, 2) := by decide +kernel
theorem dX10_rain_28 : decode cX10_rain 28 = .ok (.iadd, 1) := by decide +kernel
theorem dX10_rain_29 : decode cX10_rain 29 = .ok (.iaload, 1) := by decide +kernel
theorem dX10_rain_30 : decode cX10_rain 30 = .ok (.iload_n 1, 1) := by decide +kernel
theorem dX10_rain_31 : decode cX10_rain 31 = .ok (.if_icmp .ne 6, 3) := by decide +kernel
theorem dX10_rain_34 : decode cX10_rain 34 = .ok (.bipush (-4), 2) := by decide +kernel
theorem dX10_rain_36 : decode cX10_rain 36 = .ok (.ireturn, 1) := by decide +kernel
theorem dX10_rain_37 : decode cX10_rain 37 = .ok (.aload_n 0, 1) := by decide +kernel
theorem dX10_rain_38 : decode cX10_rain 38 = .ok (.getfield 129, 3) := by decide +kernel
theorem dX10_rain_41 : decode cX10_rain 41 = .ok (.bipush 40, 2) := by decide +kernel
theorem dX10_rain_43 : decode cX10_rain 43 = .ok (.if_icmp .ne 6, 3) := by decide +kernel
theorem dX10_rain_46 : decode cX10_rain 46 = .ok (.bipush (-2), 2) := by decide +kernel
theorem dX10_rain_48 : decode cX10_rain 48 = .ok (.ireturn, 1) := by decide +kernel
theorem dX10_rain_49 : decode cX10_rain 49 = .ok (.aload_n 0, 1) := by decide +kernel
theorem dX10_rain_50 : decode cX10_rain 50 = .ok (.getfield 7, 3) := by decide +kernel
theorem dX10_rain_53 : decode cX10_rain 53 = .ok (.aload_n 0, 1) := by decide +kernel
theorem dX10_rain_54 : decode cX10_rain 54 = .ok (.invokevirtual 171, 3) := by decide +kernel
theorem dX10_rain_57 : decode cX10_rain 57 = .ok (.bipush 15, 2) := by decide +kernel
theorem dX10_rain_59 : decode cX10_rain 59 = .ok (.iadd, 1) := by decide +kernel
theorem dX10_rain_60 : decode cX10_rain 60 = .ok (.iload_n 1, 1) := by decide +kernel
theorem dX10_rain_61 : decode cX10_rain 61 = .ok (.iastore, 1) := by decide +kernel
theorem dX10_rain_62 : decode cX10_rain 62 = .ok (.iload_n 1, 1) := by decide +kernel
theorem dX10_rain_63 : decode cX10_rain 63 = .ok (.ireturn, 1) := by decide +kernel
theorem dX10_stand_0 : decode cX10_stand 0 = .ok (.aload_n 0, 1) := by decide +kernel
theorem dX10_stand_1 : decode cX10_stand 1 = .ok (.iload_n 1, 1) := by decide +kernel
theorem dX10_stand_2 : decode cX10_stand 2 = .ok (.invokevirtual 152, 3) := by decide +kernel
theorem dX10_stand_5 : decode cX10_stand 5 = .ok (.ifCond .eq 13, 3) := by decide +kernel
theorem dX10_stand_8 : decode cX10_stand 8 = .ok (.iload_n 2, 1) := by decide +kernel
theorem dX10_stand_9 : decode cX10_stand 9 = .ok (.iconst 0, 1) := by decide +kernel
theorem dX10_stand_10 : decode cX10_stand 10 = .ok (.bipush 9, 2) := by decide +kernel
theorem dX10_stand_12 : decode cX10_stand 12 = .ok (.invokestatic 63, 3) := by decide +kernel
theorem dX10_stand_15 : decode cX10_stand 15 = .ok (.ifCond .ne 5, 3) := by decide +kernel
theorem dX10_stand_18 : decode cX10_stand 18 = .ok (.iconst (-1), 1) := by decide +kernel
theorem dX10_stand_19 : decode cX10_stand 19 = .ok (.ireturn, 1) := by decide +kernel
theorem dX10_stand_20 : decode cX10_stand 20 = .ok (.aload_n 0, 1) := by decide +kernel
theorem dX10_stand_21 : decode cX10_stand 21 = .ok (.getfield 7, 3) := by decide +kernel
theorem dX10_stand_24 : decode cX10_stand 24 = .ok (.aload_n 0, 1) := by decide +kernel
theorem dX10_stand_25 : decode cX10_stand 25 = .ok (.invokevirtual 145, 3) := by decide +kernel
theorem dX10_stand_28 : decode cX10_stand 28 = .ok (.iload_n 1, 1) := by decide +kernel
theorem dX10_stand_29 : decode cX10_stand 29 = .ok (.iadd, 1) := by decide +kernel
theorem dX10_stand_30 : decode cX10_stand 30 = .ok (.iaload, 1) := by decide +kernel
theorem dX10_stand_31 : decode cX10_stand 31 = .ok (.iload_n 2, 1) := by decide +kernel
theorem dX10_stand_32 : decode cX10_stand 32 = .ok (.if_icmp .ne 6, 3) := by decide +kernel
theorem dX10_stand_35 : decode cX10_stand 35 = .ok (.bipush (-4), 2) := by decide +kernel
theorem dX10_stand_37 : decode cX10_stand 37 = .ok (.ireturn, 1) := by decide +kernel
theorem dX10_stand_38 : decode cX10_stand 38 = .ok (.aload_n 0, 1) := by decide +kernel
theorem dX10_stand_39 : decode cX10_stand 39 = .ok (.getfield 129, 3) := by decide +kernel
theorem dX10_stand_42 : decode cX10_stand 42 = .ok (.bipush 40, 2) := by decide +kernel
theorem dX10_stand_44 : decode cX10_stand 44 = .ok (.if_icmp .ne 6, 3) := by decide +kernel
theorem dX10_stand_47 : decode cX10_stand 47 = .ok (.bipush (-2), 2) := by decide +kernel
theorem dX10_stand_49 : decode cX10_stand 49 = .ok (.ireturn, 1) := by decide +kernel
theorem dX10_stand_50 : decode cX10_stand 50 = .ok (.aload_n 0, 1) := by decide +kernel
theorem dX10_stand_51 : decode cX10_stand 51 = .ok (.getfield 7, 3) := by decide +kernel
theorem dX10_stand_54 : decode cX10_stand 54 = .ok (.aload_n 0, 1) := by decide +kernel
theorem dX10_stand_55 : decode cX10_stand 55 = .ok (.invokevirtual 145, 3) := by decide +kernel
theorem dX10_stand_58 : decode cX10_stand 58 = .ok (.iload_n 1, 1) := by decide +kernel
theorem dX10_stand_59 : decode cX10_stand 59 = .ok (.iadd, 1) := by decide +kernel
theorem dX10_stand_60 : decode cX10_stand 60 = .ok (.iaload, 1) := by decide +kernel
theorem dX10_stand_61 : decode cX10_stand 61 = .ok (.istore_n 3, 1) := by decide +kernel
theorem dX10_stand_62 : decode cX10_stand 62 = .ok (.aload_n 0, 1) := by decide +kernel
theorem dX10_stand_63 : decode cX10_stand 63 = .ok (.getfield 7, 3) := by decide +kernel
theorem dX10_stand_66 : decode cX10_stand 66 = .ok (.aload_n 0, 1) := by decide +kernel
theorem dX10_stand_67 : decode cX10_stand 67 = .ok (.invokevirtual 171, 3) := by decide +kernel
theorem dX10_stand_70 : decode cX10_stand 70 = .ok (.iload_n 1, 1) := by decide +kernel
theorem dX10_stand_71 : decode cX10_stand 71 = .ok (.iadd, 1) := by decide +kernel
theorem dX10_stand_72 : decode cX10_stand 72 = .ok (.iload_n 2, 1) := by decide +kernel
theorem dX10_stand_73 : decode cX10_stand 73 = .ok (.iastore, 1) := by decide +kernel
theorem dX10_stand_74 : decode cX10_stand 74 = .ok (.iload_n 3, 1) := by decide +kernel
theorem dX10_stand_75 : decode cX10_stand 75 = .ok (.ireturn, 1) := by decide +kernel
theorem dX10_undo_0 : decode cX10_undo 0 = .ok (.iload_n 1, 1) := by decide +kernel
theorem dX10_undo_1 : decode cX10_undo 1 = .ok (.iconst 0, 1) := by decide +kernel
theorem dX10_undo_2 : decode cX10_undo 2 = .ok (.aload_n 0, 1) := by decide +kernel
theorem dX10_undo_3 : decode cX10_undo 3 = .ok (.getfield 129, 3) := by decide +kernel
theorem dX10_undo_6 : decode cX10_undo 6 = .ok (.invokestatic 63, 3) := by decide +kernel
theorem dX10_undo_9 : decode cX10_undo 9 = .ok (.ifCond .ne 5, 3) := by decide +kernel
theorem dX10_undo_12 : decode cX10_undo 12 = .ok (.iconst (-1), 1) := by decide +kernel
theorem dX10_undo_13 : decode cX10_undo 13 = .ok (.ireturn, 1) := by decide +kernel
theorem dX10_undo_14 : decode cX10_undo 14 = .ok (.aload_n 0, 1) := by decide +kernel
theorem dX10_undo_15 : decode cX10_undo 15 = .ok (.getfield 129, 3) := by decide +kernel
theorem dX10_undo_18 : decode cX10_undo 18 = .ok (.iload_n 1, 1) := by decide +kernel
theorem dX10_undo_19 : decode cX10_undo 19 = .ok (.isub, 1) := by decide +kernel
theorem dX10_undo_20 : decode cX10_undo 20 = .ok (.istore_n 2, 1) := by decide +kernel
theorem dX10_undo_21 : decode cX10_undo 21 = .ok (.aload_n 0, 1) := by decide +kernel
theorem dX10_undo_22 : decode cX10_undo 22 = .ok (.iload_n 1, 1) := by decide +kernel
theorem dX10_undo_23 : decode cX10_undo 23 = .ok (.putfield 129, 3) := by decide +kernel
theorem dX10_undo_26 : decode cX10_undo 26 = .ok (.iload_n 2, 1) := by decide +kernel
theorem dX10_undo_27 : decode cX10_undo 27 = .ok (.ireturn, 1) := by decide +kernel
theorem dX10_keep_0 : decode cX10_keep 0 = .ok (.iload_n 1, 1) := by decide +kernel
theorem dX10_keep_1 : decode cX10_keep 1 = .ok (.iconst 0, 1) := by decide +kernel
theorem dX10_keep_2 : decode cX10_keep 2 = .ok (.iconst 2, 1) := by decide +kernel
theorem dX10_keep_3 : decode cX10_keep 3 = .ok (.invokestatic 63, 3) := by decide +kernel
theorem dX10_keep_6 : decode cX10_keep 6 = .ok (.ifCond .ne 5, 3) := by decide +kernel
theorem dX10_keep_9 : decode cX10_keep 9 = .ok (.iconst (-1), 1) := by decide +kernel
theorem dX10_keep_10 : decode cX10_keep 10 = .ok (.ireturn, 1) := by decide +kernel
theorem dX10_keep_11 : decode cX10_keep 11 = .ok (.aload_n 0, 1) := by decide +kernel
theorem dX10_keep_12 : decode cX10_keep 12 = .ok (.getfield 120, 3) := by decide +kernel
theorem dX10_keep_15 : decode cX10_keep 15 = .ok (.ifCond .ne 6, 3) := by decide +kernel
theorem dX10_keep_18 : decode cX10_keep 18 = .ok (.bipush (-4), 2) := by decide +kernel
theorem dX10_keep_20 : decode cX10_keep 20 = .ok (.ireturn, 1) := by decide +kernel
theorem dX10_keep_21 : decode cX10_keep 21 = .ok (.iconst 0, 1) := by decide +kernel
theorem dX10_keep_22 : decode cX10_keep 22 = .ok (.istore_n 2, 1) := by decide +kernel
theorem dX10_keep_23 : decode cX10_keep 23 = .ok (.iload_n 2, 1) := by decide +kernel
theorem dX10_keep_24 : decode cX10_keep 24 = .ok (.sipush 697, 3) := by decide +kernel
theorem dX10_keep_27 : decode cX10_keep 27 = .ok (.if_icmp .ge 29, 3) := by decide +kernel
theorem dX10_keep_30 : decode cX10_keep 30 = .ok (.aload_n 0, 1) := by decide +kernel
theorem dX10_keep_31 : decode cX10_keep 31 = .ok (.getfield 7, 3) := by decide +kernel
theorem dX10_keep_34 : decode cX10_keep 34 = .ok (.sipush 697, 3) := by decide +kernel
theorem dX10_keep_37 : decode cX10_keep 37 = .ok (.iload_n 1, 1) := by decide +kernel
theorem dX10_keep_38 : decode cX10_keep 38 = .ok (.iconst 1, 1) := by decide +kernel
theorem dX10_keep_39 : decode cX10_keep 39 = .ok (.iadd, 1) := by decide +kernel
theorem dX10_keep_40 : decode cX10_keep 40 = .ok (.imul, 1) := by decide +kernel
theorem dX10_keep_41 : decode cX10_keep 41 = .ok (.iload_n 2, 1) := by decide +kernel
theorem dX10_keep_42 : decode cX10_keep 42 = .ok (.iadd, 1) := by decide +kernel
theorem dX10_keep_43 : decode cX10_keep 43 = .ok (.aload_n 0, 1) := by decide +kernel
theorem dX10_keep_44 : decode cX10_keep 44 = .ok (.getfield 7, 3) := by decide +kernel
theorem dX10_keep_47 : decode cX10_keep 47 = .ok (.iload_n 2, 1) := by decide +kernel
theorem dX10_keep_48 : decode cX10_keep 48 = .ok (.iaload, 1) := by decide +kernel
theorem dX10_keep_49 : decode cX10_keep 49 = .ok (.iastore, 1) := by decide +kernel
theorem dX10_keep_50 : decode cX10_keep 50 = .ok (.iinc 2 1, 3) := by decide +kernel
theorem dX10_keep_53 : decode cX10_keep 53 = .ok (.goto (-30), 3) := by decide +kernel
theorem dX10_keep_56 : decode cX10_keep 56 = .ok (.aload_n 0, 1) := by decide +kernel
theorem dX10_keep_57 : decode cX10_keep 57 = .ok (.getfield 16, 3) := by decide +kernel
theorem dX10_keep_60 : decode cX10_keep 60 = .ok (.iload_n 1, 1) := by decide +kernel
theorem dX10_keep_61 : decode cX10_keep 61 = .ok (.aload_n 0, 1) := by decide +kernel
theorem dX10_keep_62 : decode cX10_keep 62 = .ok (.getfield 129, 3) := by decide +kernel
theorem dX10_keep_65 : decode cX10_keep 65 = .ok (.iastore, 1) := by decide +kernel
theorem dX10_keep_66 : decode cX10_keep 66 = .ok (.aload_n 0, 1) := by decide +kernel
theorem dX10_keep_67 : decode cX10_keep 67 = .ok (.getfield 129, 3) := by decide +kernel
theorem dX10_keep_70 : decode cX10_keep 70 = .ok (.ireturn, 1) := by decide +kernel
theorem dX10_on_0 : decode cX10_on 0 = .ok (.iload_n 1, 1) := by decide +kernel
theorem dX10_on_1 : decode cX10_on 1 = .ok (.iconst 0, 1) := by decide +kernel
theorem dX10_on_2 : decode cX10_on 2 = .ok (.iconst 2, 1) := by decide +kernel
theorem dX10_on_3 : decode cX10_on 3 = .ok (.invokestatic 63, 3) := by decide +kernel
theorem dX10_on_6 : decode cX10_on 6 = .ok (.ifCond .ne 5, 3) := by decide +kernel
theorem dX10_on_9 : decode cX10_on 9 = .ok (.iconst (-1), 1) := by decide +kernel
theorem dX10_on_10 : decode cX10_on 10 = .ok (.ireturn, 1) := by decide +kernel
theorem dX10_on_11 : decode cX10_on 11 = .ok (.aload_n 0, 1) := by decide +kernel
theorem dX10_on_12 : decode cX10_on 12 = .ok (.getfield 16, 3) := by decide +kernel
theorem dX10_on_15 : decode cX10_on 15 = .ok (.iload_n 1, 1) := by decide +kernel
theorem dX10_on_16 : decode cX10_on 16 = .ok (.iaload, 1) := by decide +kernel
theorem dX10_on_17 : decode cX10_on 17 = .ok (.bipush (-9), 2) := by decide +kernel
theorem dX10_on_19 : decode cX10_on 19 = .ok (.if_icmp .ne 9, 3) := by decide +kernel
theorem dX10_on_22 : decode cX10_on 22 = .ok (.aload_n 0, 1) := by decide +kernel
theorem dX10_on_23 : decode cX10_on 23 = .ok (.iconst 1, 1) := by decide +kernel
theorem dX10_on_24 : decode cX10_on 24 = .ok (.invokevirtual 71, 3) := by decide +kernel
theorem dX10_on_27 : decode cX10_on 27 = .ok (.ireturn, 1) := by decide +kernel
theorem dX10_on_28 : decode cX10_on 28 = .ok (.iconst 0, 1) := by decide +kernel
theorem dX10_on_29 : decode cX10_on 29 = .ok (.istore_n 2, 1) := by decide +kernel
theorem dX10_on_30 : decode cX10_on 30 = .ok (.iload_n 2, 1) := by decide +kernel
theorem dX10_on_31 : decode cX10_on 31 = .ok (.sipush 697, 3) := by decide +kernel
theorem dX10_on_34 : decode cX10_on 34 = .ok (.if_icmp .ge 29, 3) := by decide +kernel
theorem dX10_on_37 : decode cX10_on 37 = .ok (.aload_n 0, 1) := by decide +kernel
theorem dX10_on_38 : decode cX10_on 38 = .ok (.getfield 7, 3) := by decide +kernel
theorem dX10_on_41 : decode cX10_on 41 = .ok (.iload_n 2, 1) := by decide +kernel
theorem dX10_on_42 : decode cX10_on 42 = .ok (.aload_n 0, 1) := by decide +kernel
theorem dX10_on_43 : decode cX10_on 43 = .ok (.getfield 7, 3) := by decide +kernel
theorem dX10_on_46 : decode cX10_on 46 = .ok (.sipush 697, 3) := by decide +kernel
theorem dX10_on_49 : decode cX10_on 49 = .ok (.iload_n 1, 1) := by decide +kernel
theorem dX10_on_50 : decode cX10_on 50 = .ok (.iconst 1, 1) := by decide +kernel
theorem dX10_on_51 : decode cX10_on 51 = .ok (.iadd, 1) := by decide +kernel
theorem dX10_on_52 : decode cX10_on 52 = .ok (.imul, 1) := by decide +kernel
theorem dX10_on_53 : decode cX10_on 53 = .ok (.iload_n 2, 1) := by decide +kernel
theorem dX10_on_54 : decode cX10_on 54 = .ok (.iadd, 1) := by decide +kernel
theorem dX10_on_55 : decode cX10_on 55 = .ok (.iaload, 1) := by decide +kernel
theorem dX10_on_56 : decode cX10_on 56 = .ok (.iastore, 1) := by decide +kernel
theorem dX10_on_57 : decode cX10_on 57 = .ok (.iinc 2 1, 3) := by decide +kernel
theorem dX10_on_60 : decode cX10_on 60 = .ok (.goto (-30), 3) := by decide +kernel
theorem dX10_on_63 : decode cX10_on 63 = .ok (.aload_n 0, 1) := by decide +kernel
theorem dX10_on_64 : decode cX10_on 64 = .ok (.aload_n 0, 1) := by decide +kernel
theorem dX10_on_65 : decode cX10_on 65 = .ok (.getfield 16, 3) := by decide +kernel
theorem dX10_on_68 : decode cX10_on 68 = .ok (.iload_n 1, 1) := by decide +kernel
theorem dX10_on_69 : decode cX10_on 69 = .ok (.iaload, 1) := by decide +kernel
theorem dX10_on_70 : decode cX10_on 70 = .ok (.putfield 129, 3) := by decide +kernel
theorem dX10_on_73 : decode cX10_on 73 = .ok (.aload_n 0, 1) := by decide +kernel
theorem dX10_on_74 : decode cX10_on 74 = .ok (.getfield 129, 3) := by decide +kernel
theorem dX10_on_77 : decode cX10_on 77 = .ok (.ireturn, 1) := by decide +kernel
theorem dX10_gathers_0 : decode cX10_gathers 0 = .ok (.aload_n 0, 1) := by decide +kernel
theorem dX10_gathers_1 : decode cX10_gathers 1 = .ok (.iload_n 1, 1) := by decide +kernel
theorem dX10_gathers_2 : decode cX10_gathers 2 = .ok (.invokevirtual 152, 3) := by decide +kernel
theorem dX10_gathers_5 : decode cX10_gathers 5 = .ok (.ifCond .eq 26, 3) := by decide +kernel
theorem dX10_gathers_8 : decode cX10_gathers 8 = .ok (.iload_n 2, 1) := by decide +kernel
theorem dX10_gathers_9 : decode cX10_gathers 9 = .ok (.iconst 0, 1) := by decide +kernel
theorem dX10_gathers_10 : decode cX10_gathers 10 = .ok (.bipush 60, 2) := by decide +kernel
theorem dX10_gathers_12 : decode cX10_gathers 12 = .ok (.invokestatic 63, 3) := by decide +kernel
theorem dX10_gathers_15 : decode cX10_gathers 15 = .ok (.ifCond .eq 16, 3) := by decide +kernel
theorem dX10_gathers_18 : decode cX10_gathers 18 = .ok (.aload_n 0, 1) := by decide +kernel
theorem dX10_gathers_19 : decode cX10_gathers 19 = .ok (.getfield 13, 3) := by decide +kernel
theorem dX10_gathers_22 : decode cX10_gathers 22 = .ok (.iload_n 1, 1) := by decide +kernel
theorem dX10_gathers_23 : decode cX10_gathers 23 = .ok (.iaload, 1) := by decide +kernel
theorem dX10_gathers_24 : decode cX10_gathers 24 = .ok (.iload_n 2, 1) := by decide +kernel
theorem dX10_gathers_25 : decode cX10_gathers 25 = .ok (.invokestatic 138, 3) := by decide +kernel
theorem dX10_gathers_28 : decode cX10_gathers 28 = .ok (.goto 4, 3) := by decide +kernel
theorem dX10_gathers_31 : decode cX10_gathers 31 = .ok (.iconst (-1), 1) := by decide +kernel
theorem dX10_gathers_32 : decode cX10_gathers 32 = .ok (.ireturn, 1) := by decide +kernel
theorem dX10_goOn_0 : decode cX10_goOn 0 = .ok (.aload_n 0, 1) := by decide +kernel
theorem dX10_goOn_1 : decode cX10_goOn 1 = .ok (.aload_n 0, 1) := by decide +kernel
theorem dX10_goOn_2 : decode cX10_goOn 2 = .ok (.invokevirtual 145, 3) := by decide +kernel
theorem dX10_goOn_5 : decode cX10_goOn 5 = .ok (.sipush 2788, 3) := by decide +kernel
theorem dX10_goOn_8 : decode cX10_goOn 8 = .ok (.invokevirtual 167, 3) := by decide +kernel
theorem dX10_goOn_11 : decode cX10_goOn 11 = .ok (.iconst 0, 1) := by decide +kernel
theorem dX10_goOn_12 : decode cX10_goOn 12 = .ok (.istore_n 3, 1) := by decide +kernel
theorem dX10_goOn_13 : decode cX10_goOn 13 = .ok (.iload_n 3, 1) := by decide +kernel
theorem dX10_goOn_14 : decode cX10_goOn 14 = .ok (.iload_n 1, 1) := by decide +kernel
theorem dX10_goOn_15 : decode cX10_goOn 15 = .ok (.if_icmp .ge 22, 3) := by decide +kernel
theorem dX10_goOn_18 : decode cX10_goOn 18 = .ok (.aload_n 0, 1) := by decide +kernel
theorem dX10_goOn_19 : decode cX10_goOn 19 = .ok (.sipush 2788, 3) := by decide +kernel
theorem dX10_goOn_22 : decode cX10_goOn 22 = .ok (.iload_n 2, 1) := by decide +kernel
theorem dX10_goOn_23 : decode cX10_goOn 23 = .ok (.bipush (-9), 2) := by decide +kernel
theorem dX10_goOn_25 : decode cX10_goOn 25 = .ok (.iconst 0, 1) := by decide +kernel
theorem dX10_goOn_26 : decode cX10_goOn 26 = .ok (.invokevirtual 141, 3) := by decide +kernel
theorem dX10_goOn_29 : decode cX10_goOn 29 = .ok (.istore 4, 2) := by decide +kernel
theorem dX10_goOn_31 : decode cX10_goOn 31 = .ok (.iinc 3 1, 3) := by decide +kernel
theorem dX10_goOn_34 : decode cX10_goOn 34 = .ok (.goto (-21), 3) := by decide +kernel
theorem dX10_goOn_37 : decode cX10_goOn 37 = .ok (.return_, 1) := by decide +kernel
theorem dX10_cloud_0 : decode cX10_cloud 0 = .ok (.iload_n 1, 1) := by decide +kernel
theorem dX10_cloud_1 : decode cX10_cloud 1 = .ok (.iconst 0, 1) := by decide +kernel
theorem dX10_cloud_2 : decode cX10_cloud 2 = .ok (.bipush 40, 2) := by decide +kernel
theorem dX10_cloud_4 : decode cX10_cloud 4 = .ok (.invokestatic 63, 3) := by decide +kernel
theorem dX10_cloud_7 : decode cX10_cloud 7 = .ok (.ifCond .ne 5, 3) := by decide +kernel
theorem dX10_cloud_10 : decode cX10_cloud 10 = .ok (.iconst (-1), 1) := by decide +kernel
theorem dX10_cloud_11 : decode cX10_cloud 11 = .ok (.ireturn, 1) := by decide +kernel
theorem dX10_cloud_12 : decode cX10_cloud 12 = .ok (.aload_n 0, 1) := by decide +kernel
theorem dX10_cloud_13 : decode cX10_cloud 13 = .ok (.getfield 120, 3) := by decide +kernel
theorem dX10_cloud_16 : decode cX10_cloud 16 = .ok (.ifCond .ne 6, 3) := by decide +kernel
theorem dX10_cloud_19 : decode cX10_cloud 19 = .ok (.bipush (-4), 2) := by decide +kernel
theorem dX10_cloud_21 : decode cX10_cloud 21 = .ok (.ireturn, 1) := by decide +kernel
theorem dX10_cloud_22 : decode cX10_cloud 22 = .ok (.aload_n 0, 1) := by decide +kernel
theorem dX10_cloud_23 : decode cX10_cloud 23 = .ok (.iload_n 1, 1) := by decide +kernel
theorem dX10_cloud_24 : decode cX10_cloud 24 = .ok (.iconst 0, 1) := by decide +kernel
theorem dX10_cloud_25 : decode cX10_cloud 25 = .ok (.invokevirtual 180, 3) := by decide +kernel
theorem dX10_cloud_28 : decode cX10_cloud 28 = .ok (.aload_n 0, 1) := by decide +kernel
theorem dX10_cloud_29 : decode cX10_cloud 29 = .ok (.aload_n 0, 1) := by decide +kernel
theorem dX10_cloud_30 : decode cX10_cloud 30 = .ok (.getfield 7, 3) := by decide +kernel
theorem dX10_cloud_33 : decode cX10_cloud 33 = .ok (.sipush 2801, 3) := by decide +kernel
theorem dX10_cloud_36 : decode cX10_cloud 36 = .ok (.iaload, 1) := by decide +kernel
theorem dX10_cloud_37 : decode cX10_cloud 37 = .ok (.putfield 60, 3) := by decide +kernel
theorem dX10_cloud_40 : decode cX10_cloud 40 = .ok (.aload_n 0, 1) := by decide +kernel
theorem dX10_cloud_41 : decode cX10_cloud 41 = .ok (.getfield 7, 3) := by decide +kernel
theorem dX10_cloud_44 : decode cX10_cloud 44 = .ok (.sipush 2800, 3) := by decide +kernel
theorem dX10_cloud_47 : decode cX10_cloud 47 = .ok (.iaload, 1) := by decide +kernel
theorem dX10_cloud_48 : decode cX10_cloud 48 = .ok (.ireturn, 1) := by decide +kernel
theorem dX10_share_0 : decode cX10_share 0 = .ok (.aload_n 0, 1) := by decide +kernel
theorem dX10_share_1 : decode cX10_share 1 = .ok (.iload_n 1, 1) := by decide +kernel
theorem dX10_share_2 : decode cX10_share 2 = .ok (.invokevirtual 152, 3) := by decide +kernel
theorem dX10_share_5 : decode cX10_share 5 = .ok (.ifCond .eq 13, 3) := by decide +kernel
theorem dX10_share_8 : decode cX10_share 8 = .ok (.iload_n 2, 1) := by decide +kernel
theorem dX10_share_9 : decode cX10_share 9 = .ok (.iconst 0, 1) := by decide +kernel
theorem dX10_share_10 : decode cX10_share 10 = .ok (.bipush 40, 2) := by decide +kernel
theorem dX10_share_12 : decode cX10_share 12 = .ok (.invokestatic 63, 3) := by decide +kernel
theorem dX10_share_15 : decode cX10_share 15 = .ok (.ifCond .ne 5, 3) := by decide +kernel
theorem dX10_share_18 : decode cX10_share 18 = .ok (.iconst (-1), 1) := by decide +kernel
theorem dX10_share_19 : decode cX10_share 19 = .ok (.ireturn, 1) := by decide +kernel
theorem dX10_share_20 : decode cX10_share 20 = .ok (.aload_n 0, 1) := by decide +kernel
theorem dX10_share_21 : decode cX10_share 21 = .ok (.iload_n 2, 1) := by decide +kernel
theorem dX10_share_22 : decode cX10_share 22 = .ok (.iconst 0, 1) := by decide +kernel
theorem dX10_share_23 : decode cX10_share 23 = .ok (.invokevirtual 180, 3) := by decide +kernel
theorem dX10_share_26 : decode cX10_share 26 = .ok (.aload_n 0, 1) := by decide +kernel
theorem dX10_share_27 : decode cX10_share 27 = .ok (.getfield 7, 3) := by decide +kernel
theorem dX10_share_30 : decode cX10_share 30 = .ok (.sipush 2794, 3) := by decide +kernel
theorem dX10_share_33 : decode cX10_share 33 = .ok (.iload_n 1, 1) := by decide +kernel
theorem dX10_share_34 : decode cX10_share 34 = .ok (.iadd, 1) := by decide +kernel
theorem dX10_share_35 : decode cX10_share 35 = .ok (.iaload, 1) := by decide +kernel
theorem dX10_share_36 : decode cX10_share 36 = .ok (.ireturn, 1) := by decide +kernel
theorem dX10_first_0 : decode cX10_first 0 = .ok (.aload_n 0, 1) := by decide +kernel
theorem dX10_first_1 : decode cX10_first 1 = .ok (.iload_n 1, 1) := by decide +kernel
theorem dX10_first_2 : decode cX10_first 2 = .ok (.invokevirtual 152, 3) := by decide +kernel
theorem dX10_first_5 : decode cX10_first 5 = .ok (.ifCond .ne 5, 3) := by decide +kernel
theorem dX10_first_8 : decode cX10_first 8 = .ok (.iconst (-1), 1) := by decide +kernel
theorem dX10_first_9 : decode cX10_first 9 = .ok (.ireturn, 1) := by decide +kernel
theorem dX10_first_10 : decode cX10_first 10 = .ok (.aload_n 0, 1) := by decide +kernel
theorem dX10_first_11 : decode cX10_first 11 = .ok (.aload_n 0, 1) := by decide +kernel
theorem dX10_first_12 : decode cX10_first 12 = .ok (.invokevirtual 145, 3) := by decide +kernel
theorem dX10_first_15 : decode cX10_first 15 = .ok (.sipush 2788, 3) := by decide +kernel
theorem dX10_first_18 : decode cX10_first 18 = .ok (.invokevirtual 167, 3) := by decide +kernel
theorem dX10_first_21 : decode cX10_first 21 = .ok (.iconst 1, 1) := by decide +kernel
theorem dX10_first_22 : decode cX10_first 22 = .ok (.istore_n 2, 1) := by decide +kernel
theorem dX10_first_23 : decode cX10_first 23 = .ok (.iload_n 2, 1) := by decide +kernel
theorem dX10_first_24 : decode cX10_first 24 = .ok (.bipush 40, 2) := by decide +kernel
theorem dX10_first_26 : decode cX10_first 26 = .ok (.if_icmp .gt 25, 3) := by decide +kernel
theorem dX10_first_29 : decode cX10_first 29 = .ok (.aload_n 0, 1) := by decide +kernel
theorem dX10_first_30 : decode cX10_first 30 = .ok (.sipush 2788, 3) := by decide +kernel
theorem dX10_first_33 : decode cX10_first 33 = .ok (.invokevirtual 174, 3) := by decide +kernel
theorem dX10_first_36 : decode cX10_first 36 = .ok (.iload_n 1, 1) := by decide +kernel
theorem dX10_first_37 : decode cX10_first 37 = .ok (.invokestatic 135, 3) := by decide +kernel
theorem dX10_first_40 : decode cX10_first 40 = .ok (.ifCond .eq 5, 3) := by decide +kernel
theorem dX10_first_43 : decode cX10_first 43 = .ok (.iload_n 2, 1) := by decide +kernel
theorem dX10_first_44 : decode cX10_first 44 = .ok (.ireturn, 1) := by decide +kernel
theorem dX10_first_45 : decode cX10_first 45 = .ok (.iinc 2 1, 3) := by decide +kernel
theorem dX10_first_48 : decode cX10_first 48 = .ok (.goto (-25), 3) := by decide +kernel
theorem dX10_first_51 : decode cX10_first 51 = .ok (.bipush (-9), 2) := by decide +kernel
theorem dX10_first_53 : decode cX10_first 53 = .ok (.ireturn, 1) := by decide +kernel
theorem dX10_bits_0 : decode cX10_bits 0 = .ok (.iconst 0, 1) := by decide +kernel
theorem dX10_bits_1 : decode cX10_bits 1 = .ok (.istore_n 1, 1) := by decide +kernel
theorem dX10_bits_2 : decode cX10_bits 2 = .ok (.iconst 0, 1) := by decide +kernel
theorem dX10_bits_3 : decode cX10_bits 3 = .ok (.istore_n 2, 1) := by decide +kernel
theorem dX10_bits_4 : decode cX10_bits 4 = .ok (.iload_n 2, 1) := by decide +kernel
theorem dX10_bits_5 : decode cX10_bits 5 = .ok (.bipush 31, 2) := by decide +kernel
theorem dX10_bits_7 : decode cX10_bits 7 = .ok (.if_icmp .ge 17, 3) := by decide +kernel
theorem dX10_bits_10 : decode cX10_bits 10 = .ok (.iload_n 1, 1) := by decide +kernel
theorem dX10_bits_11 : decode cX10_bits 11 = .ok (.iload_n 0, 1) := by decide +kernel
theorem dX10_bits_12 : decode cX10_bits 12 = .ok (.iload_n 2, 1) := by decide +kernel
theorem dX10_bits_13 : decode cX10_bits 13 = .ok (.ishr, 1) := by decide +kernel
theorem dX10_bits_14 : decode cX10_bits 14 = .ok (.iconst 1, 1) := by decide +kernel
theorem dX10_bits_15 : decode cX10_bits 15 = .ok (.iand, 1) := by decide +kernel
theorem dX10_bits_16 : decode cX10_bits 16 = .ok (.iadd, 1) := by decide +kernel
theorem dX10_bits_17 : decode cX10_bits 17 = .ok (.istore_n 1, 1) := by decide +kernel
theorem dX10_bits_18 : decode cX10_bits 18 = .ok (.iinc 2 1, 3) := by decide +kernel
theorem dX10_bits_21 : decode cX10_bits 21 = .ok (.goto (-17), 3) := by decide +kernel
theorem dX10_bits_24 : decode cX10_bits 24 = .ok (.iload_n 1, 1) := by decide +kernel
theorem dX10_bits_25 : decode cX10_bits 25 = .ok (.ireturn, 1) := by decide +kernel
theorem dX10_away_0 : decode cX10_away 0 = .ok (.aload_n 0, 1) := by decide +kernel
theorem dX10_away_1 : decode cX10_away 1 = .ok (.iload_n 1, 1) := by decide +kernel
theorem dX10_away_2 : decode cX10_away 2 = .ok (.invokevirtual 152, 3) := by decide +kernel
theorem dX10_away_5 : decode cX10_away 5 = .ok (.ifCond .eq 23, 3) := by decide +kernel
theorem dX10_away_8 : decode cX10_away 8 = .ok (.iload_n 2, 1) := by decide +kernel
theorem dX10_away_9 : decode cX10_away 9 = .ok (.iconst 0, 1) := by decide +kernel
theorem dX10_away_10 : decode cX10_away 10 = .ok (.bipush 30, 2) := by decide +kernel
theorem dX10_away_12 : decode cX10_away 12 = .ok (.invokestatic 63, 3) := by decide +kernel
theorem dX10_away_15 : decode cX10_away 15 = .ok (.ifCond .eq 13, 3) := by decide +kernel
theorem dX10_away_18 : decode cX10_away 18 = .ok (.iload_n 3, 1) := by decide +kernel
theorem dX10_away_19 : decode cX10_away 19 = .ok (.iconst 1, 1) := by decide +kernel
theorem dX10_away_20 : decode cX10_away 20 = .ok (.bipush 20, 2) := by decide +kernel
theorem dX10_away_22 : decode cX10_away 22 = .ok (.invokestatic 63, 3) := by decide +kernel
theorem dX10_away_25 : decode cX10_away 25 = .ok (.ifCond .ne 5, 3) := by decide +kernel
theorem dX10_away_28 : decode cX10_away 28 = .ok (.iconst (-1), 1) := by decide +kernel
theorem dX10_away_29 : decode cX10_away 29 = .ok (.ireturn, 1) := by decide +kernel
theorem dX10_away_30 : decode cX10_away 30 = .ok (.bipush (-9), 2) := by decide +kernel
theorem dX10_away_32 : decode cX10_away 32 = .ok (.istore 4, 2) := by decide +kernel
theorem dX10_away_34 : decode cX10_away 34 = .ok (.iconst 0, 1) := by decide +kernel
theorem dX10_away_35 : decode cX10_away 35 = .ok (.istore 5, 2) := by decide +kernel
theorem dX10_away_37 : decode cX10_away 37 = .ok (.iload 5, 2) := by decide +kernel
theorem dX10_away_39 : decode cX10_away 39 = .ok (.iconst 1, 1) := by decide +kernel
theorem dX10_away_40 : decode cX10_away 40 = .ok (.aload_n 0, 1) := by decide +kernel
theorem dX10_away_41 : decode cX10_away 41 = .ok (.getfield 120, 3) := by decide +kernel
theorem dX10_away_44 : decode cX10_away 44 = .ok (.ishl, 1) := by decide +kernel
theorem dX10_away_45 : decode cX10_away 45 = .ok (.if_icmp .ge 68, 3) := by decide +kernel
theorem dX10_away_48 : decode cX10_away 48 = .ok (.iload 5, 2) := by decide +kernel
theorem dX10_away_50 : decode cX10_away 50 = .ok (.iload_n 1, 1) := by decide +kernel
theorem dX10_away_51 : decode cX10_away 51 = .ok (.invokestatic 135, 3) := by decide +kernel
theorem dX10_away_54 : decode cX10_away 54 = .ok (.ifCond .ne 53, 3) := by decide +kernel
theorem dX10_away_57 : decode cX10_away 57 = .ok (.iload 4, 2) := by decide +kernel
theorem dX10_away_59 : decode cX10_away 59 = .ok (.bipush (-9), 2) := by decide +kernel
theorem dX10_away_61 : decode cX10_away 61 = .ok (.if_icmp .eq 16, 3) := by decide +kernel
theorem dX10_away_64 : decode cX10_away 64 = .ok (.iload 5, 2) := by decide +kernel
theorem dX10_away_66 : decode cX10_away 66 = .ok (.invokestatic 183, 3) := by decide +kernel
theorem dX10_away_69 : decode cX10_away 69 = .ok (.iload 4, 2) := by decide +kernel
theorem dX10_away_71 : decode cX10_away 71 = .ok (.invokestatic 183, 3) := by decide +kernel
theorem dX10_away_74 : decode cX10_away 74 = .ok (.if_icmp .ge 33, 3) := by decide +kernel
theorem dX10_away_77 : decode cX10_away 77 = .ok (.aload_n 0, 1) := by decide +kernel
theorem dX10_away_78 : decode cX10_away 78 = .ok (.iload_n 3, 1) := by decide +kernel
theorem dX10_away_79 : decode cX10_away 79 = .ok (.iload 5, 2) := by decide +kernel
theorem dX10_away_81 : decode cX10_away 81 = .ok (.invokevirtual 180, 3) := by decide +kernel
theorem dX10_away_84 : decode cX10_away 84 = .ok (.aload_n 0, 1) := by decide +kernel
theorem dX10_away_85 : decode cX10_away 85 = .ok (.getfield 7, 3) := by decide +kernel
theorem dX10_away_88 : decode cX10_away 88 = .ok (.sipush 2794, 3) := by decide +kernel
theorem dX10_away_91 : decode cX10_away 91 = .ok (.iload_n 1, 1) := by decide +kernel
theorem dX10_away_92 : decode cX10_away 92 = .ok (.iadd, 1) := by decide +kernel
theorem dX10_away_93 : decode cX10_away 93 = .ok (.iaload, 1) := by decide +kernel
theorem dX10_away_94 : decode cX10_away 94 = .ok (.iload_n 2, 1) := by decide +kernel
theorem dX10_away_95 : decode cX10_away 95 = .ok (.if_icmp .lt 8, 3) := by decide +kernel
theorem dX10_away_98 : decode cX10_away 98 = .ok (.iload 5, 2) := by decide +kernel
theorem dX10_away_100 : decode cX10_away 100 = .ok (.goto 5, 3) := by decide +kernel
theorem dX10_away_103 : decode cX10_away 103 = .ok (.iload 4, 2) := by decide +kernel
theorem dX10_away_105 : decode cX10_away 105 = .ok (.istore 4, 2) := by decide +kernel
theorem dX10_away_107 : decode cX10_away 107 = .ok (.iinc 5 1, 3) := by decide +kernel
theorem dX10_away_110 : decode cX10_away 110 = .ok (.goto (-73), 3) := by decide +kernel
theorem dX10_away_113 : decode cX10_away 113 = .ok (.iload 4, 2) := by decide +kernel
theorem dX10_away_115 : decode cX10_away 115 = .ok (.bipush (-9), 2) := by decide +kernel
theorem dX10_away_117 : decode cX10_away 117 = .ok (.if_icmp .ne 6, 3) := by decide +kernel
theorem dX10_away_120 : decode cX10_away 120 = .ok (.bipush (-9), 2) := by decide +kernel
theorem dX10_away_122 : decode cX10_away 122 = .ok (.ireturn, 1) := by decide +kernel
theorem dX10_away_123 : decode cX10_away 123 = .ok (.aload_n 0, 1) := by decide +kernel
theorem dX10_away_124 : decode cX10_away 124 = .ok (.iload 4, 2) := by decide +kernel
theorem dX10_away_126 : decode cX10_away 126 = .ok (.putfield 60, 3) := by decide +kernel
theorem dX10_away_129 : decode cX10_away 129 = .ok (.iload 4, 2) := by decide +kernel
theorem dX10_away_131 : decode cX10_away 131 = .ok (.invokestatic 183, 3) := by decide +kernel
theorem dX10_away_134 : decode cX10_away 134 = .ok (.ireturn, 1) := by decide +kernel
theorem dX10_best_0 : decode cX10_best 0 = .ok (.aload_n 0, 1) := by decide +kernel
theorem dX10_best_1 : decode cX10_best 1 = .ok (.iload_n 1, 1) := by decide +kernel
theorem dX10_best_2 : decode cX10_best 2 = .ok (.invokevirtual 152, 3) := by decide +kernel
theorem dX10_best_5 : decode cX10_best 5 = .ok (.ifCond .eq 13, 3) := by decide +kernel
theorem dX10_best_8 : decode cX10_best 8 = .ok (.iload_n 2, 1) := by decide +kernel
theorem dX10_best_9 : decode cX10_best 9 = .ok (.iconst 1, 1) := by decide +kernel
theorem dX10_best_10 : decode cX10_best 10 = .ok (.bipush 20, 2) := by decide +kernel
theorem dX10_best_12 : decode cX10_best 12 = .ok (.invokestatic 63, 3) := by decide +kernel
theorem dX10_best_15 : decode cX10_best 15 = .ok (.ifCond .ne 5, 3) := by decide +kernel
theorem dX10_best_18 : decode cX10_best 18 = .ok (.iconst (-1), 1) := by decide +kernel
theorem dX10_best_19 : decode cX10_best 19 = .ok (.ireturn, 1) := by decide +kernel
theorem dX10_best_20 : decode cX10_best 20 = .ok (.bipush (-9), 2) := by decide +kernel
theorem dX10_best_22 : decode cX10_best 22 = .ok (.istore_n 3, 1) := by decide +kernel
theorem dX10_best_23 : decode cX10_best 23 = .ok (.iconst (-1), 1) := by decide +kernel
theorem dX10_best_24 : decode cX10_best 24 = .ok (.istore 4, 2) := by decide +kernel
theorem dX10_best_26 : decode cX10_best 26 = .ok (.iconst 0, 1) := by decide +kernel
theorem dX10_best_27 : decode cX10_best 27 = .ok (.istore 5, 2) := by decide +kernel
theorem dX10_best_29 : decode cX10_best 29 = .ok (.iload 5, 2) := by decide +kernel
theorem dX10_best_31 : decode cX10_best 31 = .ok (.bipush 10, 2) := by decide +kernel
theorem dX10_best_33 : decode cX10_best 33 = .ok (.if_icmp .ge 110, 3) := by decide +kernel
theorem dX10_best_36 : decode cX10_best 36 = .ok (.aload_n 0, 1) := by decide +kernel
theorem dX10_best_37 : decode cX10_best 37 = .ok (.aload_n 0, 1) := by decide +kernel
theorem dX10_best_38 : decode cX10_best 38 = .ok (.invokevirtual 145, 3) := by decide +kernel
theorem dX10_best_41 : decode cX10_best 41 = .ok (.sipush 2788, 3) := by decide +kernel
theorem dX10_best_44 : decode cX10_best 44 = .ok (.invokevirtual 167, 3) := by decide +kernel
theorem dX10_best_47 : decode cX10_best 47 = .ok (.aload_n 0, 1) := by decide +kernel
theorem dX10_best_48 : decode cX10_best 48 = .ok (.getfield 7, 3) := by decide +kernel
theorem dX10_best_51 : decode cX10_best 51 = .ok (.sipush 2788, 3) := by decide +kernel
theorem dX10_best_54 : decode cX10_best 54 = .ok (.iload_n 1, 1) := by decide +kernel
theorem dX10_best_55 : decode cX10_best 55 = .ok (.iadd, 1) := by decide +kernel
theorem dX10_best_56 : decode cX10_best 56 = .ok (.iload 5, 2) := by decide +kernel
theorem dX10_best_58 : decode cX10_best 58 = .ok (.iastore, 1) := by decide +kernel
theorem dX10_best_59 : decode cX10_best 59 = .ok (.iconst 0, 1) := by decide +kernel
theorem dX10_best_60 : decode cX10_best 60 = .ok (.istore 6, 2) := by decide +kernel
theorem dX10_best_62 : decode cX10_best 62 = .ok (.iload 6, 2) := by decide +kernel
theorem dX10_best_64 : decode cX10_best 64 = .ok (.iload_n 2, 1) := by decide +kernel
theorem dX10_best_65 : decode cX10_best 65 = .ok (.if_icmp .ge 18, 3) := by decide +kernel
theorem dX10_best_68 : decode cX10_best 68 = .ok (.aload_n 0, 1) := by decide +kernel
theorem dX10_best_69 : decode cX10_best 69 = .ok (.sipush 2788, 3) := by decide +kernel
theorem dX10_best_72 : decode cX10_best 72 = .ok (.invokevirtual 174, 3) := by decide +kernel
theorem dX10_best_75 : decode cX10_best 75 = .ok (.istore 7, 2) := by decide +kernel
theorem dX10_best_77 : decode cX10_best 77 = .ok (.iinc 6 1, 3) := by decide +kernel
theorem dX10_best_80 : decode cX10_best 80 = .ok (.goto (-18), 3) := by decide +kernel
theorem dX10_best_83 : decode cX10_best 83 = .ok (.aload_n 0, 1) := by decide +kernel
theorem dX10_best_84 : decode cX10_best 84 = .ok (.getfield 7, 3) := by decide +kernel
theorem dX10_best_87 : decode cX10_best 87 = .ok (.sipush 2794, 3) := by decide +kernel
theorem dX10_best_90 : decode cX10_best 90 = .ok (.iload_n 1, 1) := by decide +kernel
theorem dX10_best_91 : decode cX10_best 91 = .ok (.iadd, 1) := by decide +kernel
theorem dX10_best_92 : decode cX10_best 92 = .ok (.iaload, 1) := by decide +kernel
theorem dX10_best_93 : decode cX10_best 93 = .ok (.iload 4, 2) := by decide +kernel
theorem dX10_best_95 : decode cX10_best 95 = .ok (.if_icmp .le 8, 3) := by decide +kernel
theorem dX10_best_98 : decode cX10_best 98 = .ok (.iload 5, 2) := by decide +kernel
theorem dX10_best_100 : decode cX10_best 100 = .ok (.goto 4, 3) := by decide +kernel
theorem dX10_best_103 : decode cX10_best 103 = .ok (.iload_n 3, 1) := by decide +kernel
theorem dX10_best_104 : decode cX10_best 104 = .ok (.istore_n 3, 1) := by decide +kernel
theorem dX10_best_105 : decode cX10_best 105 = .ok (.aload_n 0, 1) := by decide +kernel
theorem dX10_best_106 : decode cX10_best 106 = .ok (.getfield 7, 3) := by decide +kernel
theorem dX10_best_109 : decode cX10_best 109 = .ok (.sipush 2794, 3) := by decide +kernel
theorem dX10_best_112 : decode cX10_best 112 = .ok (.iload_n 1, 1) := by decide +kernel
theorem dX10_best_113 : decode cX10_best 113 = .ok (.iadd, 1) := by decide +kernel
theorem dX10_best_114 : decode cX10_best 114 = .ok (.iaload, 1) := by decide +kernel
theorem dX10_best_115 : decode cX10_best 115 = .ok (.iload 4, 2) := by decide +kernel
theorem dX10_best_117 : decode cX10_best 117 = .ok (.if_icmp .le 16, 3) := by decide +kernel
theorem dX10_best_120 : decode cX10_best 120 = .ok (.aload_n 0, 1) := by decide +kernel
theorem dX10_best_121 : decode cX10_best 121 = .ok (.getfield 7, 3) := by decide +kernel
theorem dX10_best_124 : decode cX10_best 124 = .ok (.sipush 2794, 3) := by decide +kernel
theorem dX10_best_127 : decode cX10_best 127 = .ok (.iload_n 1, 1) := by decide +kernel
theorem dX10_best_128 : decode cX10_best 128 = .ok (.iadd, 1) := by decide +kernel
theorem dX10_best_129 : decode cX10_best 129 = .ok (.iaload, 1) := by decide +kernel
theorem dX10_best_130 : decode cX10_best 130 = .ok (.goto 5, 3) := by decide +kernel
theorem dX10_best_133 : decode cX10_best 133 = .ok (.iload 4, 2) := by decide +kernel
theorem dX10_best_135 : decode cX10_best 135 = .ok (.istore 4, 2) := by decide +kernel
theorem dX10_best_137 : decode cX10_best 137 = .ok (.iinc 5 1, 3) := by decide +kernel
theorem dX10_best_140 : decode cX10_best 140 = .ok (.goto (-111), 3) := by decide +kernel
theorem dX10_best_143 : decode cX10_best 143 = .ok (.aload_n 0, 1) := by decide +kernel
theorem dX10_best_144 : decode cX10_best 144 = .ok (.iload 4, 2) := by decide +kernel
theorem dX10_best_146 : decode cX10_best 146 = .ok (.putfield 60, 3) := by decide +kernel
theorem dX10_best_149 : decode cX10_best 149 = .ok (.iload_n 3, 1) := by decide +kernel
theorem dX10_best_150 : decode cX10_best 150 = .ok (.ireturn, 1) := by decide +kernel
theorem dX10_without_0 : decode cX10_without 0 = .ok (.aload_n 0, 1) := by decide +kernel
theorem dX10_without_1 : decode cX10_without 1 = .ok (.aload_n 0, 1) := by decide +kernel
theorem dX10_without_2 : decode cX10_without 2 = .ok (.invokevirtual 145, 3) := by decide +kernel
theorem dX10_without_5 : decode cX10_without 5 = .ok (.sipush 2788, 3) := by decide +kernel
theorem dX10_without_8 : decode cX10_without 8 = .ok (.invokevirtual 167, 3) := by decide +kernel
theorem dX10_without_11 : decode cX10_without 11 = .ok (.aload_n 0, 1) := by decide +kernel
theorem dX10_without_12 : decode cX10_without 12 = .ok (.sipush 2788, 3) := by decide +kernel
theorem dX10_without_15 : decode cX10_without 15 = .ok (.iload_n 3, 1) := by decide +kernel
theorem dX10_without_16 : decode cX10_without 16 = .ok (.invokevirtual 177, 3) := by decide +kernel
theorem dX10_without_19 : decode cX10_without 19 = .ok (.iconst 0, 1) := by decide +kernel
theorem dX10_without_20 : decode cX10_without 20 = .ok (.istore 4, 2) := by decide +kernel
theorem dX10_without_22 : decode cX10_without 22 = .ok (.iconst 0, 1) := by decide +kernel
theorem dX10_without_23 : decode cX10_without 23 = .ok (.istore 5, 2) := by decide +kernel
theorem dX10_without_25 : decode cX10_without 25 = .ok (.iload 5, 2) := by decide +kernel
theorem dX10_without_27 : decode cX10_without 27 = .ok (.iload_n 2, 1) := by decide +kernel
theorem dX10_without_28 : decode cX10_without 28 = .ok (.if_icmp .ge 21, 3) := by decide +kernel
theorem dX10_without_31 : decode cX10_without 31 = .ok (.iload 4, 2) := by decide +kernel
theorem dX10_without_33 : decode cX10_without 33 = .ok (.aload_n 0, 1) := by decide +kernel
theorem dX10_without_34 : decode cX10_without 34 = .ok (.sipush 2788, 3) := by decide +kernel
theorem dX10_without_37 : decode cX10_without 37 = .ok (.invokevirtual 174, 3) := by decide +kernel
theorem dX10_without_40 : decode cX10_without 40 = .ok (.ior, 1) := by decide +kernel
theorem dX10_without_41 : decode cX10_without 41 = .ok (.istore 4, 2) := by decide +kernel
theorem dX10_without_43 : decode cX10_without 43 = .ok (.iinc 5 1, 3) := by decide +kernel
theorem dX10_without_46 : decode cX10_without 46 = .ok (.goto (-21), 3) := by decide +kernel
theorem dX10_without_49 : decode cX10_without 49 = .ok (.iload_n 1, 1) := by decide +kernel
theorem dX10_without_50 : decode cX10_without 50 = .ok (.iload 4, 2) := by decide +kernel
theorem dX10_without_52 : decode cX10_without 52 = .ok (.iconst (-1), 1) := by decide +kernel
theorem dX10_without_53 : decode cX10_without 53 = .ok (.ixor, 1) := by decide +kernel
theorem dX10_without_54 : decode cX10_without 54 = .ok (.iand, 1) := by decide +kernel
theorem dX10_without_55 : decode cX10_without 55 = .ok (.ireturn, 1) := by decide +kernel
theorem dX10_least_0 : decode cX10_least 0 = .ok (.iload_n 1, 1) := by decide +kernel
theorem dX10_least_1 : decode cX10_least 1 = .ok (.iconst 0, 1) := by decide +kernel
theorem dX10_least_2 : decode cX10_least 2 = .ok (.iconst 1, 1) := by decide +kernel
theorem dX10_least_3 : decode cX10_least 3 = .ok (.aload_n 0, 1) := by decide +kernel
theorem dX10_least_4 : decode cX10_least 4 = .ok (.getfield 120, 3) := by decide +kernel
theorem dX10_least_7 : decode cX10_least 7 = .ok (.ishl, 1) := by decide +kernel
theorem dX10_least_8 : decode cX10_least 8 = .ok (.iconst 1, 1) := by decide +kernel
theorem dX10_least_9 : decode cX10_least 9 = .ok (.isub, 1) := by decide +kernel
theorem dX10_least_10 : decode cX10_least 10 = .ok (.invokestatic 63, 3) := by decide +kernel
theorem dX10_least_13 : decode cX10_least 13 = .ok (.ifCond .eq 13, 3) := by decide +kernel
theorem dX10_least_16 : decode cX10_least 16 = .ok (.iload_n 2, 1) := by decide +kernel
theorem dX10_least_17 : decode cX10_least 17 = .ok (.iconst 1, 1) := by decide +kernel
theorem dX10_least_18 : decode cX10_least 18 = .ok (.bipush 20, 2) := by decide +kernel
theorem dX10_least_20 : decode cX10_least 20 = .ok (.invokestatic 63, 3) := by decide +kernel
theorem dX10_least_23 : decode cX10_least 23 = .ok (.ifCond .ne 5, 3) := by decide +kernel
theorem dX10_least_26 : decode cX10_least 26 = .ok (.iconst (-1), 1) := by decide +kernel
theorem dX10_least_27 : decode cX10_least 27 = .ok (.ireturn, 1) := by decide +kernel
theorem dX10_least_28 : decode cX10_least 28 = .ok (.aload_n 0, 1) := by decide +kernel
theorem dX10_least_29 : decode cX10_least 29 = .ok (.getfield 120, 3) := by decide +kernel
theorem dX10_least_32 : decode cX10_least 32 = .ok (.ifCond .ne 6, 3) := by decide +kernel
theorem dX10_least_35 : decode cX10_least 35 = .ok (.bipush (-4), 2) := by decide +kernel
theorem dX10_least_37 : decode cX10_least 37 = .ok (.ireturn, 1) := by decide +kernel
theorem dX10_least_38 : decode cX10_least 38 = .ok (.iconst 0, 1) := by decide +kernel
theorem dX10_least_39 : decode cX10_least 39 = .ok (.istore_n 3, 1) := by decide +kernel
theorem dX10_least_40 : decode cX10_least 40 = .ok (.iload_n 3, 1) := by decide +kernel
theorem dX10_least_41 : decode cX10_least 41 = .ok (.bipush 30, 2) := by decide +kernel
theorem dX10_least_43 : decode cX10_least 43 = .ok (.if_icmp .gt 21, 3) := by decide +kernel
theorem dX10_least_46 : decode cX10_least 46 = .ok (.aload_n 0, 1) := by decide +kernel
theorem dX10_least_47 : decode cX10_least 47 = .ok (.iload_n 1, 1) := by decide +kernel
theorem dX10_least_48 : decode cX10_least 48 = .ok (.iload_n 2, 1) := by decide +kernel
theorem dX10_least_49 : decode cX10_least 49 = .ok (.iload_n 3, 1) := by decide +kernel
theorem dX10_least_50 : decode cX10_least 50 = .ok (.invokevirtual 186, 3) := by decide +kernel
theorem dX10_least_53 : decode cX10_least 53 = .ok (.ifCond .ne 5, 3) := by decide +kernel
theorem dX10_least_56 : decode cX10_least 56 = .ok (.iload_n 3, 1) := by decide +kernel
theorem dX10_least_57 : decode cX10_least 57 = .ok (.ireturn, 1) := by decide +kernel
theorem dX10_least_58 : decode cX10_least 58 = .ok (.iinc 3 1, 3) := by decide +kernel
theorem dX10_least_61 : decode cX10_least 61 = .ok (.goto (-21), 3) := by decide +kernel
theorem dX10_least_64 : decode cX10_least 64 = .ok (.bipush (-9), 2) := by decide +kernel
theorem dX10_least_66 : decode cX10_least 66 = .ok (.ireturn, 1) := by decide +kernel
theorem dX10_wrongRow_0 : decode cX10_wrongRow 0 = .ok (.aload_n 0, 1) := by decide +kernel
theorem dX10_wrongRow_1 : decode cX10_wrongRow 1 = .ok (.getfield 22, 3) := by decide +kernel
theorem dX10_wrongRow_4 : decode cX10_wrongRow 4 = .ok (.iload_n 1, 1) := by decide +kernel
theorem dX10_wrongRow_5 : decode cX10_wrongRow 5 = .ok (.iaload, 1) := by decide +kernel
theorem dX10_wrongRow_6 : decode cX10_wrongRow 6 = .ok (.bipush (-9), 2) := by decide +kernel
theorem dX10_wrongRow_8 : decode cX10_wrongRow 8 = .ok (.if_icmp .ne 5, 3) := by decide +kernel
theorem dX10_wrongRow_11 : decode cX10_wrongRow 11 = .ok (.iconst 1, 1) := by decide +kernel
theorem dX10_wrongRow_12 : decode cX10_wrongRow 12 = .ok (.ireturn, 1) := by decide +kernel
theorem dX10_wrongRow_13 : decode cX10_wrongRow 13 = .ok (.aload_n 0, 1) := by decide +kernel
theorem dX10_wrongRow_14 : decode cX10_wrongRow 14 = .ok (.getfield 22, 3) := by decide +kernel
theorem dX10_wrongRow_17 : decode cX10_wrongRow 17 = .ok (.iload_n 1, 1) := by decide +kernel
theorem dX10_wrongRow_18 : decode cX10_wrongRow 18 = .ok (.iaload, 1) := by decide +kernel
theorem dX10_wrongRow_19 : decode cX10_wrongRow 19 = .ok (.iconst 1, 1) := by decide +kernel
theorem dX10_wrongRow_20 : decode cX10_wrongRow 20 = .ok (.bipush 10, 2) := by decide +kernel
theorem dX10_wrongRow_22 : decode cX10_wrongRow 22 = .ok (.invokestatic 63, 3) := by decide +kernel
theorem dX10_wrongRow_25 : decode cX10_wrongRow 25 = .ok (.ifCond .ne 5, 3) := by decide +kernel
theorem dX10_wrongRow_28 : decode cX10_wrongRow 28 = .ok (.iconst 5, 1) := by decide +kernel
theorem dX10_wrongRow_29 : decode cX10_wrongRow 29 = .ok (.ireturn, 1) := by decide +kernel
theorem dX10_wrongRow_30 : decode cX10_wrongRow 30 = .ok (.iconst 0, 1) := by decide +kernel
theorem dX10_wrongRow_31 : decode cX10_wrongRow 31 = .ok (.istore_n 2, 1) := by decide +kernel
theorem dX10_wrongRow_32 : decode cX10_wrongRow 32 = .ok (.iconst 0, 1) := by decide +kernel
theorem dX10_wrongRow_33 : decode cX10_wrongRow 33 = .ok (.istore_n 3, 1) := by decide +kernel
theorem dX10_wrongRow_34 : decode cX10_wrongRow 34 = .ok (.iload_n 3, 1) := by decide +kernel
theorem dX10_wrongRow_35 : decode cX10_wrongRow 35 = .ok (.aload_n 0, 1) := by decide +kernel
theorem dX10_wrongRow_36 : decode cX10_wrongRow 36 = .ok (.getfield 22, 3) := by decide +kernel
theorem dX10_wrongRow_39 : decode cX10_wrongRow 39 = .ok (.iload_n 1, 1) := by decide +kernel
theorem dX10_wrongRow_40 : decode cX10_wrongRow 40 = .ok (.iaload, 1) := by decide +kernel
theorem dX10_wrongRow_41 : decode cX10_wrongRow 41 = .ok (.if_icmp .ge 35, 3) := by decide +kernel
theorem dX10_wrongRow_44 : decode cX10_wrongRow 44 = .ok (.aload_n 0, 1) := by decide +kernel
theorem dX10_wrongRow_45 : decode cX10_wrongRow 45 = .ok (.getfield 19, 3) := by decide +kernel
theorem dX10_wrongRow_48 : decode cX10_wrongRow 48 = .ok (.bipush 40, 2) := by decide +kernel
theorem dX10_wrongRow_50 : decode cX10_wrongRow 50 = .ok (.iload_n 1, 1) := by decide +kernel
theorem dX10_wrongRow_51 : decode cX10_wrongRow 51 = .ok (.imul, 1) := by decide +kernel
theorem dX10_wrongRow_52 : decode cX10_wrongRow 52 = .ok (.iload_n 3, 1) := by decide +kernel
theorem dX10_wrongRow_53 : decode cX10_wrongRow 53 = .ok (.iadd, 1) := by decide +kernel
theorem dX10_wrongRow_54 : decode cX10_wrongRow 54 = .ok (.iaload, 1) := by decide +kernel
theorem dX10_wrongRow_55 : decode cX10_wrongRow 55 = .ok (.iconst 0, 1) := by decide +kernel
theorem dX10_wrongRow_56 : decode cX10_wrongRow 56 = .ok (.bipush 30, 2) := by decide +kernel
theorem dX10_wrongRow_58 : decode cX10_wrongRow 58 = .ok (.invokestatic 63, 3) := by decide +kernel
theorem dX10_wrongRow_61 : decode cX10_wrongRow 61 = .ok (.ifCond .eq 7, 3) := by decide +kernel
theorem dX10_wrongRow_64 : decode cX10_wrongRow 64 = .ok (.iload_n 2, 1) := by decide +kernel
theorem dX10_wrongRow_65 : decode cX10_wrongRow 65 = .ok (.goto 4, 3) := by decide +kernel
theorem dX10_wrongRow_68 : decode cX10_wrongRow 68 = .ok (.iconst 3, 1) := by decide +kernel
theorem dX10_wrongRow_69 : decode cX10_wrongRow 69 = .ok (.istore_n 2, 1) := by decide +kernel
theorem dX10_wrongRow_70 : decode cX10_wrongRow 70 = .ok (.iinc 3 1, 3) := by decide +kernel
theorem dX10_wrongRow_73 : decode cX10_wrongRow 73 = .ok (.goto (-39), 3) := by decide +kernel
theorem dX10_wrongRow_76 : decode cX10_wrongRow 76 = .ok (.iload_n 2, 1) := by decide +kernel
theorem dX10_wrongRow_77 : decode cX10_wrongRow 77 = .ok (.ireturn, 1) := by decide +kernel
theorem dX10_isSo_0 : decode cX10_isSo 0 = .ok (.iconst 0, 1) := by decide +kernel
theorem dX10_isSo_1 : decode cX10_isSo 1 = .ok (.istore 4, 2) := by decide +kernel
theorem dX10_isSo_3 : decode cX10_isSo 3 = .ok (.iload 4, 2) := by decide +kernel
theorem dX10_isSo_5 : decode cX10_isSo 5 = .ok (.aload_n 0, 1) := by decide +kernel
theorem dX10_isSo_6 : decode cX10_isSo 6 = .ok (.getfield 22, 3) := by decide +kernel
theorem dX10_isSo_9 : decode cX10_isSo 9 = .ok (.iload_n 2, 1) := by decide +kernel
theorem dX10_isSo_10 : decode cX10_isSo 10 = .ok (.iaload, 1) := by decide +kernel
theorem dX10_isSo_11 : decode cX10_isSo 11 = .ok (.if_icmp .ge 48, 3) := by decide +kernel
theorem dX10_isSo_14 : decode cX10_isSo 14 = .ok (.aload_n 0, 1) := by decide +kernel
theorem dX10_isSo_15 : decode cX10_isSo 15 = .ok (.sipush 2788, 3) := by decide +kernel
theorem dX10_isSo_18 : decode cX10_isSo 18 = .ok (.iconst 0, 1) := by decide +kernel
theorem dX10_isSo_19 : decode cX10_isSo 19 = .ok (.iload_n 1, 1) := by decide +kernel
theorem dX10_isSo_20 : decode cX10_isSo 20 = .ok (.iload_n 3, 1) := by decide +kernel
theorem dX10_isSo_21 : decode cX10_isSo 21 = .ok (.invokevirtual 141, 3) := by decide +kernel
theorem dX10_isSo_24 : decode cX10_isSo 24 = .ok (.istore 5, 2) := by decide +kernel
theorem dX10_isSo_26 : decode cX10_isSo 26 = .ok (.aload_n 0, 1) := by decide +kernel
theorem dX10_isSo_27 : decode cX10_isSo 27 = .ok (.getfield 7, 3) := by decide +kernel
theorem dX10_isSo_30 : decode cX10_isSo 30 = .ok (.sipush 2794, 3) := by decide +kernel
theorem dX10_isSo_33 : decode cX10_isSo 33 = .ok (.iload_n 1, 1) := by decide +kernel
theorem dX10_isSo_34 : decode cX10_isSo 34 = .ok (.iadd, 1) := by decide +kernel
theorem dX10_isSo_35 : decode cX10_isSo 35 = .ok (.iaload, 1) := by decide +kernel
theorem dX10_isSo_36 : decode cX10_isSo 36 = .ok (.aload_n 0, 1) := by decide +kernel
theorem dX10_isSo_37 : decode cX10_isSo 37 = .ok (.getfield 19, 3) := by decide +kernel
theorem dX10_isSo_40 : decode cX10_isSo 40 = .ok (.bipush 40, 2) := by decide +kernel
theorem dX10_isSo_42 : decode cX10_isSo 42 = .ok (.iload_n 2, 1) := by decide +kernel
theorem dX10_isSo_43 : decode cX10_isSo 43 = .ok (.imul, 1) := by decide +kernel
theorem dX10_isSo_44 : decode cX10_isSo 44 = .ok (.iload 4, 2) := by decide +kernel
theorem dX10_isSo_46 : decode cX10_isSo 46 = .ok (.iadd, 1) := by decide +kernel
theorem dX10_isSo_47 : decode cX10_isSo 47 = .ok (.iaload, 1) := by decide +kernel
theorem dX10_isSo_48 : decode cX10_isSo 48 = .ok (.if_icmp .eq 5, 3) := by decide +kernel
theorem dX10_isSo_51 : decode cX10_isSo 51 = .ok (.iconst 0, 1) := by decide +kernel
theorem dX10_isSo_52 : decode cX10_isSo 52 = .ok (.ireturn, 1) := by decide +kernel
theorem dX10_isSo_53 : decode cX10_isSo 53 = .ok (.iinc 4 1, 3) := by decide +kernel
theorem dX10_isSo_56 : decode cX10_isSo 56 = .ok (.goto (-53), 3) := by decide +kernel
theorem dX10_isSo_59 : decode cX10_isSo 59 = .ok (.iconst 1, 1) := by decide +kernel
theorem dX10_isSo_60 : decode cX10_isSo 60 = .ok (.ireturn, 1) := by decide +kernel
theorem dX10_laySize_0 : decode cX10_laySize 0 = .ok (.aload_n 0, 1) := by decide +kernel
theorem dX10_laySize_1 : decode cX10_laySize 1 = .ok (.aload_n 0, 1) := by decide +kernel
theorem dX10_laySize_2 : decode cX10_laySize 2 = .ok (.invokevirtual 145, 3) := by decide +kernel
theorem dX10_laySize_5 : decode cX10_laySize 5 = .ok (.sipush 2788, 3) := by decide +kernel
theorem dX10_laySize_8 : decode cX10_laySize 8 = .ok (.invokevirtual 167, 3) := by decide +kernel
theorem dX10_laySize_11 : decode cX10_laySize 11 = .ok (.aload_n 0, 1) := by decide +kernel
theorem dX10_laySize_12 : decode cX10_laySize 12 = .ok (.getfield 7, 3) := by decide +kernel
theorem dX10_laySize_15 : decode cX10_laySize 15 = .ok (.sipush 2800, 3) := by decide +kernel
theorem dX10_laySize_18 : decode cX10_laySize 18 = .ok (.iload_n 1, 1) := by decide +kernel
theorem dX10_laySize_19 : decode cX10_laySize 19 = .ok (.iastore, 1) := by decide +kernel
theorem dX10_laySize_20 : decode cX10_laySize 20 = .ok (.aload_n 0, 1) := by decide +kernel
theorem dX10_laySize_21 : decode cX10_laySize 21 = .ok (.getfield 7, 3) := by decide +kernel
theorem dX10_laySize_24 : decode cX10_laySize 24 = .ok (.sipush 2801, 3) := by decide +kernel
theorem dX10_laySize_27 : decode cX10_laySize 27 = .ok (.iload_n 1, 1) := by decide +kernel
theorem dX10_laySize_28 : decode cX10_laySize 28 = .ok (.ifCond .ne 10, 3) := by decide +kernel
theorem dX10_laySize_31 : decode cX10_laySize 31 = .ok (.aload_n 0, 1) := by decide +kernel
theorem dX10_laySize_32 : decode cX10_laySize 32 = .ok (.getfield 123, 3) := by decide +kernel
theorem dX10_laySize_35 : decode cX10_laySize 35 = .ok (.goto 11, 3) := by decide +kernel
theorem dX10_laySize_38 : decode cX10_laySize 38 = .ok (.aload_n 0, 1) := by decide +kernel
theorem dX10_laySize_39 : decode cX10_laySize 39 = .ok (.getfield 7, 3) := by decide +kernel
theorem dX10_laySize_42 : decode cX10_laySize 42 = .ok (.sipush 2801, 3) := by decide +kernel
theorem dX10_laySize_45 : decode cX10_laySize 45 = .ok (.iaload, 1) := by decide +kernel
theorem dX10_laySize_46 : decode cX10_laySize 46 = .ok (.iastore, 1) := by decide +kernel
theorem dX10_laySize_47 : decode cX10_laySize 47 = .ok (.return_, 1) := by decide +kernel
theorem dX10_sizesOf_0 : decode cX10_sizesOf 0 = .ok (.iconst 0, 1) := by decide +kernel
theorem dX10_sizesOf_1 : decode cX10_sizesOf 1 = .ok (.istore_n 3, 1) := by decide +kernel
theorem dX10_sizesOf_2 : decode cX10_sizesOf 2 = .ok (.iconst 0, 1) := by decide +kernel
theorem dX10_sizesOf_3 : decode cX10_sizesOf 3 = .ok (.istore 4, 2) := by decide +kernel
theorem dX10_sizesOf_5 : decode cX10_sizesOf 5 = .ok (.iload 4, 2) := by decide +kernel
theorem dX10_sizesOf_7 : decode cX10_sizesOf 7 = .ok (.bipush 30, 2) := by decide +kernel
theorem dX10_sizesOf_9 : decode cX10_sizesOf 9 = .ok (.if_icmp .gt 41, 3) := by decide +kernel
theorem dX10_sizesOf_12 : decode cX10_sizesOf 12 = .ok (.aload_n 0, 1) := by decide +kernel
theorem dX10_sizesOf_13 : decode cX10_sizesOf 13 = .ok (.iload 4, 2) := by decide +kernel
theorem dX10_sizesOf_15 : decode cX10_sizesOf 15 = .ok (.invokevirtual 190, 3) := by decide +kernel
theorem dX10_sizesOf_18 : decode cX10_sizesOf 18 = .ok (.iload_n 3, 1) := by decide +kernel
theorem dX10_sizesOf_19 : decode cX10_sizesOf 19 = .ok (.aload_n 0, 1) := by decide +kernel
theorem dX10_sizesOf_20 : decode cX10_sizesOf 20 = .ok (.iload_n 1, 1) := by decide +kernel
theorem dX10_sizesOf_21 : decode cX10_sizesOf 21 = .ok (.iload_n 2, 1) := by decide +kernel
theorem dX10_sizesOf_22 : decode cX10_sizesOf 22 = .ok (.aload_n 0, 1) := by decide +kernel
theorem dX10_sizesOf_23 : decode cX10_sizesOf 23 = .ok (.getfield 13, 3) := by decide +kernel
theorem dX10_sizesOf_26 : decode cX10_sizesOf 26 = .ok (.iload_n 1, 1) := by decide +kernel
theorem dX10_sizesOf_27 : decode cX10_sizesOf 27 = .ok (.iaload, 1) := by decide +kernel
theorem dX10_sizesOf_28 : decode cX10_sizesOf 28 = .ok (.invokevirtual 193, 3) := by decide +kernel
theorem dX10_sizesOf_31 : decode cX10_sizesOf 31 = .ok (.ifCond .eq 10, 3) := by decide +kernel
theorem dX10_sizesOf_34 : decode cX10_sizesOf 34 = .ok (.iconst 1, 1) := by decide +kernel
theorem dX10_sizesOf_35 : decode cX10_sizesOf 35 = .ok (.iload 4, 2) := by decide +kernel
theorem dX10_sizesOf_37 : decode cX10_sizesOf 37 = .ok (.ishl, 1) := by decide +kernel
theorem dX10_sizesOf_38 : decode cX10_sizesOf 38 = .ok (.goto 4, 3) := by decide +kernel
theorem dX10_sizesOf_41 : decode cX10_sizesOf 41 = .ok (.iconst 0, 1) := by decide +kernel
theorem dX10_sizesOf_42 : decode cX10_sizesOf 42 = .ok (.ior, 1) := by decide +kernel
theorem dX10_sizesOf_43 : decode cX10_sizesOf 43 = .ok (.istore_n 3, 1) := by decide +kernel
theorem dX10_sizesOf_44 : decode cX10_sizesOf 44 = .ok (.iinc 4 1, 3) := by decide +kernel
theorem dX10_sizesOf_47 : decode cX10_sizesOf 47 = .ok (.goto (-42), 3) := by decide +kernel
theorem dX10_sizesOf_50 : decode cX10_sizesOf 50 = .ok (.iload_n 3, 1) := by decide +kernel
theorem dX10_sizesOf_51 : decode cX10_sizesOf 51 = .ok (.ireturn, 1) := by decide +kernel
theorem dX10_sizes_0 : decode cX10_sizes 0 = .ok (.aload_n 0, 1) := by decide +kernel
theorem dX10_sizes_1 : decode cX10_sizes 1 = .ok (.iload_n 1, 1) := by decide +kernel
theorem dX10_sizes_2 : decode cX10_sizes 2 = .ok (.invokevirtual 152, 3) := by decide +kernel
theorem dX10_sizes_5 : decode cX10_sizes 5 = .ok (.ifCond .eq 10, 3) := by decide +kernel
theorem dX10_sizes_8 : decode cX10_sizes 8 = .ok (.iload_n 2, 1) := by decide +kernel
theorem dX10_sizes_9 : decode cX10_sizes 9 = .ok (.invokestatic 67, 3) := by decide +kernel
theorem dX10_sizes_12 : decode cX10_sizes 12 = .ok (.ifCond .ne 5, 3) := by decide +kernel
theorem dX10_sizes_15 : decode cX10_sizes 15 = .ok (.iconst (-1), 1) := by decide +kernel
theorem dX10_sizes_16 : decode cX10_sizes 16 = .ok (.ireturn, 1) := by decide +kernel
theorem dX10_sizes_17 : decode cX10_sizes 17 = .ok (.aload_n 0, 1) := by decide +kernel
theorem dX10_sizes_18 : decode cX10_sizes 18 = .ok (.iload_n 2, 1) := by decide +kernel
theorem dX10_sizes_19 : decode cX10_sizes 19 = .ok (.invokevirtual 196, 3) := by decide +kernel
theorem dX10_sizes_22 : decode cX10_sizes 22 = .ok (.ifCond .le 15, 3) := by decide +kernel
theorem dX10_sizes_25 : decode cX10_sizes 25 = .ok (.aload_n 0, 1) := by decide +kernel
theorem dX10_sizes_26 : decode cX10_sizes 26 = .ok (.aload_n 0, 1) := by decide +kernel
theorem dX10_sizes_27 : decode cX10_sizes 27 = .ok (.iload_n 2, 1) := by decide +kernel
theorem dX10_sizes_28 : decode cX10_sizes 28 = .ok (.invokevirtual 196, 3) := by decide +kernel
theorem dX10_sizes_31 : decode cX10_sizes 31 = .ok (.invokevirtual 71, 3) := by decide +kernel
theorem dX10_sizes_34 : decode cX10_sizes 34 = .ok (.goto 9, 3) := by decide +kernel
theorem dX10_sizes_37 : decode cX10_sizes 37 = .ok (.aload_n 0, 1) := by decide +kernel
theorem dX10_sizes_38 : decode cX10_sizes 38 = .ok (.iload_n 1, 1) := by decide +kernel
theorem dX10_sizes_39 : decode cX10_sizes 39 = .ok (.iload_n 2, 1) := by decide +kernel
theorem dX10_sizes_40 : decode cX10_sizes 40 = .ok (.invokevirtual 199, 3) := by decide +kernel
theorem dX10_sizes_43 : decode cX10_sizes 43 = .ok (.ireturn, 1) := by decide +kernel
theorem dX10_winds_0 : decode cX10_winds 0 = .ok (.aload_n 0, 1) := by decide +kernel
theorem dX10_winds_1 : decode cX10_winds 1 = .ok (.iload_n 1, 1) := by decide +kernel
theorem dX10_winds_2 : decode cX10_winds 2 = .ok (.invokevirtual 152, 3) := by decide +kernel
theorem dX10_winds_5 : decode cX10_winds 5 = .ok (.ifCond .eq 10, 3) := by decide +kernel
theorem dX10_winds_8 : decode cX10_winds 8 = .ok (.iload_n 2, 1) := by decide +kernel
theorem dX10_winds_9 : decode cX10_winds 9 = .ok (.invokestatic 67, 3) := by decide +kernel
theorem dX10_winds_12 : decode cX10_winds 12 = .ok (.ifCond .ne 5, 3) := by decide +kernel
theorem dX10_winds_15 : decode cX10_winds 15 = .ok (.iconst (-1), 1) := by decide +kernel
theorem dX10_winds_16 : decode cX10_winds 16 = .ok (.ireturn, 1) := by decide +kernel
theorem dX10_winds_17 : decode cX10_winds 17 = .ok (.aload_n 0, 1) := by decide +kernel
theorem dX10_winds_18 : decode cX10_winds 18 = .ok (.iload_n 2, 1) := by decide +kernel
theorem dX10_winds_19 : decode cX10_winds 19 = .ok (.invokevirtual 196, 3) := by decide +kernel
theorem dX10_winds_22 : decode cX10_winds 22 = .ok (.ifCond .le 13, 3) := by decide +kernel
theorem dX10_winds_25 : decode cX10_winds 25 = .ok (.aload_n 0, 1) := by decide +kernel
theorem dX10_winds_26 : decode cX10_winds 26 = .ok (.aload_n 0, 1) := by decide +kernel
theorem dX10_winds_27 : decode cX10_winds 27 = .ok (.iload_n 2, 1) := by decide +kernel
theorem dX10_winds_28 : decode cX10_winds 28 = .ok (.invokevirtual 196, 3) := by decide +kernel
theorem dX10_winds_31 : decode cX10_winds 31 = .ok (.invokevirtual 71, 3) := by decide +kernel
theorem dX10_winds_34 : decode cX10_winds 34 = .ok (.ireturn, 1) := by decide +kernel
theorem dX10_winds_35 : decode cX10_winds 35 = .ok (.iconst 0, 1) := by decide +kernel
theorem dX10_winds_36 : decode cX10_winds 36 = .ok (.istore_n 3, 1) := by decide +kernel
theorem dX10_winds_37 : decode cX10_winds 37 = .ok (.iconst 0, 1) := by decide +kernel
theorem dX10_winds_38 : decode cX10_winds 38 = .ok (.istore 4, 2) := by decide +kernel
theorem dX10_winds_40 : decode cX10_winds 40 = .ok (.iload 4, 2) := by decide +kernel
theorem dX10_winds_42 : decode cX10_winds 42 = .ok (.iconst 3, 1) := by decide +kernel
theorem dX10_winds_43 : decode cX10_winds 43 = .ok (.if_icmp .ge 56, 3) := by decide +kernel
theorem dX10_winds_46 : decode cX10_winds 46 = .ok (.aload_n 0, 1) := by decide +kernel
theorem dX10_winds_47 : decode cX10_winds 47 = .ok (.aload_n 0, 1) := by decide +kernel
theorem dX10_winds_48 : decode cX10_winds 48 = .ok (.invokevirtual 145, 3) := by decide +kernel
theorem dX10_winds_51 : decode cX10_winds 51 = .ok (.sipush 2788, 3) := by decide +kernel
theorem dX10_winds_54 : decode cX10_winds 54 = .ok (.invokevirtual 167, 3) := by decide +kernel
theorem dX10_winds_57 : decode cX10_winds 57 = .ok (.aload_n 0, 1) := by decide +kernel
theorem dX10_winds_58 : decode cX10_winds 58 = .ok (.getfield 7, 3) := by decide +kernel
theorem dX10_winds_61 : decode cX10_winds 61 = .ok (.sipush 2802, 3) := by decide +kernel
theorem dX10_winds_64 : decode cX10_winds 64 = .ok (.iload 4, 2) := by decide +kernel
theorem dX10_winds_66 : decode cX10_winds 66 = .ok (.iastore, 1) := by decide +kernel
theorem dX10_winds_67 : decode cX10_winds 67 = .ok (.iload_n 3, 1) := by decide +kernel
theorem dX10_winds_68 : decode cX10_winds 68 = .ok (.aload_n 0, 1) := by decide +kernel
theorem dX10_winds_69 : decode cX10_winds 69 = .ok (.iload_n 1, 1) := by decide +kernel
theorem dX10_winds_70 : decode cX10_winds 70 = .ok (.iload_n 2, 1) := by decide +kernel
theorem dX10_winds_71 : decode cX10_winds 71 = .ok (.aload_n 0, 1) := by decide +kernel
theorem dX10_winds_72 : decode cX10_winds 72 = .ok (.getfield 13, 3) := by decide +kernel
theorem dX10_winds_75 : decode cX10_winds 75 = .ok (.iload_n 1, 1) := by decide +kernel
theorem dX10_winds_76 : decode cX10_winds 76 = .ok (.iaload, 1) := by decide +kernel
theorem dX10_winds_77 : decode cX10_winds 77 = .ok (.invokevirtual 193, 3) := by decide +kernel
theorem dX10_winds_80 : decode cX10_winds 80 = .ok (.ifCond .eq 10, 3) := by decide +kernel
theorem dX10_winds_83 : decode cX10_winds 83 = .ok (.iconst 1, 1) := by decide +kernel
theorem dX10_winds_84 : decode cX10_winds 84 = .ok (.iload 4, 2) := by decide +kernel
theorem dX10_winds_86 : decode cX10_winds 86 = .ok (.ishl, 1) := by decide +kernel
theorem dX10_winds_87 : decode cX10_winds 87 = .ok (.goto 4, 3) := by decide +kernel
theorem dX10_winds_90 : decode cX10_winds 90 = .ok (.iconst 0, 1) := by decide +kernel
theorem dX10_winds_91 : decode cX10_winds 91 = .ok (.ior, 1) := by decide +kernel
theorem dX10_winds_92 : decode cX10_winds 92 = .ok (.istore_n 3, 1) := by decide +kernel
theorem dX10_winds_93 : decode cX10_winds 93 = .ok (.iinc 4 1, 3) := by decide +kernel
theorem dX10_winds_96 : decode cX10_winds 96 = .ok (.goto (-56), 3) := by decide +kernel
theorem dX10_winds_99 : decode cX10_winds 99 = .ok (.iload_n 3, 1) := by decide +kernel
theorem dX10_winds_100 : decode cX10_winds 100 = .ok (.ireturn, 1) := by decide +kernel
theorem dX10_kinds_0 : decode cX10_kinds 0 = .ok (.aload_n 0, 1) := by decide +kernel
theorem dX10_kinds_1 : decode cX10_kinds 1 = .ok (.iload_n 1, 1) := by decide +kernel
theorem dX10_kinds_2 : decode cX10_kinds 2 = .ok (.invokevirtual 152, 3) := by decide +kernel
theorem dX10_kinds_5 : decode cX10_kinds 5 = .ok (.ifCond .eq 10, 3) := by decide +kernel
theorem dX10_kinds_8 : decode cX10_kinds 8 = .ok (.iload_n 2, 1) := by decide +kernel
theorem dX10_kinds_9 : decode cX10_kinds 9 = .ok (.invokestatic 67, 3) := by decide +kernel
theorem dX10_kinds_12 : decode cX10_kinds 12 = .ok (.ifCond .ne 5, 3) := by decide +kernel
theorem dX10_kinds_15 : decode cX10_kinds 15 = .ok (.iconst (-1), 1) := by decide +kernel
theorem dX10_kinds_16 : decode cX10_kinds 16 = .ok (.ireturn, 1) := by decide +kernel
theorem dX10_kinds_17 : decode cX10_kinds 17 = .ok (.aload_n 0, 1) := by decide +kernel
theorem dX10_kinds_18 : decode cX10_kinds 18 = .ok (.iload_n 2, 1) := by decide +kernel
theorem dX10_kinds_19 : decode cX10_kinds 19 = .ok (.invokevirtual 196, 3) := by decide +kernel
theorem dX10_kinds_22 : decode cX10_kinds 22 = .ok (.ifCond .le 13, 3) := by decide +kernel
theorem dX10_kinds_25 : decode cX10_kinds 25 = .ok (.aload_n 0, 1) := by decide +kernel
theorem dX10_kinds_26 : decode cX10_kinds 26 = .ok (.aload_n 0, 1) := by decide +kernel
theorem dX10_kinds_27 : decode cX10_kinds 27 = .ok (.iload_n 2, 1) := by decide +kernel
theorem dX10_kinds_28 : decode cX10_kinds 28 = .ok (.invokevirtual 196, 3) := by decide +kernel
theorem dX10_kinds_31 : decode cX10_kinds 31 = .ok (.invokevirtual 71, 3) := by decide +kernel
theorem dX10_kinds_34 : decode cX10_kinds 34 = .ok (.ireturn, 1) := by decide +kernel
theorem dX10_kinds_35 : decode cX10_kinds 35 = .ok (.iconst 0, 1) := by decide +kernel
theorem dX10_kinds_36 : decode cX10_kinds 36 = .ok (.istore_n 3, 1) := by decide +kernel
theorem dX10_kinds_37 : decode cX10_kinds 37 = .ok (.iconst 0, 1) := by decide +kernel
theorem dX10_kinds_38 : decode cX10_kinds 38 = .ok (.istore 4, 2) := by decide +kernel
theorem dX10_kinds_40 : decode cX10_kinds 40 = .ok (.iload 4, 2) := by decide +kernel
theorem dX10_kinds_42 : decode cX10_kinds 42 = .ok (.bipush 6, 2) := by decide +kernel
theorem dX10_kinds_44 : decode cX10_kinds 44 = .ok (.if_icmp .ge 42, 3) := by decide +kernel
theorem dX10_kinds_47 : decode cX10_kinds 47 = .ok (.aload_n 0, 1) := by decide +kernel
theorem dX10_kinds_48 : decode cX10_kinds 48 = .ok (.aload_n 0, 1) := by decide +kernel
theorem dX10_kinds_49 : decode cX10_kinds 49 = .ok (.invokevirtual 145, 3) := by decide +kernel
theorem dX10_kinds_52 : decode cX10_kinds 52 = .ok (.sipush 2788, 3) := by decide +kernel
theorem dX10_kinds_55 : decode cX10_kinds 55 = .ok (.invokevirtual 167, 3) := by decide +kernel
theorem dX10_kinds_58 : decode cX10_kinds 58 = .ok (.iload_n 3, 1) := by decide +kernel
theorem dX10_kinds_59 : decode cX10_kinds 59 = .ok (.aload_n 0, 1) := by decide +kernel
theorem dX10_kinds_60 : decode cX10_kinds 60 = .ok (.iload_n 1, 1) := by decide +kernel
theorem dX10_kinds_61 : decode cX10_kinds 61 = .ok (.iload_n 2, 1) := by decide +kernel
theorem dX10_kinds_62 : decode cX10_kinds 62 = .ok (.iload 4, 2) := by decide +kernel
theorem dX10_kinds_64 : decode cX10_kinds 64 = .ok (.invokevirtual 193, 3) := by decide +kernel
theorem dX10_kinds_67 : decode cX10_kinds 67 = .ok (.ifCond .eq 10, 3) := by decide +kernel
theorem dX10_kinds_70 : decode cX10_kinds 70 = .ok (.iconst 1, 1) := by decide +kernel
theorem dX10_kinds_71 : decode cX10_kinds 71 = .ok (.iload 4, 2) := by decide +kernel
theorem dX10_kinds_73 : decode cX10_kinds 73 = .ok (.ishl, 1) := by decide +kernel
theorem dX10_kinds_74 : decode cX10_kinds 74 = .ok (.goto 4, 3) := by decide +kernel
theorem dX10_kinds_77 : decode cX10_kinds 77 = .ok (.iconst 0, 1) := by decide +kernel
theorem dX10_kinds_78 : decode cX10_kinds 78 = .ok (.ior, 1) := by decide +kernel
theorem dX10_kinds_79 : decode cX10_kinds 79 = .ok (.istore_n 3, 1) := by decide +kernel
theorem dX10_kinds_80 : decode cX10_kinds 80 = .ok (.iinc 4 1, 3) := by decide +kernel
theorem dX10_kinds_83 : decode cX10_kinds 83 = .ok (.goto (-43), 3) := by decide +kernel
theorem dX10_kinds_86 : decode cX10_kinds 86 = .ok (.iload_n 3, 1) := by decide +kernel
theorem dX10_kinds_87 : decode cX10_kinds 87 = .ok (.ireturn, 1) := by decide +kernel
theorem dX10_greatestPart_0 : decode cX10_greatestPart 0 = .ok (.iconst 0, 1) := by decide +kernel
theorem dX10_greatestPart_1 : decode cX10_greatestPart 1 = .ok (.istore 4, 2) := by decide +kernel
theorem dX10_greatestPart_3 : decode cX10_greatestPart 3 = .ok (.iconst 0, 1) := by decide +kernel
theorem dX10_greatestPart_4 : decode cX10_greatestPart 4 = .ok (.istore 5, 2) := by decide +kernel
theorem dX10_greatestPart_6 : decode cX10_greatestPart 6 = .ok (.iload 5, 2) := by decide +kernel
theorem dX10_greatestPart_8 : decode cX10_greatestPart 8 = .ok (.bipush 30, 2) := by decide +kernel
theorem dX10_greatestPart_10 : decode cX10_greatestPart 10 = .ok (.if_icmp .gt 17, 3) := by decide +kernel
theorem dX10_greatestPart_13 : decode cX10_greatestPart 13 = .ok (.aload_n 0, 1) := by decide +kernel
theorem dX10_greatestPart_14 : decode cX10_greatestPart 14 = .ok (.getfield 47, 3) := by decide +kernel
theorem dX10_greatestPart_17 : decode cX10_greatestPart 17 = .ok (.iload 5, 2) := by decide +kernel
theorem dX10_greatestPart_19 : decode cX10_greatestPart 19 = .ok (.iconst 0, 1) := by decide +kernel
theorem dX10_greatestPart_20 : decode cX10_greatestPart 20 = .ok (.iastore, 1) := by decide +kernel
theorem dX10_greatestPart_21 : decode cX10_greatestPart 21 = .ok (.iinc 5 1, 3) := by decide +kernel
theorem dX10_greatestPart_24 : decode cX10_greatestPart 24 = .ok (.goto (-18), 3) := by decide +kernel
theorem dX10_greatestPart_27 : decode cX10_greatestPart 27 = .ok (.iconst 0, 1) := by decide +kernel
theorem dX10_greatestPart_28 : decode cX10_greatestPart 28 = .ok (.istore 5, 2) := by decide +kernel
theorem dX10_greatestPart_30 : decode cX10_greatestPart 30 = .ok (.iload 5, 2) := by decide +kernel
theorem dX10_greatestPart_32 : decode cX10_greatestPart 32 = .ok (.bipush 30, 2) := by decide +kernel
theorem dX10_greatestPart_34 : decode cX10_greatestPart 34 = .ok (.if_icmp .gt 97, 3) := by decide +kernel
theorem dX10_greatestPart_37 : decode cX10_greatestPart 37 = .ok (.iload_n 1, 1) := by decide +kernel
theorem dX10_greatestPart_38 : decode cX10_greatestPart 38 = .ok (.iload 5, 2) := by decide +kernel
theorem dX10_greatestPart_40 : decode cX10_greatestPart 40 = .ok (.invokestatic 135, 3) := by decide +kernel
theorem dX10_greatestPart_43 : decode cX10_greatestPart 43 = .ok (.ifCond .eq 82, 3) := by decide +kernel
theorem dX10_greatestPart_46 : decode cX10_greatestPart 46 = .ok (.aload_n 0, 1) := by decide +kernel
theorem dX10_greatestPart_47 : decode cX10_greatestPart 47 = .ok (.iload 5, 2) := by decide +kernel
theorem dX10_greatestPart_49 : decode cX10_greatestPart 49 = .ok (.invokevirtual 190, 3) := by decide +kernel
theorem dX10_greatestPart_52 : decode cX10_greatestPart 52 = .ok (.iconst 0, 1) := by decide +kernel
theorem dX10_greatestPart_53 : decode cX10_greatestPart 53 = .ok (.istore 6, 2) := by decide +kernel
theorem dX10_greatestPart_55 : decode cX10_greatestPart 55 = .ok (.iload 6, 2) := by decide +kernel
theorem dX10_greatestPart_57 : decode cX10_greatestPart 57 = .ok (.iload_n 3, 1) := by decide +kernel
theorem dX10_greatestPart_58 : decode cX10_greatestPart 58 = .ok (.if_icmp .ge 18, 3) := by decide +kernel
theorem dX10_greatestPart_61 : decode cX10_greatestPart 61 = .ok (.aload_n 0, 1) := by decide +kernel
theorem dX10_greatestPart_62 : decode cX10_greatestPart 62 = .ok (.sipush 2788, 3) := by decide +kernel
theorem dX10_greatestPart_65 : decode cX10_greatestPart 65 = .ok (.invokevirtual 174, 3) := by decide +kernel
theorem dX10_greatestPart_68 : decode cX10_greatestPart 68 = .ok (.istore 7, 2) := by decide +kernel
theorem dX10_greatestPart_70 : decode cX10_greatestPart 70 = .ok (.iinc 6 1, 3) := by decide +kernel
theorem dX10_greatestPart_73 : decode cX10_greatestPart 73 = .ok (.goto (-18), 3) := by decide +kernel
theorem dX10_greatestPart_76 : decode cX10_greatestPart 76 = .ok (.aload_n 0, 1) := by decide +kernel
theorem dX10_greatestPart_77 : decode cX10_greatestPart 77 = .ok (.getfield 7, 3) := by decide +kernel
theorem dX10_greatestPart_80 : decode cX10_greatestPart 80 = .ok (.sipush 2794, 3) := by decide +kernel
theorem dX10_greatestPart_83 : decode cX10_greatestPart 83 = .ok (.iload_n 2, 1) := by decide +kernel
theorem dX10_greatestPart_84 : decode cX10_greatestPart 84 = .ok (.iadd, 1) := by decide +kernel
theorem dX10_greatestPart_85 : decode cX10_greatestPart 85 = .ok (.iaload, 1) := by decide +kernel
theorem dX10_greatestPart_86 : decode cX10_greatestPart 86 = .ok (.istore 6, 2) := by decide +kernel
theorem dX10_greatestPart_88 : decode cX10_greatestPart 88 = .ok (.aload_n 0, 1) := by decide +kernel
theorem dX10_greatestPart_89 : decode cX10_greatestPart 89 = .ok (.getfield 47, 3) := by decide +kernel
theorem dX10_greatestPart_92 : decode cX10_greatestPart 92 = .ok (.iload 6, 2) := by decide +kernel
theorem dX10_greatestPart_94 : decode cX10_greatestPart 94 = .ok (.dup2, 1) := by decide +kernel
theorem dX10_greatestPart_95 : decode cX10_greatestPart 95 = .ok (.iaload, 1) := by decide +kernel
theorem dX10_greatestPart_96 : decode cX10_greatestPart 96 = .ok (.iconst 1, 1) := by decide +kernel
theorem dX10_greatestPart_97 : decode cX10_greatestPart 97 = .ok (.iadd, 1) := by decide +kernel
theorem dX10_greatestPart_98 : decode cX10_greatestPart 98 = .ok (.iastore, 1) := by decide +kernel
theorem dX10_greatestPart_99 : decode cX10_greatestPart 99 = .ok (.aload_n 0, 1) := by decide +kernel
theorem dX10_greatestPart_100 : decode cX10_greatestPart 100 = .ok (.getfield 47, 3) := by decide +kernel
theorem dX10_greatestPart_103 : decode cX10_greatestPart 103 = .ok (.iload 6, 2) := by decide +kernel
theorem dX10_greatestPart_105 : decode cX10_greatestPart 105 = .ok (.iaload, 1) := by decide +kernel
theorem dX10_greatestPart_106 : decode cX10_greatestPart 106 = .ok (.iload 4, 2) := by decide +kernel
theorem dX10_greatestPart_108 : decode cX10_greatestPart 108 = .ok (.if_icmp .le 13, 3) := by decide +kernel
theorem dX10_greatestPart_111 : decode cX10_greatestPart 111 = .ok (.aload_n 0, 1) := by decide +kernel
theorem dX10_greatestPart_112 : decode cX10_greatestPart 112 = .ok (.getfield 47, 3) := by decide +kernel
theorem dX10_greatestPart_115 : decode cX10_greatestPart 115 = .ok (.iload 6, 2) := by decide +kernel
theorem dX10_greatestPart_117 : decode cX10_greatestPart 117 = .ok (.iaload, 1) := by decide +kernel
theorem dX10_greatestPart_118 : decode cX10_greatestPart 118 = .ok (.goto 5, 3) := by decide +kernel
theorem dX10_greatestPart_121 : decode cX10_greatestPart 121 = .ok (.iload 4, 2) := by decide +kernel
theorem dX10_greatestPart_123 : decode cX10_greatestPart 123 = .ok (.istore 4, 2) := by decide +kernel
theorem dX10_greatestPart_125 : decode cX10_greatestPart 125 = .ok (.iinc 5 1, 3) := by decide +kernel
theorem dX10_greatestPart_128 : decode cX10_greatestPart 128 = .ok (.goto (-98), 3) := by decide +kernel
theorem dX10_greatestPart_131 : decode cX10_greatestPart 131 = .ok (.iload 4, 2) := by decide +kernel
theorem dX10_greatestPart_133 : decode cX10_greatestPart 133 = .ok (.ireturn, 1) := by decide +kernel
theorem dX10_next_0 : decode cX10_next 0 = .ok (.aload_n 0, 1) := by decide +kernel
theorem dX10_next_1 : decode cX10_next 1 = .ok (.iload_n 1, 1) := by decide +kernel
theorem dX10_next_2 : decode cX10_next 2 = .ok (.invokevirtual 152, 3) := by decide +kernel
theorem dX10_next_5 : decode cX10_next 5 = .ok (.ifCond .eq 10, 3) := by decide +kernel
theorem dX10_next_8 : decode cX10_next 8 = .ok (.iload_n 2, 1) := by decide +kernel
theorem dX10_next_9 : decode cX10_next 9 = .ok (.invokestatic 67, 3) := by decide +kernel
theorem dX10_next_12 : decode cX10_next 12 = .ok (.ifCond .ne 5, 3) := by decide +kernel
theorem dX10_next_15 : decode cX10_next 15 = .ok (.iconst (-1), 1) := by decide +kernel
theorem dX10_next_16 : decode cX10_next 16 = .ok (.ireturn, 1) := by decide +kernel
theorem dX10_next_17 : decode cX10_next 17 = .ok (.aload_n 0, 1) := by decide +kernel
theorem dX10_next_18 : decode cX10_next 18 = .ok (.iload_n 2, 1) := by decide +kernel
theorem dX10_next_19 : decode cX10_next 19 = .ok (.invokevirtual 196, 3) := by decide +kernel
theorem dX10_next_22 : decode cX10_next 22 = .ok (.ifCond .le 13, 3) := by decide +kernel
theorem dX10_next_25 : decode cX10_next 25 = .ok (.aload_n 0, 1) := by decide +kernel
theorem dX10_next_26 : decode cX10_next 26 = .ok (.aload_n 0, 1) := by decide +kernel
theorem dX10_next_27 : decode cX10_next 27 = .ok (.iload_n 2, 1) := by decide +kernel
theorem dX10_next_28 : decode cX10_next 28 = .ok (.invokevirtual 196, 3) := by decide +kernel
theorem dX10_next_31 : decode cX10_next 31 = .ok (.invokevirtual 71, 3) := by decide +kernel
theorem dX10_next_34 : decode cX10_next 34 = .ok (.ireturn, 1) := by decide +kernel
theorem dX10_next_35 : decode cX10_next 35 = .ok (.aload_n 0, 1) := by decide +kernel
theorem dX10_next_36 : decode cX10_next 36 = .ok (.iload_n 1, 1) := by decide +kernel
theorem dX10_next_37 : decode cX10_next 37 = .ok (.iload_n 2, 1) := by decide +kernel
theorem dX10_next_38 : decode cX10_next 38 = .ok (.invokevirtual 199, 3) := by decide +kernel
theorem dX10_next_41 : decode cX10_next 41 = .ok (.istore_n 3, 1) := by decide +kernel
theorem dX10_next_42 : decode cX10_next 42 = .ok (.iload_n 3, 1) := by decide +kernel
theorem dX10_next_43 : decode cX10_next 43 = .ok (.ifCond .ne 6, 3) := by decide +kernel
theorem dX10_next_46 : decode cX10_next 46 = .ok (.bipush (-9), 2) := by decide +kernel
theorem dX10_next_48 : decode cX10_next 48 = .ok (.ireturn, 1) := by decide +kernel
theorem dX10_next_49 : decode cX10_next 49 = .ok (.bipush (-9), 2) := by decide +kernel
theorem dX10_next_51 : decode cX10_next 51 = .ok (.istore 4, 2) := by decide +kernel
theorem dX10_next_53 : decode cX10_next 53 = .ok (.bipush 99, 2) := by decide +kernel
theorem dX10_next_55 : decode cX10_next 55 = .ok (.istore 5, 2) := by decide +kernel
theorem dX10_next_57 : decode cX10_next 57 = .ok (.iconst 0, 1) := by decide +kernel
theorem dX10_next_58 : decode cX10_next 58 = .ok (.istore 6, 2) := by decide +kernel
theorem dX10_next_60 : decode cX10_next 60 = .ok (.iload 6, 2) := by decide +kernel
theorem dX10_next_62 : decode cX10_next 62 = .ok (.aload_n 0, 1) := by decide +kernel
theorem dX10_next_63 : decode cX10_next 63 = .ok (.getfield 120, 3) := by decide +kernel
theorem dX10_next_66 : decode cX10_next 66 = .ok (.if_icmp .ge 56, 3) := by decide +kernel
theorem dX10_next_69 : decode cX10_next 69 = .ok (.aload_n 0, 1) := by decide +kernel
theorem dX10_next_70 : decode cX10_next 70 = .ok (.iload_n 3, 1) := by decide +kernel
theorem dX10_next_71 : decode cX10_next 71 = .ok (.iload 6, 2) := by decide +kernel
theorem dX10_next_73 : decode cX10_next 73 = .ok (.aload_n 0, 1) := by decide +kernel
theorem dX10_next_74 : decode cX10_next 74 = .ok (.getfield 22, 3) := by decide +kernel
theorem dX10_next_77 : decode cX10_next 77 = .ok (.iload_n 2, 1) := by decide +kernel
theorem dX10_next_78 : decode cX10_next 78 = .ok (.iaload, 1) := by decide +kernel
theorem dX10_next_79 : decode cX10_next 79 = .ok (.invokevirtual 202, 3) := by decide +kernel
theorem dX10_next_82 : decode cX10_next 82 = .ok (.istore 7, 2) := by decide +kernel
theorem dX10_next_84 : decode cX10_next 84 = .ok (.iload 7, 2) := by decide +kernel
theorem dX10_next_86 : decode cX10_next 86 = .ok (.iload 5, 2) := by decide +kernel
theorem dX10_next_88 : decode cX10_next 88 = .ok (.if_icmp .ge 8, 3) := by decide +kernel
theorem dX10_next_91 : decode cX10_next 91 = .ok (.iload 6, 2) := by decide +kernel
theorem dX10_next_93 : decode cX10_next 93 = .ok (.goto 5, 3) := by decide +kernel
theorem dX10_next_96 : decode cX10_next 96 = .ok (.iload 4, 2) := by decide +kernel
theorem dX10_next_98 : decode cX10_next 98 = .ok (.istore 4, 2) := by decide +kernel
theorem dX10_next_100 : decode cX10_next 100 = .ok (.iload 7, 2) := by decide +kernel
theorem dX10_next_102 : decode cX10_next 102 = .ok (.iload 5, 2) := by decide +kernel
theorem dX10_next_104 : decode cX10_next 104 = .ok (.if_icmp .ge 8, 3) := by decide +kernel
theorem dX10_next_107 : decode cX10_next 107 = .ok (.iload 7, 2) := by decide +kernel
theorem dX10_next_109 : decode cX10_next 109 = .ok (.goto 5, 3) := by decide +kernel
theorem dX10_next_112 : decode cX10_next 112 = .ok (.iload 5, 2) := by decide +kernel
theorem dX10_next_114 : decode cX10_next 114 = .ok (.istore 5, 2) := by decide +kernel
theorem dX10_next_116 : decode cX10_next 116 = .ok (.iinc 6 1, 3) := by decide +kernel
theorem dX10_next_119 : decode cX10_next 119 = .ok (.goto (-59), 3) := by decide +kernel
theorem dX10_next_122 : decode cX10_next 122 = .ok (.aload_n 0, 1) := by decide +kernel
theorem dX10_next_123 : decode cX10_next 123 = .ok (.iload 5, 2) := by decide +kernel
theorem dX10_next_125 : decode cX10_next 125 = .ok (.putfield 60, 3) := by decide +kernel
theorem dX10_next_128 : decode cX10_next 128 = .ok (.iload 4, 2) := by decide +kernel
theorem dX10_next_130 : decode cX10_next 130 = .ok (.ireturn, 1) := by decide +kernel
theorem dX10_haveOf_0 : decode cX10_haveOf 0 = .ok (.iconst 0, 1) := by decide +kernel
theorem dX10_haveOf_1 : decode cX10_haveOf 1 = .ok (.istore_n 2, 1) := by decide +kernel
theorem dX10_haveOf_2 : decode cX10_haveOf 2 = .ok (.iconst 0, 1) := by decide +kernel
theorem dX10_haveOf_3 : decode cX10_haveOf 3 = .ok (.istore_n 3, 1) := by decide +kernel
theorem dX10_haveOf_4 : decode cX10_haveOf 4 = .ok (.iload_n 3, 1) := by decide +kernel
theorem dX10_haveOf_5 : decode cX10_haveOf 5 = .ok (.aload_n 0, 1) := by decide +kernel
theorem dX10_haveOf_6 : decode cX10_haveOf 6 = .ok (.getfield 120, 3) := by decide +kernel
theorem dX10_haveOf_9 : decode cX10_haveOf 9 = .ok (.if_icmp .ge 38, 3) := by decide +kernel
theorem dX10_haveOf_12 : decode cX10_haveOf 12 = .ok (.iload_n 2, 1) := by decide +kernel
theorem dX10_haveOf_13 : decode cX10_haveOf 13 = .ok (.iload_n 1, 1) := by decide +kernel
theorem dX10_haveOf_14 : decode cX10_haveOf 14 = .ok (.iload_n 3, 1) := by decide +kernel
theorem dX10_haveOf_15 : decode cX10_haveOf 15 = .ok (.invokestatic 135, 3) := by decide +kernel
theorem dX10_haveOf_18 : decode cX10_haveOf 18 = .ok (.ifCond .eq 20, 3) := by decide +kernel
theorem dX10_haveOf_21 : decode cX10_haveOf 21 = .ok (.aload_n 0, 1) := by decide +kernel
theorem dX10_haveOf_22 : decode cX10_haveOf 22 = .ok (.getfield 7, 3) := by decide +kernel
theorem dX10_haveOf_25 : decode cX10_haveOf 25 = .ok (.aload_n 0, 1) := by decide +kernel
theorem dX10_haveOf_26 : decode cX10_haveOf 26 = .ok (.invokevirtual 145, 3) := by decide +kernel
theorem dX10_haveOf_29 : decode cX10_haveOf 29 = .ok (.bipush 6, 2) := by decide +kernel
theorem dX10_haveOf_31 : decode cX10_haveOf 31 = .ok (.iadd, 1) := by decide +kernel
theorem dX10_haveOf_32 : decode cX10_haveOf 32 = .ok (.iload_n 3, 1) := by decide +kernel
theorem dX10_haveOf_33 : decode cX10_haveOf 33 = .ok (.iadd, 1) := by decide +kernel
theorem dX10_haveOf_34 : decode cX10_haveOf 34 = .ok (.iaload, 1) := by decide +kernel
theorem dX10_haveOf_35 : decode cX10_haveOf 35 = .ok (.goto 4, 3) := by decide +kernel
theorem dX10_haveOf_38 : decode cX10_haveOf 38 = .ok (.iconst 0, 1) := by decide +kernel
theorem dX10_haveOf_39 : decode cX10_haveOf 39 = .ok (.iadd, 1) := by decide +kernel
theorem dX10_haveOf_40 : decode cX10_haveOf 40 = .ok (.istore_n 2, 1) := by decide +kernel
theorem dX10_haveOf_41 : decode cX10_haveOf 41 = .ok (.iinc 3 1, 3) := by decide +kernel
theorem dX10_haveOf_44 : decode cX10_haveOf 44 = .ok (.goto (-40), 3) := by decide +kernel
theorem dX10_haveOf_47 : decode cX10_haveOf 47 = .ok (.iload_n 2, 1) := by decide +kernel
theorem dX10_haveOf_48 : decode cX10_haveOf 48 = .ok (.ireturn, 1) := by decide +kernel
theorem dX10_sets_0 : decode cX10_sets 0 = .ok (.iload_n 1, 1) := by decide +kernel
theorem dX10_sets_1 : decode cX10_sets 1 = .ok (.iconst 0, 1) := by decide +kernel
theorem dX10_sets_2 : decode cX10_sets 2 = .ok (.sipush 180, 3) := by decide +kernel
theorem dX10_sets_5 : decode cX10_sets 5 = .ok (.invokestatic 63, 3) := by decide +kernel
theorem dX10_sets_8 : decode cX10_sets 8 = .ok (.ifCond .ne 5, 3) := by decide +kernel
theorem dX10_sets_11 : decode cX10_sets 11 = .ok (.iconst (-1), 1) := by decide +kernel
theorem dX10_sets_12 : decode cX10_sets 12 = .ok (.ireturn, 1) := by decide +kernel
theorem dX10_sets_13 : decode cX10_sets 13 = .ok (.aload_n 0, 1) := by decide +kernel
theorem dX10_sets_14 : decode cX10_sets 14 = .ok (.getfield 120, 3) := by decide +kernel
theorem dX10_sets_17 : decode cX10_sets 17 = .ok (.ifCond .ne 6, 3) := by decide +kernel
theorem dX10_sets_20 : decode cX10_sets 20 = .ok (.bipush (-4), 2) := by decide +kernel
theorem dX10_sets_22 : decode cX10_sets 22 = .ok (.ireturn, 1) := by decide +kernel
theorem dX10_sets_23 : decode cX10_sets 23 = .ok (.iconst 0, 1) := by decide +kernel
theorem dX10_sets_24 : decode cX10_sets 24 = .ok (.istore_n 2, 1) := by decide +kernel
theorem dX10_sets_25 : decode cX10_sets 25 = .ok (.bipush (-9), 2) := by decide +kernel
theorem dX10_sets_27 : decode cX10_sets 27 = .ok (.istore_n 3, 1) := by decide +kernel
theorem dX10_sets_28 : decode cX10_sets 28 = .ok (.iconst 1, 1) := by decide +kernel
theorem dX10_sets_29 : decode cX10_sets 29 = .ok (.aload_n 0, 1) := by decide +kernel
theorem dX10_sets_30 : decode cX10_sets 30 = .ok (.getfield 120, 3) := by decide +kernel
theorem dX10_sets_33 : decode cX10_sets 33 = .ok (.ishl, 1) := by decide +kernel
theorem dX10_sets_34 : decode cX10_sets 34 = .ok (.iconst 1, 1) := by decide +kernel
theorem dX10_sets_35 : decode cX10_sets 35 = .ok (.isub, 1) := by decide +kernel
theorem dX10_sets_36 : decode cX10_sets 36 = .ok (.istore 4, 2) := by decide +kernel
theorem dX10_sets_38 : decode cX10_sets 38 = .ok (.iload 4, 2) := by decide +kernel
theorem dX10_sets_40 : decode cX10_sets 40 = .ok (.ifCond .lt 25, 3) := by decide +kernel
theorem dX10_sets_43 : decode cX10_sets 43 = .ok (.aload_n 0, 1) := by decide +kernel
theorem dX10_sets_44 : decode cX10_sets 44 = .ok (.iload 4, 2) := by decide +kernel
theorem dX10_sets_46 : decode cX10_sets 46 = .ok (.invokevirtual 205, 3) := by decide +kernel
theorem dX10_sets_49 : decode cX10_sets 49 = .ok (.iload_n 1, 1) := by decide +kernel
theorem dX10_sets_50 : decode cX10_sets 50 = .ok (.if_icmp .ne 9, 3) := by decide +kernel
theorem dX10_sets_53 : decode cX10_sets 53 = .ok (.iinc 2 1, 3) := by decide +kernel
theorem dX10_sets_56 : decode cX10_sets 56 = .ok (.iload 4, 2) := by decide +kernel
theorem dX10_sets_58 : decode cX10_sets 58 = .ok (.istore_n 3, 1) := by decide +kernel
theorem dX10_sets_59 : decode cX10_sets 59 = .ok (.iinc 4 (-1), 3) := by decide +kernel
theorem dX10_sets_62 : decode cX10_sets 62 = .ok (.goto (-24), 3) := by decide +kernel
theorem dX10_sets_65 : decode cX10_sets 65 = .ok (.aload_n 0, 1) := by decide +kernel
