theorem dX10_sets_66 : decode cX10_sets 66 = .ok (.iload_n 2, 1) := by decide +kernel
theorem dX10_sets_67 : decode cX10_sets 67 = .ok (.i2l, 1) := by decide +kernel
theorem dX10_sets_68 : decode cX10_sets 68 = .ok (.putfield 208, 3) := by decide +kernel
theorem dX10_sets_71 : decode cX10_sets 71 = .ok (.aload_n 0, 1) := by decide +kernel
theorem dX10_sets_72 : decode cX10_sets 72 = .ok (.lconst 1, 1) := by decide +kernel
theorem dX10_sets_73 : decode cX10_sets 73 = .ok (.putfield 34, 3) := by decide +kernel
theorem dX10_sets_76 : decode cX10_sets 76 = .ok (.aload_n 0, 1) := by decide +kernel
theorem dX10_sets_77 : decode cX10_sets 77 = .ok (.iload_n 3, 1) := by decide +kernel
theorem dX10_sets_78 : decode cX10_sets 78 = .ok (.invokevirtual 79, 3) := by decide +kernel
theorem dX10_sets_81 : decode cX10_sets 81 = .ok (.ireturn, 1) := by decide +kernel
theorem dX10_sure_0 : decode cX10_sure 0 = .ok (.iload_n 1, 1) := by decide +kernel
theorem dX10_sure_1 : decode cX10_sure 1 = .ok (.iconst 0, 1) := by decide +kernel
theorem dX10_sure_2 : decode cX10_sure 2 = .ok (.sipush 180, 3) := by decide +kernel
theorem dX10_sure_5 : decode cX10_sure 5 = .ok (.invokestatic 63, 3) := by decide +kernel
theorem dX10_sure_8 : decode cX10_sure 8 = .ok (.ifCond .ne 5, 3) := by decide +kernel
theorem dX10_sure_11 : decode cX10_sure 11 = .ok (.iconst (-1), 1) := by decide +kernel
theorem dX10_sure_12 : decode cX10_sure 12 = .ok (.ireturn, 1) := by decide +kernel
theorem dX10_sure_13 : decode cX10_sure 13 = .ok (.aload_n 0, 1) := by decide +kernel
theorem dX10_sure_14 : decode cX10_sure 14 = .ok (.getfield 120, 3) := by decide +kernel
theorem dX10_sure_17 : decode cX10_sure 17 = .ok (.ifCond .ne 6, 3) := by decide +kernel
theorem dX10_sure_20 : decode cX10_sure 20 = .ok (.bipush (-4), 2) := by decide +kernel
theorem dX10_sure_22 : decode cX10_sure 22 = .ok (.ireturn, 1) := by decide +kernel
theorem dX10_sure_23 : decode cX10_sure 23 = .ok (.iconst 1, 1) := by decide +kernel
theorem dX10_sure_24 : decode cX10_sure 24 = .ok (.aload_n 0, 1) := by decide +kernel
theorem dX10_sure_25 : decode cX10_sure 25 = .ok (.getfield 120, 3) := by decide +kernel
theorem dX10_sure_28 : decode cX10_sure 28 = .ok (.ishl, 1) := by decide +kernel
theorem dX10_sure_29 : decode cX10_sure 29 = .ok (.iconst 1, 1) := by decide +kernel
theorem dX10_sure_30 : decode cX10_sure 30 = .ok (.isub, 1) := by decide +kernel
theorem dX10_sure_31 : decode cX10_sure 31 = .ok (.istore_n 2, 1) := by decide +kernel
theorem dX10_sure_32 : decode cX10_sure 32 = .ok (.iload_n 2, 1) := by decide +kernel
theorem dX10_sure_33 : decode cX10_sure 33 = .ok (.istore_n 3, 1) := by decide +kernel
theorem dX10_sure_34 : decode cX10_sure 34 = .ok (.iconst 0, 1) := by decide +kernel
theorem dX10_sure_35 : decode cX10_sure 35 = .ok (.istore 4, 2) := by decide +kernel
theorem dX10_sure_37 : decode cX10_sure 37 = .ok (.iconst 0, 1) := by decide +kernel
theorem dX10_sure_38 : decode cX10_sure 38 = .ok (.istore 5, 2) := by decide +kernel
theorem dX10_sure_40 : decode cX10_sure 40 = .ok (.iconst 0, 1) := by decide +kernel
theorem dX10_sure_41 : decode cX10_sure 41 = .ok (.istore 6, 2) := by decide +kernel
theorem dX10_sure_43 : decode cX10_sure 43 = .ok (.iload 6, 2) := by decide +kernel
theorem dX10_sure_45 : decode cX10_sure 45 = .ok (.iload_n 2, 1) := by decide +kernel
theorem dX10_sure_46 : decode cX10_sure 46 = .ok (.if_icmp .gt 34, 3) := by decide +kernel
theorem dX10_sure_49 : decode cX10_sure 49 = .ok (.aload_n 0, 1) := by decide +kernel
theorem dX10_sure_50 : decode cX10_sure 50 = .ok (.iload 6, 2) := by decide +kernel
theorem dX10_sure_52 : decode cX10_sure 52 = .ok (.invokevirtual 205, 3) := by decide +kernel
theorem dX10_sure_55 : decode cX10_sure 55 = .ok (.iload_n 1, 1) := by decide +kernel
theorem dX10_sure_56 : decode cX10_sure 56 = .ok (.if_icmp .ne 18, 3) := by decide +kernel
theorem dX10_sure_59 : decode cX10_sure 59 = .ok (.iinc 5 1, 3) := by decide +kernel
theorem dX10_sure_62 : decode cX10_sure 62 = .ok (.iload_n 3, 1) := by decide +kernel
theorem dX10_sure_63 : decode cX10_sure 63 = .ok (.iload 6, 2) := by decide +kernel
theorem dX10_sure_65 : decode cX10_sure 65 = .ok (.iand, 1) := by decide +kernel
theorem dX10_sure_66 : decode cX10_sure 66 = .ok (.istore_n 3, 1) := by decide +kernel
theorem dX10_sure_67 : decode cX10_sure 67 = .ok (.iload 4, 2) := by decide +kernel
theorem dX10_sure_69 : decode cX10_sure 69 = .ok (.iload 6, 2) := by decide +kernel
theorem dX10_sure_71 : decode cX10_sure 71 = .ok (.ior, 1) := by decide +kernel
theorem dX10_sure_72 : decode cX10_sure 72 = .ok (.istore 4, 2) := by decide +kernel
theorem dX10_sure_74 : decode cX10_sure 74 = .ok (.iinc 6 1, 3) := by decide +kernel
theorem dX10_sure_77 : decode cX10_sure 77 = .ok (.goto (-34), 3) := by decide +kernel
theorem dX10_sure_80 : decode cX10_sure 80 = .ok (.iload 5, 2) := by decide +kernel
theorem dX10_sure_82 : decode cX10_sure 82 = .ok (.ifCond .ne 9, 3) := by decide +kernel
theorem dX10_sure_85 : decode cX10_sure 85 = .ok (.aload_n 0, 1) := by decide +kernel
theorem dX10_sure_86 : decode cX10_sure 86 = .ok (.iconst 4, 1) := by decide +kernel
theorem dX10_sure_87 : decode cX10_sure 87 = .ok (.invokevirtual 71, 3) := by decide +kernel
theorem dX10_sure_90 : decode cX10_sure 90 = .ok (.ireturn, 1) := by decide +kernel
theorem dX10_sure_91 : decode cX10_sure 91 = .ok (.aload_n 0, 1) := by decide +kernel
theorem dX10_sure_92 : decode cX10_sure 92 = .ok (.iload_n 2, 1) := by decide +kernel
theorem dX10_sure_93 : decode cX10_sure 93 = .ok (.iload 4, 2) := by decide +kernel
theorem dX10_sure_95 : decode cX10_sure 95 = .ok (.iconst (-1), 1) := by decide +kernel
theorem dX10_sure_96 : decode cX10_sure 96 = .ok (.ixor, 1) := by decide +kernel
theorem dX10_sure_97 : decode cX10_sure 97 = .ok (.iand, 1) := by decide +kernel
theorem dX10_sure_98 : decode cX10_sure 98 = .ok (.putfield 60, 3) := by decide +kernel
theorem dX10_sure_101 : decode cX10_sure 101 = .ok (.iload_n 3, 1) := by decide +kernel
theorem dX10_sure_102 : decode cX10_sure 102 = .ok (.ireturn, 1) := by decide +kernel
theorem dX10_endOf_0 : decode cX10_endOf 0 = .ok (.aload_n 0, 1) := by decide +kernel
theorem dX10_endOf_1 : decode cX10_endOf 1 = .ok (.aload_n 0, 1) := by decide +kernel
theorem dX10_endOf_2 : decode cX10_endOf 2 = .ok (.invokevirtual 145, 3) := by decide +kernel
theorem dX10_endOf_5 : decode cX10_endOf 5 = .ok (.sipush 2788, 3) := by decide +kernel
theorem dX10_endOf_8 : decode cX10_endOf 8 = .ok (.invokevirtual 167, 3) := by decide +kernel
theorem dX10_endOf_11 : decode cX10_endOf 11 = .ok (.iload_n 3, 1) := by decide +kernel
theorem dX10_endOf_12 : decode cX10_endOf 12 = .ok (.istore 5, 2) := by decide +kernel
theorem dX10_endOf_14 : decode cX10_endOf 14 = .ok (.iload 4, 2) := by decide +kernel
theorem dX10_endOf_16 : decode cX10_endOf 16 = .ok (.iconst 1, 1) := by decide +kernel
theorem dX10_endOf_17 : decode cX10_endOf 17 = .ok (.isub, 1) := by decide +kernel
theorem dX10_endOf_18 : decode cX10_endOf 18 = .ok (.istore 6, 2) := by decide +kernel
theorem dX10_endOf_20 : decode cX10_endOf 20 = .ok (.iload 6, 2) := by decide +kernel
theorem dX10_endOf_22 : decode cX10_endOf 22 = .ok (.ifCond .lt 62, 3) := by decide +kernel
theorem dX10_endOf_25 : decode cX10_endOf 25 = .ok (.iload 6, 2) := by decide +kernel
theorem dX10_endOf_27 : decode cX10_endOf 27 = .ok (.iconst 2, 1) := by decide +kernel
theorem dX10_endOf_28 : decode cX10_endOf 28 = .ok (.irem, 1) := by decide +kernel
theorem dX10_endOf_29 : decode cX10_endOf 29 = .ok (.ifCond .ne 7, 3) := by decide +kernel
theorem dX10_endOf_32 : decode cX10_endOf 32 = .ok (.iload_n 1, 1) := by decide +kernel
theorem dX10_endOf_33 : decode cX10_endOf 33 = .ok (.goto 4, 3) := by decide +kernel
theorem dX10_endOf_36 : decode cX10_endOf 36 = .ok (.iload_n 2, 1) := by decide +kernel
theorem dX10_endOf_37 : decode cX10_endOf 37 = .ok (.istore 7, 2) := by decide +kernel
theorem dX10_endOf_39 : decode cX10_endOf 39 = .ok (.aload_n 0, 1) := by decide +kernel
theorem dX10_endOf_40 : decode cX10_endOf 40 = .ok (.getfield 7, 3) := by decide +kernel
theorem dX10_endOf_43 : decode cX10_endOf 43 = .ok (.sipush 2788, 3) := by decide +kernel
theorem dX10_endOf_46 : decode cX10_endOf 46 = .ok (.iload 7, 2) := by decide +kernel
theorem dX10_endOf_48 : decode cX10_endOf 48 = .ok (.iadd, 1) := by decide +kernel
theorem dX10_endOf_49 : decode cX10_endOf 49 = .ok (.aload_n 0, 1) := by decide +kernel
theorem dX10_endOf_50 : decode cX10_endOf 50 = .ok (.getfield 7, 3) := by decide +kernel
theorem dX10_endOf_53 : decode cX10_endOf 53 = .ok (.sipush 2788, 3) := by decide +kernel
theorem dX10_endOf_56 : decode cX10_endOf 56 = .ok (.iload 7, 2) := by decide +kernel
theorem dX10_endOf_58 : decode cX10_endOf 58 = .ok (.iadd, 1) := by decide +kernel
theorem dX10_endOf_59 : decode cX10_endOf 59 = .ok (.iaload, 1) := by decide +kernel
theorem dX10_endOf_60 : decode cX10_endOf 60 = .ok (.iload 5, 2) := by decide +kernel
theorem dX10_endOf_62 : decode cX10_endOf 62 = .ok (.iconst 3, 1) := by decide +kernel
theorem dX10_endOf_63 : decode cX10_endOf 63 = .ok (.irem, 1) := by decide +kernel
theorem dX10_endOf_64 : decode cX10_endOf 64 = .ok (.iadd, 1) := by decide +kernel
theorem dX10_endOf_65 : decode cX10_endOf 65 = .ok (.bipush 9, 2) := by decide +kernel
theorem dX10_endOf_67 : decode cX10_endOf 67 = .ok (.iadd, 1) := by decide +kernel
theorem dX10_endOf_68 : decode cX10_endOf 68 = .ok (.bipush 10, 2) := by decide +kernel
theorem dX10_endOf_70 : decode cX10_endOf 70 = .ok (.irem, 1) := by decide +kernel
theorem dX10_endOf_71 : decode cX10_endOf 71 = .ok (.iastore, 1) := by decide +kernel
theorem dX10_endOf_72 : decode cX10_endOf 72 = .ok (.iload 5, 2) := by decide +kernel
theorem dX10_endOf_74 : decode cX10_endOf 74 = .ok (.iconst 3, 1) := by decide +kernel
theorem dX10_endOf_75 : decode cX10_endOf 75 = .ok (.idiv, 1) := by decide +kernel
theorem dX10_endOf_76 : decode cX10_endOf 76 = .ok (.istore 5, 2) := by decide +kernel
theorem dX10_endOf_78 : decode cX10_endOf 78 = .ok (.iinc 6 (-1), 3) := by decide +kernel
theorem dX10_endOf_81 : decode cX10_endOf 81 = .ok (.goto (-61), 3) := by decide +kernel
theorem dX10_endOf_84 : decode cX10_endOf 84 = .ok (.iconst 0, 1) := by decide +kernel
theorem dX10_endOf_85 : decode cX10_endOf 85 = .ok (.istore 6, 2) := by decide +kernel
theorem dX10_endOf_87 : decode cX10_endOf 87 = .ok (.iload 6, 2) := by decide +kernel
theorem dX10_endOf_89 : decode cX10_endOf 89 = .ok (.iconst 3, 1) := by decide +kernel
theorem dX10_endOf_90 : decode cX10_endOf 90 = .ok (.if_icmp .ge 18, 3) := by decide +kernel
theorem dX10_endOf_93 : decode cX10_endOf 93 = .ok (.aload_n 0, 1) := by decide +kernel
theorem dX10_endOf_94 : decode cX10_endOf 94 = .ok (.sipush 2788, 3) := by decide +kernel
theorem dX10_endOf_97 : decode cX10_endOf 97 = .ok (.invokevirtual 174, 3) := by decide +kernel
theorem dX10_endOf_100 : decode cX10_endOf 100 = .ok (.istore 7, 2) := by decide +kernel
theorem dX10_endOf_102 : decode cX10_endOf 102 = .ok (.iinc 6 1, 3) := by decide +kernel
theorem dX10_endOf_105 : decode cX10_endOf 105 = .ok (.goto (-18), 3) := by decide +kernel
theorem dX10_endOf_108 : decode cX10_endOf 108 = .ok (.aload_n 0, 1) := by decide +kernel
theorem dX10_endOf_109 : decode cX10_endOf 109 = .ok (.getfield 7, 3) := by decide +kernel
theorem dX10_endOf_112 : decode cX10_endOf 112 = .ok (.sipush 2794, 3) := by decide +kernel
theorem dX10_endOf_115 : decode cX10_endOf 115 = .ok (.iload_n 1, 1) := by decide +kernel
theorem dX10_endOf_116 : decode cX10_endOf 116 = .ok (.iadd, 1) := by decide +kernel
theorem dX10_endOf_117 : decode cX10_endOf 117 = .ok (.iaload, 1) := by decide +kernel
theorem dX10_endOf_118 : decode cX10_endOf 118 = .ok (.aload_n 0, 1) := by decide +kernel
theorem dX10_endOf_119 : decode cX10_endOf 119 = .ok (.getfield 7, 3) := by decide +kernel
theorem dX10_endOf_122 : decode cX10_endOf 122 = .ok (.sipush 2794, 3) := by decide +kernel
theorem dX10_endOf_125 : decode cX10_endOf 125 = .ok (.iload_n 2, 1) := by decide +kernel
theorem dX10_endOf_126 : decode cX10_endOf 126 = .ok (.iadd, 1) := by decide +kernel
theorem dX10_endOf_127 : decode cX10_endOf 127 = .ok (.iaload, 1) := by decide +kernel
theorem dX10_endOf_128 : decode cX10_endOf 128 = .ok (.isub, 1) := by decide +kernel
theorem dX10_endOf_129 : decode cX10_endOf 129 = .ok (.ireturn, 1) := by decide +kernel
theorem dX10_duel_0 : decode cX10_duel 0 = .ok (.aload_n 0, 1) := by decide +kernel
theorem dX10_duel_1 : decode cX10_duel 1 = .ok (.iload_n 1, 1) := by decide +kernel
theorem dX10_duel_2 : decode cX10_duel 2 = .ok (.invokevirtual 152, 3) := by decide +kernel
theorem dX10_duel_5 : decode cX10_duel 5 = .ok (.ifCond .eq 25, 3) := by decide +kernel
theorem dX10_duel_8 : decode cX10_duel 8 = .ok (.aload_n 0, 1) := by decide +kernel
theorem dX10_duel_9 : decode cX10_duel 9 = .ok (.iload_n 2, 1) := by decide +kernel
theorem dX10_duel_10 : decode cX10_duel 10 = .ok (.invokevirtual 152, 3) := by decide +kernel
theorem dX10_duel_13 : decode cX10_duel 13 = .ok (.ifCond .eq 17, 3) := by decide +kernel
theorem dX10_duel_16 : decode cX10_duel 16 = .ok (.iload_n 1, 1) := by decide +kernel
theorem dX10_duel_17 : decode cX10_duel 17 = .ok (.iload_n 2, 1) := by decide +kernel
theorem dX10_duel_18 : decode cX10_duel 18 = .ok (.if_icmp .eq 12, 3) := by decide +kernel
theorem dX10_duel_21 : decode cX10_duel 21 = .ok (.iload_n 3, 1) := by decide +kernel
theorem dX10_duel_22 : decode cX10_duel 22 = .ok (.iconst 0, 1) := by decide +kernel
theorem dX10_duel_23 : decode cX10_duel 23 = .ok (.iconst 2, 1) := by decide +kernel
theorem dX10_duel_24 : decode cX10_duel 24 = .ok (.invokestatic 63, 3) := by decide +kernel
theorem dX10_duel_27 : decode cX10_duel 27 = .ok (.ifCond .ne 5, 3) := by decide +kernel
theorem dX10_duel_30 : decode cX10_duel 30 = .ok (.iconst (-1), 1) := by decide +kernel
theorem dX10_duel_31 : decode cX10_duel 31 = .ok (.ireturn, 1) := by decide +kernel
theorem dX10_duel_32 : decode cX10_duel 32 = .ok (.iload_n 3, 1) := by decide +kernel
theorem dX10_duel_33 : decode cX10_duel 33 = .ok (.ifCond .ne 7, 3) := by decide +kernel
theorem dX10_duel_36 : decode cX10_duel 36 = .ok (.iconst 1, 1) := by decide +kernel
theorem dX10_duel_37 : decode cX10_duel 37 = .ok (.goto 15, 3) := by decide +kernel
theorem dX10_duel_40 : decode cX10_duel 40 = .ok (.iload_n 3, 1) := by decide +kernel
theorem dX10_duel_41 : decode cX10_duel 41 = .ok (.iconst 1, 1) := by decide +kernel
theorem dX10_duel_42 : decode cX10_duel 42 = .ok (.if_icmp .ne 8, 3) := by decide +kernel
theorem dX10_duel_45 : decode cX10_duel 45 = .ok (.bipush 9, 2) := by decide +kernel
theorem dX10_duel_47 : decode cX10_duel 47 = .ok (.goto 5, 3) := by decide +kernel
theorem dX10_duel_50 : decode cX10_duel 50 = .ok (.bipush 81, 2) := by decide +kernel
theorem dX10_duel_52 : decode cX10_duel 52 = .ok (.istore 4, 2) := by decide +kernel
theorem dX10_duel_54 : decode cX10_duel 54 = .ok (.iconst 0, 1) := by decide +kernel
theorem dX10_duel_55 : decode cX10_duel 55 = .ok (.istore 5, 2) := by decide +kernel
theorem dX10_duel_57 : decode cX10_duel 57 = .ok (.iload 5, 2) := by decide +kernel
theorem dX10_duel_59 : decode cX10_duel 59 = .ok (.iload 4, 2) := by decide +kernel
theorem dX10_duel_61 : decode cX10_duel 61 = .ok (.if_icmp .ge 27, 3) := by decide +kernel
theorem dX10_duel_64 : decode cX10_duel 64 = .ok (.aload_n 0, 1) := by decide +kernel
theorem dX10_duel_65 : decode cX10_duel 65 = .ok (.getfield 50, 3) := by decide +kernel
theorem dX10_duel_68 : decode cX10_duel 68 = .ok (.iload 5, 2) := by decide +kernel
theorem dX10_duel_70 : decode cX10_duel 70 = .ok (.aload_n 0, 1) := by decide +kernel
theorem dX10_duel_71 : decode cX10_duel 71 = .ok (.iload_n 1, 1) := by decide +kernel
theorem dX10_duel_72 : decode cX10_duel 72 = .ok (.iload_n 2, 1) := by decide +kernel
theorem dX10_duel_73 : decode cX10_duel 73 = .ok (.iload 5, 2) := by decide +kernel
theorem dX10_duel_75 : decode cX10_duel 75 = .ok (.iconst 2, 1) := by decide +kernel
theorem dX10_duel_76 : decode cX10_duel 76 = .ok (.iload_n 3, 1) := by decide +kernel
theorem dX10_duel_77 : decode cX10_duel 77 = .ok (.imul, 1) := by decide +kernel
theorem dX10_duel_78 : decode cX10_duel 78 = .ok (.invokevirtual 211, 3) := by decide +kernel
theorem dX10_duel_81 : decode cX10_duel 81 = .ok (.iastore, 1) := by decide +kernel
theorem dX10_duel_82 : decode cX10_duel 82 = .ok (.iinc 5 1, 3) := by decide +kernel
theorem dX10_duel_85 : decode cX10_duel 85 = .ok (.goto (-28), 3) := by decide +kernel
theorem dX10_duel_88 : decode cX10_duel 88 = .ok (.iconst 2, 1) := by decide +kernel
theorem dX10_duel_89 : decode cX10_duel 89 = .ok (.iload_n 3, 1) := by decide +kernel
theorem dX10_duel_90 : decode cX10_duel 90 = .ok (.imul, 1) := by decide +kernel
theorem dX10_duel_91 : decode cX10_duel 91 = .ok (.iconst 1, 1) := by decide +kernel
theorem dX10_duel_92 : decode cX10_duel 92 = .ok (.isub, 1) := by decide +kernel
theorem dX10_duel_93 : decode cX10_duel 93 = .ok (.istore 5, 2) := by decide +kernel
theorem dX10_duel_95 : decode cX10_duel 95 = .ok (.iload 5, 2) := by decide +kernel
theorem dX10_duel_97 : decode cX10_duel 97 = .ok (.ifCond .lt 130, 3) := by decide +kernel
theorem dX10_duel_100 : decode cX10_duel 100 = .ok (.iload 4, 2) := by decide +kernel
theorem dX10_duel_102 : decode cX10_duel 102 = .ok (.iconst 3, 1) := by decide +kernel
theorem dX10_duel_103 : decode cX10_duel 103 = .ok (.idiv, 1) := by decide +kernel
theorem dX10_duel_104 : decode cX10_duel 104 = .ok (.istore 4, 2) := by decide +kernel
theorem dX10_duel_106 : decode cX10_duel 106 = .ok (.iconst 0, 1) := by decide +kernel
theorem dX10_duel_107 : decode cX10_duel 107 = .ok (.istore 6, 2) := by decide +kernel
theorem dX10_duel_109 : decode cX10_duel 109 = .ok (.iload 6, 2) := by decide +kernel
theorem dX10_duel_111 : decode cX10_duel 111 = .ok (.iload 4, 2) := by decide +kernel
theorem dX10_duel_113 : decode cX10_duel 113 = .ok (.if_icmp .ge 108, 3) := by decide +kernel
theorem dX10_duel_116 : decode cX10_duel 116 = .ok (.aload_n 0, 1) := by decide +kernel
theorem dX10_duel_117 : decode cX10_duel 117 = .ok (.getfield 50, 3) := by decide +kernel
theorem dX10_duel_120 : decode cX10_duel 120 = .ok (.iconst 3, 1) := by decide +kernel
theorem dX10_duel_121 : decode cX10_duel 121 = .ok (.iload 6, 2) := by decide +kernel
theorem dX10_duel_123 : decode cX10_duel 123 = .ok (.imul, 1) := by decide +kernel
theorem dX10_duel_124 : decode cX10_duel 124 = .ok (.iaload, 1) := by decide +kernel
theorem dX10_duel_125 : decode cX10_duel 125 = .ok (.istore 7, 2) := by decide +kernel
theorem dX10_duel_127 : decode cX10_duel 127 = .ok (.iconst 1, 1) := by decide +kernel
theorem dX10_duel_128 : decode cX10_duel 128 = .ok (.istore 8, 2) := by decide +kernel
theorem dX10_duel_130 : decode cX10_duel 130 = .ok (.iload 8, 2) := by decide +kernel
theorem dX10_duel_132 : decode cX10_duel 132 = .ok (.iconst 3, 1) := by decide +kernel
theorem dX10_duel_133 : decode cX10_duel 133 = .ok (.if_icmp .ge 73, 3) := by decide +kernel
theorem dX10_duel_136 : decode cX10_duel 136 = .ok (.aload_n 0, 1) := by decide +kernel
theorem dX10_duel_137 : decode cX10_duel 137 = .ok (.getfield 50, 3) := by decide +kernel
theorem dX10_duel_140 : decode cX10_duel 140 = .ok (.iconst 3, 1) := by decide +kernel
theorem dX10_duel_141 : decode cX10_duel 141 = .ok (.iload 6, 2) := by decide +kernel
theorem dX10_duel_143 : decode cX10_duel 143 = .ok (.imul, 1) := by decide +kernel
theorem dX10_duel_144 : decode cX10_duel 144 = .ok (.iload 8, 2) := by decide +kernel
theorem dX10_duel_146 : decode cX10_duel 146 = .ok (.iadd, 1) := by decide +kernel
theorem dX10_duel_147 : decode cX10_duel 147 = .ok (.iaload, 1) := by decide +kernel
theorem dX10_duel_148 : decode cX10_duel 148 = .ok (.istore 9, 2) := by decide +kernel
theorem dX10_duel_150 : decode cX10_duel 150 = .ok (.iload 5, 2) := by decide +kernel
theorem dX10_duel_152 : decode cX10_duel 152 = .ok (.iconst 2, 1) := by decide +kernel
theorem dX10_duel_153 : decode cX10_duel 153 = .ok (.irem, 1) := by decide +kernel
theorem dX10_duel_154 : decode cX10_duel 154 = .ok (.ifCond .ne 18, 3) := by decide +kernel
theorem dX10_duel_157 : decode cX10_duel 157 = .ok (.iload 9, 2) := by decide +kernel
theorem dX10_duel_159 : decode cX10_duel 159 = .ok (.iload 7, 2) := by decide +kernel
theorem dX10_duel_161 : decode cX10_duel 161 = .ok (.if_icmp .le 7, 3) := by decide +kernel
theorem dX10_duel_164 : decode cX10_duel 164 = .ok (.iconst 1, 1) := by decide +kernel
theorem dX10_duel_165 : decode cX10_duel 165 = .ok (.goto 19, 3) := by decide +kernel
theorem dX10_duel_168 : decode cX10_duel 168 = .ok (.iconst 0, 1) := by decide +kernel
theorem dX10_duel_169 : decode cX10_duel 169 = .ok (.goto 15, 3) := by decide +kernel
theorem dX10_duel_172 : decode cX10_duel 172 = .ok (.iload 9, 2) := by decide +kernel
theorem dX10_duel_174 : decode cX10_duel 174 = .ok (.iload 7, 2) := by decide +kernel
theorem dX10_duel_176 : decode cX10_duel 176 = .ok (.if_icmp .ge 7, 3) := by decide +kernel
theorem dX10_duel_179 : decode cX10_duel 179 = .ok (.iconst 1, 1) := by decide +kernel
theorem dX10_duel_180 : decode cX10_duel 180 = .ok (.goto 4, 3) := by decide +kernel
theorem dX10_duel_183 : decode cX10_duel 183 = .ok (.iconst 0, 1) := by decide +kernel
theorem dX10_duel_184 : decode cX10_duel 184 = .ok (.istore 10, 2) := by decide +kernel
theorem dX10_duel_186 : decode cX10_duel 186 = .ok (.iload 10, 2) := by decide +kernel
theorem dX10_duel_188 : decode cX10_duel 188 = .ok (.ifCond .eq 8, 3) := by decide +kernel
theorem dX10_duel_191 : decode cX10_duel 191 = .ok (.iload 9, 2) := by decide +kernel
theorem dX10_duel_193 : decode cX10_duel 193 = .ok (.goto 5, 3) := by decide +kernel
theorem dX10_duel_196 : decode cX10_duel 196 = .ok (.iload 7, 2) := by decide +kernel
theorem dX10_duel_198 : decode cX10_duel 198 = .ok (.istore 7, 2) := by decide +kernel
theorem dX10_duel_200 : decode cX10_duel 200 = .ok (.iinc 8 1, 3) := by decide +kernel
theorem dX10_duel_203 : decode cX10_duel 203 = .ok (.goto (-73), 3) := by decide +kernel
theorem dX10_duel_206 : decode cX10_duel 206 = .ok (.aload_n 0, 1) := by decide +kernel
theorem dX10_duel_207 : decode cX10_duel 207 = .ok (.getfield 50, 3) := by decide +kernel
theorem dX10_duel_210 : decode cX10_duel 210 = .ok (.iload 6, 2) := by decide +kernel
theorem dX10_duel_212 : decode cX10_duel 212 = .ok (.iload 7, 2) := by decide +kernel
theorem dX10_duel_214 : decode cX10_duel 214 = .ok (.iastore, 1) := by decide +kernel
theorem dX10_duel_215 : decode cX10_duel 215 = .ok (.iinc 6 1, 3) := by decide +kernel
theorem dX10_duel_218 : decode cX10_duel 218 = .ok (.goto (-109), 3) := by decide +kernel
theorem dX10_duel_221 : decode cX10_duel 221 = .ok (.iinc 5 (-1), 3) := by decide +kernel
theorem dX10_duel_224 : decode cX10_duel 224 = .ok (.goto (-129), 3) := by decide +kernel
theorem dX10_duel_227 : decode cX10_duel 227 = .ok (.aload_n 0, 1) := by decide +kernel
theorem dX10_duel_228 : decode cX10_duel 228 = .ok (.aload_n 0, 1) := by decide +kernel
theorem dX10_duel_229 : decode cX10_duel 229 = .ok (.getfield 50, 3) := by decide +kernel
theorem dX10_duel_232 : decode cX10_duel 232 = .ok (.iconst 0, 1) := by decide +kernel
theorem dX10_duel_233 : decode cX10_duel 233 = .ok (.iaload, 1) := by decide +kernel
theorem dX10_duel_234 : decode cX10_duel 234 = .ok (.invokevirtual 79, 3) := by decide +kernel
theorem dX10_duel_237 : decode cX10_duel 237 = .ok (.ireturn, 1) := by decide +kernel
theorem dX10_tellPart_0 : decode cX10_tellPart 0 = .ok (.lload_n 1, 1) := by decide +kernel
theorem dX10_tellPart_1 : decode cX10_tellPart 1 = .ok (.lstore 5, 2) := by decide +kernel
theorem dX10_tellPart_3 : decode cX10_tellPart 3 = .ok (.lload_n 3, 1) := by decide +kernel
theorem dX10_tellPart_4 : decode cX10_tellPart 4 = .ok (.lstore 7, 2) := by decide +kernel
theorem dX10_tellPart_6 : decode cX10_tellPart 6 = .ok (.lload 7, 2) := by decide +kernel
theorem dX10_tellPart_8 : decode cX10_tellPart 8 = .ok (.lconst 0, 1) := by decide +kernel
theorem dX10_tellPart_9 : decode cX10_tellPart 9 = .ok (.lcmp, 1) := by decide +kernel
theorem dX10_tellPart_10 : decode cX10_tellPart 10 = .ok (.ifCond .eq 21, 3) := by decide +kernel
theorem dX10_tellPart_13 : decode cX10_tellPart 13 = .ok (.lload 5, 2) := by decide +kernel
theorem dX10_tellPart_15 : decode cX10_tellPart 15 = .ok (.lload 7, 2) := by decide +kernel
theorem dX10_tellPart_17 : decode cX10_tellPart 17 = .ok (.lrem, 1) := by decide +kernel
theorem dX10_tellPart_18 : decode cX10_tellPart 18 = .ok (.lstore 9, 2) := by decide +kernel
theorem dX10_tellPart_20 : decode cX10_tellPart 20 = .ok (.lload 7, 2) := by decide +kernel
theorem dX10_tellPart_22 : decode cX10_tellPart 22 = .ok (.lstore 5, 2) := by decide +kernel
theorem dX10_tellPart_24 : decode cX10_tellPart 24 = .ok (.lload 9, 2) := by decide +kernel
theorem dX10_tellPart_26 : decode cX10_tellPart 26 = .ok (.lstore 7, 2) := by decide +kernel
theorem dX10_tellPart_28 : decode cX10_tellPart 28 = .ok (.goto (-22), 3) := by decide +kernel
theorem dX10_tellPart_31 : decode cX10_tellPart 31 = .ok (.aload_n 0, 1) := by decide +kernel
theorem dX10_tellPart_32 : decode cX10_tellPart 32 = .ok (.lload_n 1, 1) := by decide +kernel
theorem dX10_tellPart_33 : decode cX10_tellPart 33 = .ok (.lload 5, 2) := by decide +kernel
theorem dX10_tellPart_35 : decode cX10_tellPart 35 = .ok (.ldiv, 1) := by decide +kernel
theorem dX10_tellPart_36 : decode cX10_tellPart 36 = .ok (.putfield 208, 3) := by decide +kernel
theorem dX10_tellPart_39 : decode cX10_tellPart 39 = .ok (.aload_n 0, 1) := by decide +kernel
theorem dX10_tellPart_40 : decode cX10_tellPart 40 = .ok (.lload_n 3, 1) := by decide +kernel
theorem dX10_tellPart_41 : decode cX10_tellPart 41 = .ok (.lload 5, 2) := by decide +kernel
theorem dX10_tellPart_43 : decode cX10_tellPart 43 = .ok (.ldiv, 1) := by decide +kernel
theorem dX10_tellPart_44 : decode cX10_tellPart 44 = .ok (.putfield 34, 3) := by decide +kernel
theorem dX10_tellPart_47 : decode cX10_tellPart 47 = .ok (.return_, 1) := by decide +kernel
theorem dX10_weighed_0 : decode cX10_weighed 0 = .ok (.lconst 0, 1) := by decide +kernel
theorem dX10_weighed_1 : decode cX10_weighed 1 = .ok (.lstore_n 3, 1) := by decide +kernel
theorem dX10_weighed_2 : decode cX10_weighed 2 = .ok (.iconst 0, 1) := by decide +kernel
theorem dX10_weighed_3 : decode cX10_weighed 3 = .ok (.istore 5, 2) := by decide +kernel
theorem dX10_weighed_5 : decode cX10_weighed 5 = .ok (.iload 5, 2) := by decide +kernel
theorem dX10_weighed_7 : decode cX10_weighed 7 = .ok (.iconst 1, 1) := by decide +kernel
theorem dX10_weighed_8 : decode cX10_weighed 8 = .ok (.aload_n 0, 1) := by decide +kernel
theorem dX10_weighed_9 : decode cX10_weighed 9 = .ok (.getfield 120, 3) := by decide +kernel
theorem dX10_weighed_12 : decode cX10_weighed 12 = .ok (.ishl, 1) := by decide +kernel
theorem dX10_weighed_13 : decode cX10_weighed 13 = .ok (.if_icmp .ge 119, 3) := by decide +kernel
theorem dX10_weighed_16 : decode cX10_weighed 16 = .ok (.lconst 1, 1) := by decide +kernel
theorem dX10_weighed_17 : decode cX10_weighed 17 = .ok (.lstore 6, 2) := by decide +kernel
theorem dX10_weighed_19 : decode cX10_weighed 19 = .ok (.iconst 0, 1) := by decide +kernel
theorem dX10_weighed_20 : decode cX10_weighed 20 = .ok (.istore 8, 2) := by decide +kernel
theorem dX10_weighed_22 : decode cX10_weighed 22 = .ok (.iload 8, 2) := by decide +kernel
theorem dX10_weighed_24 : decode cX10_weighed 24 = .ok (.aload_n 0, 1) := by decide +kernel
theorem dX10_weighed_25 : decode cX10_weighed 25 = .ok (.getfield 120, 3) := by decide +kernel
theorem dX10_weighed_28 : decode cX10_weighed 28 = .ok (.if_icmp .ge 34, 3) := by decide +kernel
theorem dX10_weighed_31 : decode cX10_weighed 31 = .ok (.lload 6, 2) := by decide +kernel
theorem dX10_weighed_33 : decode cX10_weighed 33 = .ok (.iload 5, 2) := by decide +kernel
theorem dX10_weighed_35 : decode cX10_weighed 35 = .ok (.iload 8, 2) := by decide +kernel
theorem dX10_weighed_37 : decode cX10_weighed 37 = .ok (.invokestatic 135, 3) := by decide +kernel
theorem dX10_weighed_40 : decode cX10_weighed 40 = .ok (.ifCond .eq 8, 3) := by decide +kernel
theorem dX10_weighed_43 : decode cX10_weighed 43 = .ok (.iload_n 2, 1) := by decide +kernel
theorem dX10_weighed_44 : decode cX10_weighed 44 = .ok (.i2l, 1) := by decide +kernel
theorem dX10_weighed_45 : decode cX10_weighed 45 = .ok (.goto 8, 3) := by decide +kernel
theorem dX10_weighed_48 : decode cX10_weighed 48 = .ok (.bipush 12, 2) := by decide +kernel
theorem dX10_weighed_50 : decode cX10_weighed 50 = .ok (.iload_n 2, 1) := by decide +kernel
theorem dX10_weighed_51 : decode cX10_weighed 51 = .ok (.isub, 1) := by decide +kernel
theorem dX10_weighed_52 : decode cX10_weighed 52 = .ok (.i2l, 1) := by decide +kernel
theorem dX10_weighed_53 : decode cX10_weighed 53 = .ok (.lmul, 1) := by decide +kernel
theorem dX10_weighed_54 : decode cX10_weighed 54 = .ok (.lstore 6, 2) := by decide +kernel
theorem dX10_weighed_56 : decode cX10_weighed 56 = .ok (.iinc 8 1, 3) := by decide +kernel
theorem dX10_weighed_59 : decode cX10_weighed 59 = .ok (.goto (-37), 3) := by decide +kernel
theorem dX10_weighed_62 : decode cX10_weighed 62 = .ok (.aload_n 0, 1) := by decide +kernel
theorem dX10_weighed_63 : decode cX10_weighed 63 = .ok (.aload_n 0, 1) := by decide +kernel
theorem dX10_weighed_64 : decode cX10_weighed 64 = .ok (.invokevirtual 145, 3) := by decide +kernel
theorem dX10_weighed_67 : decode cX10_weighed 67 = .ok (.sipush 2788, 3) := by decide +kernel
theorem dX10_weighed_70 : decode cX10_weighed 70 = .ok (.invokevirtual 167, 3) := by decide +kernel
theorem dX10_weighed_73 : decode cX10_weighed 73 = .ok (.aload_n 0, 1) := by decide +kernel
theorem dX10_weighed_74 : decode cX10_weighed 74 = .ok (.sipush 2788, 3) := by decide +kernel
theorem dX10_weighed_77 : decode cX10_weighed 77 = .ok (.iload 5, 2) := by decide +kernel
theorem dX10_weighed_79 : decode cX10_weighed 79 = .ok (.bipush (-9), 2) := by decide +kernel
theorem dX10_weighed_81 : decode cX10_weighed 81 = .ok (.iconst 0, 1) := by decide +kernel
theorem dX10_weighed_82 : decode cX10_weighed 82 = .ok (.invokevirtual 141, 3) := by decide +kernel
theorem dX10_weighed_85 : decode cX10_weighed 85 = .ok (.istore 8, 2) := by decide +kernel
theorem dX10_weighed_87 : decode cX10_weighed 87 = .ok (.lload_n 3, 1) := by decide +kernel
theorem dX10_weighed_88 : decode cX10_weighed 88 = .ok (.iload_n 1, 1) := by decide +kernel
theorem dX10_weighed_89 : decode cX10_weighed 89 = .ok (.bipush (-9), 2) := by decide +kernel
theorem dX10_weighed_91 : decode cX10_weighed 91 = .ok (.if_icmp .ne 18, 3) := by decide +kernel
theorem dX10_weighed_94 : decode cX10_weighed 94 = .ok (.lload 6, 2) := by decide +kernel
theorem dX10_weighed_96 : decode cX10_weighed 96 = .ok (.aload_n 0, 1) := by decide +kernel
theorem dX10_weighed_97 : decode cX10_weighed 97 = .ok (.getfield 7, 3) := by decide +kernel
theorem dX10_weighed_100 : decode cX10_weighed 100 = .ok (.sipush 2800, 3) := by decide +kernel
theorem dX10_weighed_103 : decode cX10_weighed 103 = .ok (.iaload, 1) := by decide +kernel
theorem dX10_weighed_104 : decode cX10_weighed 104 = .ok (.i2l, 1) := by decide +kernel
theorem dX10_weighed_105 : decode cX10_weighed 105 = .ok (.lmul, 1) := by decide +kernel
theorem dX10_weighed_106 : decode cX10_weighed 106 = .ok (.goto 18, 3) := by decide +kernel
theorem dX10_weighed_109 : decode cX10_weighed 109 = .ok (.iload 8, 2) := by decide +kernel
theorem dX10_weighed_111 : decode cX10_weighed 111 = .ok (.iload_n 1, 1) := by decide +kernel
theorem dX10_weighed_112 : decode cX10_weighed 112 = .ok (.invokestatic 135, 3) := by decide +kernel
theorem dX10_weighed_115 : decode cX10_weighed 115 = .ok (.ifCond .eq 8, 3) := by decide +kernel
theorem dX10_weighed_118 : decode cX10_weighed 118 = .ok (.lload 6, 2) := by decide +kernel
theorem dX10_weighed_120 : decode cX10_weighed 120 = .ok (.goto 4, 3) := by decide +kernel
theorem dX10_weighed_123 : decode cX10_weighed 123 = .ok (.lconst 0, 1) := by decide +kernel
theorem dX10_weighed_124 : decode cX10_weighed 124 = .ok (.ladd, 1) := by decide +kernel
theorem dX10_weighed_125 : decode cX10_weighed 125 = .ok (.lstore_n 3, 1) := by decide +kernel
theorem dX10_weighed_126 : decode cX10_weighed 126 = .ok (.iinc 5 1, 3) := by decide +kernel
theorem dX10_weighed_129 : decode cX10_weighed 129 = .ok (.goto (-124), 3) := by decide +kernel
theorem dX10_weighed_132 : decode cX10_weighed 132 = .ok (.lload_n 3, 1) := by decide +kernel
theorem dX10_weighed_133 : decode cX10_weighed 133 = .ok (.lreturn, 1) := by decide +kernel
theorem dX10_twelves_0 : decode cX10_twelves 0 = .ok (.lconst 1, 1) := by decide +kernel
theorem dX10_twelves_1 : decode cX10_twelves 1 = .ok (.lstore_n 1, 1) := by decide +kernel
theorem dX10_twelves_2 : decode cX10_twelves 2 = .ok (.iconst 0, 1) := by decide +kernel
theorem dX10_twelves_3 : decode cX10_twelves 3 = .ok (.istore_n 3, 1) := by decide +kernel
theorem dX10_twelves_4 : decode cX10_twelves 4 = .ok (.iload_n 3, 1) := by decide +kernel
theorem dX10_twelves_5 : decode cX10_twelves 5 = .ok (.aload_n 0, 1) := by decide +kernel
theorem dX10_twelves_6 : decode cX10_twelves 6 = .ok (.getfield 120, 3) := by decide +kernel
theorem dX10_twelves_9 : decode cX10_twelves 9 = .ok (.if_icmp .ge 15, 3) := by decide +kernel
theorem dX10_twelves_12 : decode cX10_twelves 12 = .ok (.lload_n 1, 1) := by decide +kernel
theorem dX10_twelves_13 : decode cX10_twelves 13 = .ok (.ldc2_w 214, 3) := by decide +kernel
theorem dX10_twelves_16 : decode cX10_twelves 16 = .ok (.lmul, 1) := by decide +kernel
theorem dX10_twelves_17 : decode cX10_twelves 17 = .ok (.lstore_n 1, 1) := by decide +kernel
theorem dX10_twelves_18 : decode cX10_twelves 18 = .ok (.iinc 3 1, 3) := by decide +kernel
theorem dX10_twelves_21 : decode cX10_twelves 21 = .ok (.goto (-17), 3) := by decide +kernel
theorem dX10_twelves_24 : decode cX10_twelves 24 = .ok (.lload_n 1, 1) := by decide +kernel
theorem dX10_twelves_25 : decode cX10_twelves 25 = .ok (.lreturn, 1) := by decide +kernel
theorem dX10_odds_0 : decode cX10_odds 0 = .ok (.aload_n 0, 1) := by decide +kernel
theorem dX10_odds_1 : decode cX10_odds 1 = .ok (.iload_n 1, 1) := by decide +kernel
theorem dX10_odds_2 : decode cX10_odds 2 = .ok (.invokevirtual 152, 3) := by decide +kernel
theorem dX10_odds_5 : decode cX10_odds 5 = .ok (.ifCond .eq 13, 3) := by decide +kernel
theorem dX10_odds_8 : decode cX10_odds 8 = .ok (.iload_n 2, 1) := by decide +kernel
theorem dX10_odds_9 : decode cX10_odds 9 = .ok (.iconst 0, 1) := by decide +kernel
theorem dX10_odds_10 : decode cX10_odds 10 = .ok (.bipush 12, 2) := by decide +kernel
theorem dX10_odds_12 : decode cX10_odds 12 = .ok (.invokestatic 63, 3) := by decide +kernel
theorem dX10_odds_15 : decode cX10_odds 15 = .ok (.ifCond .ne 5, 3) := by decide +kernel
theorem dX10_odds_18 : decode cX10_odds 18 = .ok (.iconst (-1), 1) := by decide +kernel
theorem dX10_odds_19 : decode cX10_odds 19 = .ok (.ireturn, 1) := by decide +kernel
theorem dX10_odds_20 : decode cX10_odds 20 = .ok (.aload_n 0, 1) := by decide +kernel
theorem dX10_odds_21 : decode cX10_odds 21 = .ok (.aload_n 0, 1) := by decide +kernel
theorem dX10_odds_22 : decode cX10_odds 22 = .ok (.iload_n 1, 1) := by decide +kernel
theorem dX10_odds_23 : decode cX10_odds 23 = .ok (.iload_n 2, 1) := by decide +kernel
theorem dX10_odds_24 : decode cX10_odds 24 = .ok (.invokevirtual 216, 3) := by decide +kernel
theorem dX10_odds_27 : decode cX10_odds 27 = .ok (.aload_n 0, 1) := by decide +kernel
theorem dX10_odds_28 : decode cX10_odds 28 = .ok (.invokevirtual 220, 3) := by decide +kernel
theorem dX10_odds_31 : decode cX10_odds 31 = .ok (.invokevirtual 224, 3) := by decide +kernel
theorem dX10_odds_34 : decode cX10_odds 34 = .ok (.iconst 1, 1) := by decide +kernel
theorem dX10_odds_35 : decode cX10_odds 35 = .ok (.ireturn, 1) := by decide +kernel
theorem dX10_mid_0 : decode cX10_mid 0 = .ok (.iload_n 1, 1) := by decide +kernel
theorem dX10_mid_1 : decode cX10_mid 1 = .ok (.iconst 0, 1) := by decide +kernel
theorem dX10_mid_2 : decode cX10_mid 2 = .ok (.bipush 12, 2) := by decide +kernel
theorem dX10_mid_4 : decode cX10_mid 4 = .ok (.invokestatic 63, 3) := by decide +kernel
theorem dX10_mid_7 : decode cX10_mid 7 = .ok (.ifCond .ne 5, 3) := by decide +kernel
theorem dX10_mid_10 : decode cX10_mid 10 = .ok (.iconst (-1), 1) := by decide +kernel
theorem dX10_mid_11 : decode cX10_mid 11 = .ok (.ireturn, 1) := by decide +kernel
theorem dX10_mid_12 : decode cX10_mid 12 = .ok (.aload_n 0, 1) := by decide +kernel
theorem dX10_mid_13 : decode cX10_mid 13 = .ok (.getfield 120, 3) := by decide +kernel
theorem dX10_mid_16 : decode cX10_mid 16 = .ok (.ifCond .ne 6, 3) := by decide +kernel
theorem dX10_mid_19 : decode cX10_mid 19 = .ok (.bipush (-4), 2) := by decide +kernel
theorem dX10_mid_21 : decode cX10_mid 21 = .ok (.ireturn, 1) := by decide +kernel
theorem dX10_mid_22 : decode cX10_mid 22 = .ok (.aload_n 0, 1) := by decide +kernel
theorem dX10_mid_23 : decode cX10_mid 23 = .ok (.aload_n 0, 1) := by decide +kernel
theorem dX10_mid_24 : decode cX10_mid 24 = .ok (.bipush (-9), 2) := by decide +kernel
theorem dX10_mid_26 : decode cX10_mid 26 = .ok (.iload_n 1, 1) := by decide +kernel
theorem dX10_mid_27 : decode cX10_mid 27 = .ok (.invokevirtual 216, 3) := by decide +kernel
theorem dX10_mid_30 : decode cX10_mid 30 = .ok (.aload_n 0, 1) := by decide +kernel
theorem dX10_mid_31 : decode cX10_mid 31 = .ok (.invokevirtual 220, 3) := by decide +kernel
theorem dX10_mid_34 : decode cX10_mid 34 = .ok (.invokevirtual 224, 3) := by decide +kernel
theorem dX10_mid_37 : decode cX10_mid 37 = .ok (.iconst 1, 1) := by decide +kernel
theorem dX10_mid_38 : decode cX10_mid 38 = .ok (.ireturn, 1) := by decide +kernel
theorem dX10_deedBy_0 : decode cX10_deedBy 0 = .ok (.iload_n 2, 1) := by decide +kernel
theorem dX10_deedBy_1 : decode cX10_deedBy 1 = .ok (.bipush 64, 2) := by decide +kernel
theorem dX10_deedBy_3 : decode cX10_deedBy 3 = .ok (.idiv, 1) := by decide +kernel
theorem dX10_deedBy_4 : decode cX10_deedBy 4 = .ok (.istore_n 3, 1) := by decide +kernel
theorem dX10_deedBy_5 : decode cX10_deedBy 5 = .ok (.iload_n 2, 1) := by decide +kernel
theorem dX10_deedBy_6 : decode cX10_deedBy 6 = .ok (.bipush 8, 2) := by decide +kernel
theorem dX10_deedBy_8 : decode cX10_deedBy 8 = .ok (.idiv, 1) := by decide +kernel
theorem dX10_deedBy_9 : decode cX10_deedBy 9 = .ok (.bipush 8, 2) := by decide +kernel
theorem dX10_deedBy_11 : decode cX10_deedBy 11 = .ok (.irem, 1) := by decide +kernel
theorem dX10_deedBy_12 : decode cX10_deedBy 12 = .ok (.tableswitch 104 4 7 #[32, 46, 61, 84], 32) := by decide +kernel
theorem dX10_deedBy_44 : decode cX10_deedBy 44 = .ok (.aload_n 0, 1) := by decide +kernel
theorem dX10_deedBy_45 : decode cX10_deedBy 45 = .ok (.iload_n 1, 1) := by decide +kernel
theorem dX10_deedBy_46 : decode cX10_deedBy 46 = .ok (.iload_n 3, 1) := by decide +kernel
theorem dX10_deedBy_47 : decode cX10_deedBy 47 = .ok (.bipush 9, 2) := by decide +kernel
theorem dX10_deedBy_49 : decode cX10_deedBy 49 = .ok (.irem, 1) := by decide +kernel
theorem dX10_deedBy_50 : decode cX10_deedBy 50 = .ok (.iconst 1, 1) := by decide +kernel
theorem dX10_deedBy_51 : decode cX10_deedBy 51 = .ok (.iadd, 1) := by decide +kernel
theorem dX10_deedBy_52 : decode cX10_deedBy 52 = .ok (.invokevirtual 177, 3) := by decide +kernel
theorem dX10_deedBy_55 : decode cX10_deedBy 55 = .ok (.goto 68, 3) := by decide +kernel
theorem dX10_deedBy_58 : decode cX10_deedBy 58 = .ok (.aload_n 0, 1) := by decide +kernel
theorem dX10_deedBy_59 : decode cX10_deedBy 59 = .ok (.getfield 7, 3) := by decide +kernel
theorem dX10_deedBy_62 : decode cX10_deedBy 62 = .ok (.iload_n 1, 1) := by decide +kernel
theorem dX10_deedBy_63 : decode cX10_deedBy 63 = .ok (.bipush 14, 2) := by decide +kernel
theorem dX10_deedBy_65 : decode cX10_deedBy 65 = .ok (.iadd, 1) := by decide +kernel
theorem dX10_deedBy_66 : decode cX10_deedBy 66 = .ok (.iload_n 3, 1) := by decide +kernel
theorem dX10_deedBy_67 : decode cX10_deedBy 67 = .ok (.iconst 3, 1) := by decide +kernel
theorem dX10_deedBy_68 : decode cX10_deedBy 68 = .ok (.irem, 1) := by decide +kernel
theorem dX10_deedBy_69 : decode cX10_deedBy 69 = .ok (.iastore, 1) := by decide +kernel
theorem dX10_deedBy_70 : decode cX10_deedBy 70 = .ok (.goto 53, 3) := by decide +kernel
theorem dX10_deedBy_73 : decode cX10_deedBy 73 = .ok (.aload_n 0, 1) := by decide +kernel
theorem dX10_deedBy_74 : decode cX10_deedBy 74 = .ok (.getfield 7, 3) := by decide +kernel
theorem dX10_deedBy_77 : decode cX10_deedBy 77 = .ok (.iload_n 1, 1) := by decide +kernel
theorem dX10_deedBy_78 : decode cX10_deedBy 78 = .ok (.bipush 15, 2) := by decide +kernel
theorem dX10_deedBy_80 : decode cX10_deedBy 80 = .ok (.iadd, 1) := by decide +kernel
theorem dX10_deedBy_81 : decode cX10_deedBy 81 = .ok (.iconst 1, 1) := by decide +kernel
theorem dX10_deedBy_82 : decode cX10_deedBy 82 = .ok (.aload_n 0, 1) := by decide +kernel
theorem dX10_deedBy_83 : decode cX10_deedBy 83 = .ok (.getfield 7, 3) := by decide +kernel
theorem dX10_deedBy_86 : decode cX10_deedBy 86 = .ok (.iload_n 1, 1) := by decide +kernel
theorem dX10_deedBy_87 : decode cX10_deedBy 87 = .ok (.bipush 15, 2) := by decide +kernel
theorem dX10_deedBy_89 : decode cX10_deedBy 89 = .ok (.iadd, 1) := by decide +kernel
theorem dX10_deedBy_90 : decode cX10_deedBy 90 = .ok (.iaload, 1) := by decide +kernel
theorem dX10_deedBy_91 : decode cX10_deedBy 91 = .ok (.isub, 1) := by decide +kernel
theorem dX10_deedBy_92 : decode cX10_deedBy 92 = .ok (.iastore, 1) := by decide +kernel
theorem dX10_deedBy_93 : decode cX10_deedBy 93 = .ok (.goto 30, 3) := by decide +kernel
theorem dX10_deedBy_96 : decode cX10_deedBy 96 = .ok (.aload_n 0, 1) := by decide +kernel
theorem dX10_deedBy_97 : decode cX10_deedBy 97 = .ok (.getfield 7, 3) := by decide +kernel
theorem dX10_deedBy_100 : decode cX10_deedBy 100 = .ok (.iload_n 1, 1) := by decide +kernel
theorem dX10_deedBy_101 : decode cX10_deedBy 101 = .ok (.iload_n 2, 1) := by decide +kernel
theorem dX10_deedBy_102 : decode cX10_deedBy 102 = .ok (.aload_n 0, 1) := by decide +kernel
theorem dX10_deedBy_103 : decode cX10_deedBy 103 = .ok (.getfield 120, 3) := by decide +kernel
theorem dX10_deedBy_106 : decode cX10_deedBy 106 = .ok (.irem, 1) := by decide +kernel
theorem dX10_deedBy_107 : decode cX10_deedBy 107 = .ok (.iadd, 1) := by decide +kernel
theorem dX10_deedBy_108 : decode cX10_deedBy 108 = .ok (.iload_n 3, 1) := by decide +kernel
theorem dX10_deedBy_109 : decode cX10_deedBy 109 = .ok (.bipush 10, 2) := by decide +kernel
theorem dX10_deedBy_111 : decode cX10_deedBy 111 = .ok (.irem, 1) := by decide +kernel
theorem dX10_deedBy_112 : decode cX10_deedBy 112 = .ok (.iastore, 1) := by decide +kernel
theorem dX10_deedBy_113 : decode cX10_deedBy 113 = .ok (.goto 10, 3) := by decide +kernel
theorem dX10_deedBy_116 : decode cX10_deedBy 116 = .ok (.aload_n 0, 1) := by decide +kernel
theorem dX10_deedBy_117 : decode cX10_deedBy 117 = .ok (.iload_n 1, 1) := by decide +kernel
theorem dX10_deedBy_118 : decode cX10_deedBy 118 = .ok (.invokevirtual 174, 3) := by decide +kernel
theorem dX10_deedBy_121 : decode cX10_deedBy 121 = .ok (.istore 4, 2) := by decide +kernel
theorem dX10_deedBy_123 : decode cX10_deedBy 123 = .ok (.return_, 1) := by decide +kernel
theorem dX10_lots_0 : decode cX10_lots 0 = .ok (.iload_n 1, 1) := by decide +kernel
theorem dX10_lots_1 : decode cX10_lots 1 = .ok (.iconst 1, 1) := by decide +kernel
theorem dX10_lots_2 : decode cX10_lots 2 = .ok (.bipush 20, 2) := by decide +kernel
theorem dX10_lots_4 : decode cX10_lots 4 = .ok (.invokestatic 63, 3) := by decide +kernel
theorem dX10_lots_7 : decode cX10_lots 7 = .ok (.ifCond .eq 13, 3) := by decide +kernel
theorem dX10_lots_10 : decode cX10_lots 10 = .ok (.iload_n 2, 1) := by decide +kernel
theorem dX10_lots_11 : decode cX10_lots 11 = .ok (.iconst 1, 1) := by decide +kernel
theorem dX10_lots_12 : decode cX10_lots 12 = .ok (.ldc 228, 2) := by decide +kernel
theorem dX10_lots_14 : decode cX10_lots 14 = .ok (.invokestatic 63, 3) := by decide +kernel
theorem dX10_lots_17 : decode cX10_lots 17 = .ok (.ifCond .ne 5, 3) := by decide +kernel
theorem dX10_lots_20 : decode cX10_lots 20 = .ok (.iconst (-1), 1) := by decide +kernel
theorem dX10_lots_21 : decode cX10_lots 21 = .ok (.ireturn, 1) := by decide +kernel
theorem dX10_lots_22 : decode cX10_lots 22 = .ok (.aload_n 0, 1) := by decide +kernel
theorem dX10_lots_23 : decode cX10_lots 23 = .ok (.getfield 120, 3) := by decide +kernel
theorem dX10_lots_26 : decode cX10_lots 26 = .ok (.ifCond .ne 6, 3) := by decide +kernel
theorem dX10_lots_29 : decode cX10_lots 29 = .ok (.bipush (-4), 2) := by decide +kernel
theorem dX10_lots_31 : decode cX10_lots 31 = .ok (.ireturn, 1) := by decide +kernel
theorem dX10_lots_32 : decode cX10_lots 32 = .ok (.aload_n 0, 1) := by decide +kernel
theorem dX10_lots_33 : decode cX10_lots 33 = .ok (.getfield 129, 3) := by decide +kernel
theorem dX10_lots_36 : decode cX10_lots 36 = .ok (.iload_n 1, 1) := by decide +kernel
theorem dX10_lots_37 : decode cX10_lots 37 = .ok (.iadd, 1) := by decide +kernel
theorem dX10_lots_38 : decode cX10_lots 38 = .ok (.bipush 40, 2) := by decide +kernel
theorem dX10_lots_40 : decode cX10_lots 40 = .ok (.if_icmp .le 6, 3) := by decide +kernel
theorem dX10_lots_43 : decode cX10_lots 43 = .ok (.bipush (-2), 2) := by decide +kernel
theorem dX10_lots_45 : decode cX10_lots 45 = .ok (.ireturn, 1) := by decide +kernel
theorem dX10_lots_46 : decode cX10_lots 46 = .ok (.iload_n 2, 1) := by decide +kernel
theorem dX10_lots_47 : decode cX10_lots 47 = .ok (.i2l, 1) := by decide +kernel
theorem dX10_lots_48 : decode cX10_lots 48 = .ok (.lstore_n 3, 1) := by decide +kernel
theorem dX10_lots_49 : decode cX10_lots 49 = .ok (.iconst 0, 1) := by decide +kernel
theorem dX10_lots_50 : decode cX10_lots 50 = .ok (.istore 5, 2) := by decide +kernel
theorem dX10_lots_52 : decode cX10_lots 52 = .ok (.iload 5, 2) := by decide +kernel
theorem dX10_lots_54 : decode cX10_lots 54 = .ok (.iload_n 1, 1) := by decide +kernel
theorem dX10_lots_55 : decode cX10_lots 55 = .ok (.if_icmp .ge 29, 3) := by decide +kernel
theorem dX10_lots_58 : decode cX10_lots 58 = .ok (.lload_n 3, 1) := by decide +kernel
theorem dX10_lots_59 : decode cX10_lots 59 = .ok (.ldc2_w 229, 3) := by decide +kernel
theorem dX10_lots_62 : decode cX10_lots 62 = .ok (.lmul, 1) := by decide +kernel
theorem dX10_lots_63 : decode cX10_lots 63 = .ok (.ldc2_w 231, 3) := by decide +kernel
theorem dX10_lots_66 : decode cX10_lots 66 = .ok (.lrem, 1) := by decide +kernel
theorem dX10_lots_67 : decode cX10_lots 67 = .ok (.lstore_n 3, 1) := by decide +kernel
theorem dX10_lots_68 : decode cX10_lots 68 = .ok (.aload_n 0, 1) := by decide +kernel
theorem dX10_lots_69 : decode cX10_lots 69 = .ok (.aload_n 0, 1) := by decide +kernel
theorem dX10_lots_70 : decode cX10_lots 70 = .ok (.invokevirtual 171, 3) := by decide +kernel
theorem dX10_lots_73 : decode cX10_lots 73 = .ok (.lload_n 3, 1) := by decide +kernel
theorem dX10_lots_74 : decode cX10_lots 74 = .ok (.l2i, 1) := by decide +kernel
theorem dX10_lots_75 : decode cX10_lots 75 = .ok (.invokevirtual 233, 3) := by decide +kernel
theorem dX10_lots_78 : decode cX10_lots 78 = .ok (.iinc 5 1, 3) := by decide +kernel
theorem dX10_lots_81 : decode cX10_lots 81 = .ok (.goto (-29), 3) := by decide +kernel
theorem dX10_lots_84 : decode cX10_lots 84 = .ok (.aload_n 0, 1) := by decide +kernel
theorem dX10_lots_85 : decode cX10_lots 85 = .ok (.aload_n 0, 1) := by decide +kernel
theorem dX10_lots_86 : decode cX10_lots 86 = .ok (.invokevirtual 145, 3) := by decide +kernel
theorem dX10_lots_89 : decode cX10_lots 89 = .ok (.invokevirtual 161, 3) := by decide +kernel
theorem dX10_lots_92 : decode cX10_lots 92 = .ok (.ireturn, 1) := by decide +kernel
theorem dX10_asked_0 : decode cX10_asked 0 = .ok (.aload_n 0, 1) := by decide +kernel
theorem dX10_asked_1 : decode cX10_asked 1 = .ok (.getfield 60, 3) := by decide +kernel
theorem dX10_asked_4 : decode cX10_asked 4 = .ok (.ireturn, 1) := by decide +kernel
theorem dX10_upper_0 : decode cX10_upper 0 = .ok (.aload_n 0, 1) := by decide +kernel
theorem dX10_upper_1 : decode cX10_upper 1 = .ok (.getfield 208, 3) := by decide +kernel
theorem dX10_upper_4 : decode cX10_upper 4 = .ok (.lreturn, 1) := by decide +kernel
theorem dX10_lower_0 : decode cX10_lower 0 = .ok (.aload_n 0, 1) := by decide +kernel
theorem dX10_lower_1 : decode cX10_lower 1 = .ok (.getfield 34, 3) := by decide +kernel
theorem dX10_lower_4 : decode cX10_lower 4 = .ok (.lreturn, 1) := by decide +kernel
theorem dX10_manyOf_0 : decode cX10_manyOf 0 = .ok (.iconst 0, 1) := by decide +kernel
theorem dX10_manyOf_1 : decode cX10_manyOf 1 = .ok (.istore_n 2, 1) := by decide +kernel
theorem dX10_manyOf_2 : decode cX10_manyOf 2 = .ok (.iconst 0, 1) := by decide +kernel
theorem dX10_manyOf_3 : decode cX10_manyOf 3 = .ok (.istore_n 3, 1) := by decide +kernel
theorem dX10_manyOf_4 : decode cX10_manyOf 4 = .ok (.iload_n 3, 1) := by decide +kernel
theorem dX10_manyOf_5 : decode cX10_manyOf 5 = .ok (.aload_n 0, 1) := by decide +kernel
theorem dX10_manyOf_6 : decode cX10_manyOf 6 = .ok (.getfield 120, 3) := by decide +kernel
theorem dX10_manyOf_9 : decode cX10_manyOf 9 = .ok (.if_icmp .ge 30, 3) := by decide +kernel
theorem dX10_manyOf_12 : decode cX10_manyOf 12 = .ok (.iload_n 2, 1) := by decide +kernel
theorem dX10_manyOf_13 : decode cX10_manyOf 13 = .ok (.aload_n 0, 1) := by decide +kernel
theorem dX10_manyOf_14 : decode cX10_manyOf 14 = .ok (.getfield 13, 3) := by decide +kernel
theorem dX10_manyOf_17 : decode cX10_manyOf 17 = .ok (.iload_n 3, 1) := by decide +kernel
theorem dX10_manyOf_18 : decode cX10_manyOf 18 = .ok (.iaload, 1) := by decide +kernel
theorem dX10_manyOf_19 : decode cX10_manyOf 19 = .ok (.iload_n 1, 1) := by decide +kernel
theorem dX10_manyOf_20 : decode cX10_manyOf 20 = .ok (.invokestatic 158, 3) := by decide +kernel
theorem dX10_manyOf_23 : decode cX10_manyOf 23 = .ok (.ifCond .eq 7, 3) := by decide +kernel
theorem dX10_manyOf_26 : decode cX10_manyOf 26 = .ok (.iconst 1, 1) := by decide +kernel
theorem dX10_manyOf_27 : decode cX10_manyOf 27 = .ok (.goto 4, 3) := by decide +kernel
theorem dX10_manyOf_30 : decode cX10_manyOf 30 = .ok (.iconst 0, 1) := by decide +kernel
theorem dX10_manyOf_31 : decode cX10_manyOf 31 = .ok (.iadd, 1) := by decide +kernel
theorem dX10_manyOf_32 : decode cX10_manyOf 32 = .ok (.istore_n 2, 1) := by decide +kernel
theorem dX10_manyOf_33 : decode cX10_manyOf 33 = .ok (.iinc 3 1, 3) := by decide +kernel
theorem dX10_manyOf_36 : decode cX10_manyOf 36 = .ok (.goto (-32), 3) := by decide +kernel
theorem dX10_manyOf_39 : decode cX10_manyOf 39 = .ok (.iload_n 2, 1) := by decide +kernel
theorem dX10_manyOf_40 : decode cX10_manyOf 40 = .ok (.ireturn, 1) := by decide +kernel
theorem dX10_rowsThere_0 : decode cX10_rowsThere 0 = .ok (.iconst 0, 1) := by decide +kernel
theorem dX10_rowsThere_1 : decode cX10_rowsThere 1 = .ok (.istore_n 1, 1) := by decide +kernel
theorem dX10_rowsThere_2 : decode cX10_rowsThere 2 = .ok (.iconst 0, 1) := by decide +kernel
theorem dX10_rowsThere_3 : decode cX10_rowsThere 3 = .ok (.istore_n 2, 1) := by decide +kernel
theorem dX10_rowsThere_4 : decode cX10_rowsThere 4 = .ok (.iload_n 2, 1) := by decide +kernel
theorem dX10_rowsThere_5 : decode cX10_rowsThere 5 = .ok (.bipush 6, 2) := by decide +kernel
theorem dX10_rowsThere_7 : decode cX10_rowsThere 7 = .ok (.if_icmp .ge 28, 3) := by decide +kernel
theorem dX10_rowsThere_10 : decode cX10_rowsThere 10 = .ok (.iload_n 1, 1) := by decide +kernel
theorem dX10_rowsThere_11 : decode cX10_rowsThere 11 = .ok (.aload_n 0, 1) := by decide +kernel
theorem dX10_rowsThere_12 : decode cX10_rowsThere 12 = .ok (.getfield 22, 3) := by decide +kernel
theorem dX10_rowsThere_15 : decode cX10_rowsThere 15 = .ok (.iload_n 2, 1) := by decide +kernel
theorem dX10_rowsThere_16 : decode cX10_rowsThere 16 = .ok (.iaload, 1) := by decide +kernel
theorem dX10_rowsThere_17 : decode cX10_rowsThere 17 = .ok (.bipush (-9), 2) := by decide +kernel
theorem dX10_rowsThere_19 : decode cX10_rowsThere 19 = .ok (.if_icmp .ne 7, 3) := by decide +kernel
theorem dX10_rowsThere_22 : decode cX10_rowsThere 22 = .ok (.iconst 0, 1) := by decide +kernel
theorem dX10_rowsThere_23 : decode cX10_rowsThere 23 = .ok (.goto 4, 3) := by decide +kernel
theorem dX10_rowsThere_26 : decode cX10_rowsThere 26 = .ok (.iconst 1, 1) := by decide +kernel
theorem dX10_rowsThere_27 : decode cX10_rowsThere 27 = .ok (.iadd, 1) := by decide +kernel
theorem dX10_rowsThere_28 : decode cX10_rowsThere 28 = .ok (.istore_n 1, 1) := by decide +kernel
theorem dX10_rowsThere_29 : decode cX10_rowsThere 29 = .ok (.iinc 2 1, 3) := by decide +kernel
theorem dX10_rowsThere_32 : decode cX10_rowsThere 32 = .ok (.goto (-28), 3) := by decide +kernel
theorem dX10_rowsThere_35 : decode cX10_rowsThere 35 = .ok (.iload_n 1, 1) := by decide +kernel
theorem dX10_rowsThere_36 : decode cX10_rowsThere 36 = .ok (.ireturn, 1) := by decide +kernel
theorem dX10_textsThere_0 : decode cX10_textsThere 0 = .ok (.iconst 0, 1) := by decide +kernel
theorem dX10_textsThere_1 : decode cX10_textsThere 1 = .ok (.istore_n 1, 1) := by decide +kernel
theorem dX10_textsThere_2 : decode cX10_textsThere 2 = .ok (.iconst 0, 1) := by decide +kernel
theorem dX10_textsThere_3 : decode cX10_textsThere 3 = .ok (.istore_n 2, 1) := by decide +kernel
theorem dX10_textsThere_4 : decode cX10_textsThere 4 = .ok (.iload_n 2, 1) := by decide +kernel
theorem dX10_textsThere_5 : decode cX10_textsThere 5 = .ok (.iconst 4, 1) := by decide +kernel
theorem dX10_textsThere_6 : decode cX10_textsThere 6 = .ok (.if_icmp .ge 28, 3) := by decide +kernel
theorem dX10_textsThere_9 : decode cX10_textsThere 9 = .ok (.iload_n 1, 1) := by decide +kernel
theorem dX10_textsThere_10 : decode cX10_textsThere 10 = .ok (.aload_n 0, 1) := by decide +kernel
theorem dX10_textsThere_11 : decode cX10_textsThere 11 = .ok (.getfield 28, 3) := by decide +kernel
theorem dX10_textsThere_14 : decode cX10_textsThere 14 = .ok (.iload_n 2, 1) := by decide +kernel
theorem dX10_textsThere_15 : decode cX10_textsThere 15 = .ok (.iaload, 1) := by decide +kernel
theorem dX10_textsThere_16 : decode cX10_textsThere 16 = .ok (.bipush (-9), 2) := by decide +kernel
theorem dX10_textsThere_18 : decode cX10_textsThere 18 = .ok (.if_icmp .ne 7, 3) := by decide +kernel
theorem dX10_textsThere_21 : decode cX10_textsThere 21 = .ok (.iconst 0, 1) := by decide +kernel
theorem dX10_textsThere_22 : decode cX10_textsThere 22 = .ok (.goto 4, 3) := by decide +kernel
theorem dX10_textsThere_25 : decode cX10_textsThere 25 = .ok (.iconst 1, 1) := by decide +kernel
theorem dX10_textsThere_26 : decode cX10_textsThere 26 = .ok (.iadd, 1) := by decide +kernel
theorem dX10_textsThere_27 : decode cX10_textsThere 27 = .ok (.istore_n 1, 1) := by decide +kernel
theorem dX10_textsThere_28 : decode cX10_textsThere 28 = .ok (.iinc 2 1, 3) := by decide +kernel
theorem dX10_textsThere_31 : decode cX10_textsThere 31 = .ok (.goto (-27), 3) := by decide +kernel
theorem dX10_textsThere_34 : decode cX10_textsThere 34 = .ok (.iload_n 1, 1) := by decide +kernel
theorem dX10_textsThere_35 : decode cX10_textsThere 35 = .ok (.ireturn, 1) := by decide +kernel
theorem dX10_frontsThere_0 : decode cX10_frontsThere 0 = .ok (.iconst 0, 1) := by decide +kernel
theorem dX10_frontsThere_1 : decode cX10_frontsThere 1 = .ok (.istore_n 1, 1) := by decide +kernel
theorem dX10_frontsThere_2 : decode cX10_frontsThere 2 = .ok (.iconst 0, 1) := by decide +kernel
theorem dX10_frontsThere_3 : decode cX10_frontsThere 3 = .ok (.istore_n 2, 1) := by decide +kernel
theorem dX10_frontsThere_4 : decode cX10_frontsThere 4 = .ok (.iload_n 2, 1) := by decide +kernel
theorem dX10_frontsThere_5 : decode cX10_frontsThere 5 = .ok (.iconst 3, 1) := by decide +kernel
theorem dX10_frontsThere_6 : decode cX10_frontsThere 6 = .ok (.if_icmp .ge 28, 3) := by decide +kernel
theorem dX10_frontsThere_9 : decode cX10_frontsThere 9 = .ok (.iload_n 1, 1) := by decide +kernel
theorem dX10_frontsThere_10 : decode cX10_frontsThere 10 = .ok (.aload_n 0, 1) := by decide +kernel
theorem dX10_frontsThere_11 : decode cX10_frontsThere 11 = .ok (.getfield 16, 3) := by decide +kernel
theorem dX10_frontsThere_14 : decode cX10_frontsThere 14 = .ok (.iload_n 2, 1) := by decide +kernel
theorem dX10_frontsThere_15 : decode cX10_frontsThere 15 = .ok (.iaload, 1) := by decide +kernel
theorem dX10_frontsThere_16 : decode cX10_frontsThere 16 = .ok (.bipush (-9), 2) := by decide +kernel
theorem dX10_frontsThere_18 : decode cX10_frontsThere 18 = .ok (.if_icmp .ne 7, 3) := by decide +kernel
theorem dX10_frontsThere_21 : decode cX10_frontsThere 21 = .ok (.iconst 0, 1) := by decide +kernel
theorem dX10_frontsThere_22 : decode cX10_frontsThere 22 = .ok (.goto 4, 3) := by decide +kernel
theorem dX10_frontsThere_25 : decode cX10_frontsThere 25 = .ok (.iconst 1, 1) := by decide +kernel
theorem dX10_frontsThere_26 : decode cX10_frontsThere 26 = .ok (.iadd, 1) := by decide +kernel
theorem dX10_frontsThere_27 : decode cX10_frontsThere 27 = .ok (.istore_n 1, 1) := by decide +kernel
theorem dX10_frontsThere_28 : decode cX10_frontsThere 28 = .ok (.iinc 2 1, 3) := by decide +kernel
theorem dX10_frontsThere_31 : decode cX10_frontsThere 31 = .ok (.goto (-27), 3) := by decide +kernel
theorem dX10_frontsThere_34 : decode cX10_frontsThere 34 = .ok (.iload_n 1, 1) := by decide +kernel
theorem dX10_frontsThere_35 : decode cX10_frontsThere 35 = .ok (.ireturn, 1) := by decide +kernel
theorem dX10_count_0 : decode cX10_count 0 = .ok (.iload_n 1, 1) := by decide +kernel
theorem dX10_count_1 : decode cX10_count 1 = .ok (.tableswitch 196 0 14 #[75, 80, 93, 106, 119, 132, 145, 150, 155, 160, 169, 175, 181, 186, 191], 75) := by decide +kernel
theorem dX10_count_76 : decode cX10_count 76 = .ok (.aload_n 0, 1) := by decide +kernel
theorem dX10_count_77 : decode cX10_count 77 = .ok (.getfield 120, 3) := by decide +kernel
theorem dX10_count_80 : decode cX10_count 80 = .ok (.ireturn, 1) := by decide +kernel
theorem dX10_count_81 : decode cX10_count 81 = .ok (.aload_n 0, 1) := by decide +kernel
theorem dX10_count_82 : decode cX10_count 82 = .ok (.getfield 7, 3) := by decide +kernel
theorem dX10_count_85 : decode cX10_count 85 = .ok (.aload_n 0, 1) := by decide +kernel
theorem dX10_count_86 : decode cX10_count 86 = .ok (.invokevirtual 145, 3) := by decide +kernel
theorem dX10_count_89 : decode cX10_count 89 = .ok (.bipush 12, 2) := by decide +kernel
theorem dX10_count_91 : decode cX10_count 91 = .ok (.iadd, 1) := by decide +kernel
theorem dX10_count_92 : decode cX10_count 92 = .ok (.iaload, 1) := by decide +kernel
theorem dX10_count_93 : decode cX10_count 93 = .ok (.ireturn, 1) := by decide +kernel
theorem dX10_count_94 : decode cX10_count 94 = .ok (.aload_n 0, 1) := by decide +kernel
theorem dX10_count_95 : decode cX10_count 95 = .ok (.getfield 7, 3) := by decide +kernel
theorem dX10_count_98 : decode cX10_count 98 = .ok (.aload_n 0, 1) := by decide +kernel
theorem dX10_count_99 : decode cX10_count 99 = .ok (.invokevirtual 145, 3) := by decide +kernel
theorem dX10_count_102 : decode cX10_count 102 = .ok (.bipush 13, 2) := by decide +kernel
theorem dX10_count_104 : decode cX10_count 104 = .ok (.iadd, 1) := by decide +kernel
theorem dX10_count_105 : decode cX10_count 105 = .ok (.iaload, 1) := by decide +kernel
theorem dX10_count_106 : decode cX10_count 106 = .ok (.ireturn, 1) := by decide +kernel
theorem dX10_count_107 : decode cX10_count 107 = .ok (.aload_n 0, 1) := by decide +kernel
theorem dX10_count_108 : decode cX10_count 108 = .ok (.getfield 7, 3) := by decide +kernel
theorem dX10_count_111 : decode cX10_count 111 = .ok (.aload_n 0, 1) := by decide +kernel
theorem dX10_count_112 : decode cX10_count 112 = .ok (.invokevirtual 145, 3) := by decide +kernel
theorem dX10_count_115 : decode cX10_count 115 = .ok (.bipush 14, 2) := by decide +kernel
theorem dX10_count_117 : decode cX10_count 117 = .ok (.iadd, 1) := by decide +kernel
theorem dX10_count_118 : decode cX10_count 118 = .ok (.iaload, 1) := by decide +kernel
theorem dX10_count_119 : decode cX10_count 119 = .ok (.ireturn, 1) := by decide +kernel
theorem dX10_count_120 : decode cX10_count 120 = .ok (.aload_n 0, 1) := by decide +kernel
theorem dX10_count_121 : decode cX10_count 121 = .ok (.getfield 7, 3) := by decide +kernel
theorem dX10_count_124 : decode cX10_count 124 = .ok (.aload_n 0, 1) := by decide +kernel
theorem dX10_count_125 : decode cX10_count 125 = .ok (.invokevirtual 145, 3) := by decide +kernel
theorem dX10_count_128 : decode cX10_count 128 = .ok (.bipush 15, 2) := by decide +kernel
theorem dX10_count_130 : decode cX10_count 130 = .ok (.iadd, 1) := by decide +kernel
theorem dX10_count_131 : decode cX10_count 131 = .ok (.iaload, 1) := by decide +kernel
theorem dX10_count_132 : decode cX10_count 132 = .ok (.ireturn, 1) := by decide +kernel
theorem dX10_count_133 : decode cX10_count 133 = .ok (.aload_n 0, 1) := by decide +kernel
theorem dX10_count_134 : decode cX10_count 134 = .ok (.getfield 7, 3) := by decide +kernel
theorem dX10_count_137 : decode cX10_count 137 = .ok (.aload_n 0, 1) := by decide +kernel
theorem dX10_count_138 : decode cX10_count 138 = .ok (.invokevirtual 145, 3) := by decide +kernel
theorem dX10_count_141 : decode cX10_count 141 = .ok (.bipush 16, 2) := by decide +kernel
theorem dX10_count_143 : decode cX10_count 143 = .ok (.iadd, 1) := by decide +kernel
theorem dX10_count_144 : decode cX10_count 144 = .ok (.iaload, 1) := by decide +kernel
theorem dX10_count_145 : decode cX10_count 145 = .ok (.ireturn, 1) := by decide +kernel
theorem dX10_count_146 : decode cX10_count 146 = .ok (.aload_n 0, 1) := by decide +kernel
theorem dX10_count_147 : decode cX10_count 147 = .ok (.getfield 129, 3) := by decide +kernel
theorem dX10_count_150 : decode cX10_count 150 = .ok (.ireturn, 1) := by decide +kernel
theorem dX10_count_151 : decode cX10_count 151 = .ok (.aload_n 0, 1) := by decide +kernel
theorem dX10_count_152 : decode cX10_count 152 = .ok (.getfield 123, 3) := by decide +kernel
theorem dX10_count_155 : decode cX10_count 155 = .ok (.ireturn, 1) := by decide +kernel
theorem dX10_count_156 : decode cX10_count 156 = .ok (.aload_n 0, 1) := by decide +kernel
theorem dX10_count_157 : decode cX10_count 157 = .ok (.getfield 126, 3) := by decide +kernel
theorem dX10_count_160 : decode cX10_count 160 = .ok (.ireturn, 1) := by decide +kernel
theorem dX10_count_161 : decode cX10_count 161 = .ok (.aload_n 0, 1) := by decide +kernel
theorem dX10_count_162 : decode cX10_count 162 = .ok (.aload_n 0, 1) := by decide +kernel
theorem dX10_count_163 : decode cX10_count 163 = .ok (.invokevirtual 145, 3) := by decide +kernel
theorem dX10_count_166 : decode cX10_count 166 = .ok (.invokevirtual 161, 3) := by decide +kernel
theorem dX10_count_169 : decode cX10_count 169 = .ok (.ireturn, 1) := by decide +kernel
theorem dX10_count_170 : decode cX10_count 170 = .ok (.aload_n 0, 1) := by decide +kernel
theorem dX10_count_171 : decode cX10_count 171 = .ok (.iconst 1, 1) := by decide +kernel
theorem dX10_count_172 : decode cX10_count 172 = .ok (.invokevirtual 236, 3) := by decide +kernel
theorem dX10_count_175 : decode cX10_count 175 = .ok (.ireturn, 1) := by decide +kernel
theorem dX10_count_176 : decode cX10_count 176 = .ok (.aload_n 0, 1) := by decide +kernel
theorem dX10_count_177 : decode cX10_count 177 = .ok (.iconst 3, 1) := by decide +kernel
theorem dX10_count_178 : decode cX10_count 178 = .ok (.invokevirtual 236, 3) := by decide +kernel
theorem dX10_count_181 : decode cX10_count 181 = .ok (.ireturn, 1) := by decide +kernel
theorem dX10_count_182 : decode cX10_count 182 = .ok (.aload_n 0, 1) := by decide +kernel
theorem dX10_count_183 : decode cX10_count 183 = .ok (.invokevirtual 239, 3) := by decide +kernel
theorem dX10_count_186 : decode cX10_count 186 = .ok (.ireturn, 1) := by decide +kernel
theorem dX10_count_187 : decode cX10_count 187 = .ok (.aload_n 0, 1) := by decide +kernel
theorem dX10_count_188 : decode cX10_count 188 = .ok (.invokevirtual 242, 3) := by decide +kernel
theorem dX10_count_191 : decode cX10_count 191 = .ok (.ireturn, 1) := by decide +kernel
theorem dX10_count_192 : decode cX10_count 192 = .ok (.aload_n 0, 1) := by decide +kernel
theorem dX10_count_193 : decode cX10_count 193 = .ok (.invokevirtual 245, 3) := by decide +kernel
theorem dX10_count_196 : decode cX10_count 196 = .ok (.ireturn, 1) := by decide +kernel
theorem dX10_count_197 : decode cX10_count 197 = .ok (.iconst (-1), 1) := by decide +kernel
theorem dX10_count_198 : decode cX10_count 198 = .ok (.ireturn, 1) := by decide +kernel
theorem dX10_finding_0 : decode cX10_finding 0 = .ok (.aload_n 0, 1) := by decide +kernel
theorem dX10_finding_1 : decode cX10_finding 1 = .ok (.getfield 56, 3) := by decide +kernel
theorem dX10_finding_4 : decode cX10_finding 4 = .ok (.ireturn, 1) := by decide +kernel
theorem dX10_findings_0 : decode cX10_findings 0 = .ok (.iload_n 1, 1) := by decide +kernel
theorem dX10_findings_1 : decode cX10_findings 1 = .ok (.iconst 1, 1) := by decide +kernel
theorem dX10_findings_2 : decode cX10_findings 2 = .ok (.iconst 5, 1) := by decide +kernel
theorem dX10_findings_3 : decode cX10_findings 3 = .ok (.invokestatic 63, 3) := by decide +kernel
theorem dX10_findings_6 : decode cX10_findings 6 = .ok (.ifCond .eq 12, 3) := by decide +kernel
theorem dX10_findings_9 : decode cX10_findings 9 = .ok (.aload_n 0, 1) := by decide +kernel
theorem dX10_findings_10 : decode cX10_findings 10 = .ok (.getfield 31, 3) := by decide +kernel
theorem dX10_findings_13 : decode cX10_findings 13 = .ok (.iload_n 1, 1) := by decide +kernel
theorem dX10_findings_14 : decode cX10_findings 14 = .ok (.iaload, 1) := by decide +kernel
theorem dX10_findings_15 : decode cX10_findings 15 = .ok (.goto 4, 3) := by decide +kernel
theorem dX10_findings_18 : decode cX10_findings 18 = .ok (.iconst (-1), 1) := by decide +kernel
theorem dX10_findings_19 : decode cX10_findings 19 = .ok (.ireturn, 1) := by decide +kernel
theorem dX10_more_0 : decode cX10_more 0 = .ok (.ldc2_w 248, 3) := by decide +kernel
theorem dX10_more_3 : decode cX10_more 3 = .ok (.lload_n 0, 1) := by decide +kernel
theorem dX10_more_4 : decode cX10_more 4 = .ok (.lmul, 1) := by decide +kernel
theorem dX10_more_5 : decode cX10_more 5 = .ok (.iload_n 2, 1) := by decide +kernel
theorem dX10_more_6 : decode cX10_more 6 = .ok (.i2l, 1) := by decide +kernel
theorem dX10_more_7 : decode cX10_more 7 = .ok (.ladd, 1) := by decide +kernel
theorem dX10_more_8 : decode cX10_more 8 = .ok (.lreturn, 1) := by decide +kernel
theorem dX10_digest_0 : decode cX10_digest 0 = .ok (.ldc2_w 250, 3) := by decide +kernel
theorem dX10_digest_3 : decode cX10_digest 3 = .ok (.lstore_n 1, 1) := by decide +kernel
theorem dX10_digest_4 : decode cX10_digest 4 = .ok (.iconst 0, 1) := by decide +kernel
theorem dX10_digest_5 : decode cX10_digest 5 = .ok (.istore_n 3, 1) := by decide +kernel
theorem dX10_digest_6 : decode cX10_digest 6 = .ok (.iload_n 3, 1) := by decide +kernel
theorem dX10_digest_7 : decode cX10_digest 7 = .ok (.bipush 15, 2) := by decide +kernel
theorem dX10_digest_9 : decode cX10_digest 9 = .ok (.if_icmp .ge 19, 3) := by decide +kernel
theorem dX10_digest_12 : decode cX10_digest 12 = .ok (.lload_n 1, 1) := by decide +kernel
theorem dX10_digest_13 : decode cX10_digest 13 = .ok (.aload_n 0, 1) := by decide +kernel
theorem dX10_digest_14 : decode cX10_digest 14 = .ok (.iload_n 3, 1) := by decide +kernel
theorem dX10_digest_15 : decode cX10_digest 15 = .ok (.invokevirtual 252, 3) := by decide +kernel
theorem dX10_digest_18 : decode cX10_digest 18 = .ok (.invokestatic 255, 3) := by decide +kernel
theorem dX10_digest_21 : decode cX10_digest 21 = .ok (.lstore_n 1, 1) := by decide +kernel
theorem dX10_digest_22 : decode cX10_digest 22 = .ok (.iinc 3 1, 3) := by decide +kernel
theorem dX10_digest_25 : decode cX10_digest 25 = .ok (.goto (-19), 3) := by decide +kernel
theorem dX10_digest_28 : decode cX10_digest 28 = .ok (.iconst 0, 1) := by decide +kernel
theorem dX10_digest_29 : decode cX10_digest 29 = .ok (.istore_n 3, 1) := by decide +kernel
theorem dX10_digest_30 : decode cX10_digest 30 = .ok (.iload_n 3, 1) := by decide +kernel
theorem dX10_digest_31 : decode cX10_digest 31 = .ok (.aload_n 0, 1) := by decide +kernel
theorem dX10_digest_32 : decode cX10_digest 32 = .ok (.getfield 120, 3) := by decide +kernel
theorem dX10_digest_35 : decode cX10_digest 35 = .ok (.if_icmp .ge 36, 3) := by decide +kernel
theorem dX10_digest_38 : decode cX10_digest 38 = .ok (.iconst 0, 1) := by decide +kernel
theorem dX10_digest_39 : decode cX10_digest 39 = .ok (.istore 4, 2) := by decide +kernel
theorem dX10_digest_41 : decode cX10_digest 41 = .ok (.iload 4, 2) := by decide +kernel
theorem dX10_digest_43 : decode cX10_digest 43 = .ok (.iconst 5, 1) := by decide +kernel
theorem dX10_digest_44 : decode cX10_digest 44 = .ok (.if_icmp .ge 21, 3) := by decide +kernel
theorem dX10_digest_47 : decode cX10_digest 47 = .ok (.lload_n 1, 1) := by decide +kernel
theorem dX10_digest_48 : decode cX10_digest 48 = .ok (.aload_n 0, 1) := by decide +kernel
theorem dX10_digest_49 : decode cX10_digest 49 = .ok (.iload_n 3, 1) := by decide +kernel
theorem dX10_digest_50 : decode cX10_digest 50 = .ok (.iload 4, 2) := by decide +kernel
theorem dX10_digest_52 : decode cX10_digest 52 = .ok (.invokevirtual 155, 3) := by decide +kernel
theorem dX10_digest_55 : decode cX10_digest 55 = .ok (.invokestatic 255, 3) := by decide +kernel
theorem dX10_digest_58 : decode cX10_digest 58 = .ok (.lstore_n 1, 1) := by decide +kernel
theorem dX10_digest_59 : decode cX10_digest 59 = .ok (.iinc 4 1, 3) := by decide +kernel
theorem dX10_digest_62 : decode cX10_digest 62 = .ok (.goto (-21), 3) := by decide +kernel
theorem dX10_digest_65 : decode cX10_digest 65 = .ok (.iinc 3 1, 3) := by decide +kernel
theorem dX10_digest_68 : decode cX10_digest 68 = .ok (.goto (-38), 3) := by decide +kernel
theorem dX10_digest_71 : decode cX10_digest 71 = .ok (.iconst 0, 1) := by decide +kernel
theorem dX10_digest_72 : decode cX10_digest 72 = .ok (.istore_n 3, 1) := by decide +kernel
theorem dX10_digest_73 : decode cX10_digest 73 = .ok (.iload_n 3, 1) := by decide +kernel
theorem dX10_digest_74 : decode cX10_digest 74 = .ok (.iconst 3, 1) := by decide +kernel
theorem dX10_digest_75 : decode cX10_digest 75 = .ok (.if_icmp .ge 35, 3) := by decide +kernel
theorem dX10_digest_78 : decode cX10_digest 78 = .ok (.lload_n 1, 1) := by decide +kernel
theorem dX10_digest_79 : decode cX10_digest 79 = .ok (.aload_n 0, 1) := by decide +kernel
theorem dX10_digest_80 : decode cX10_digest 80 = .ok (.getfield 16, 3) := by decide +kernel
theorem dX10_digest_83 : decode cX10_digest 83 = .ok (.iload_n 3, 1) := by decide +kernel
theorem dX10_digest_84 : decode cX10_digest 84 = .ok (.iaload, 1) := by decide +kernel
theorem dX10_digest_85 : decode cX10_digest 85 = .ok (.bipush (-9), 2) := by decide +kernel
theorem dX10_digest_87 : decode cX10_digest 87 = .ok (.if_icmp .ne 7, 3) := by decide +kernel
theorem dX10_digest_90 : decode cX10_digest 90 = .ok (.iconst (-1), 1) := by decide +kernel
theorem dX10_digest_91 : decode cX10_digest 91 = .ok (.goto 9, 3) := by decide +kernel
theorem dX10_digest_94 : decode cX10_digest 94 = .ok (.aload_n 0, 1) := by decide +kernel
theorem dX10_digest_95 : decode cX10_digest 95 = .ok (.getfield 16, 3) := by decide +kernel
theorem dX10_digest_98 : decode cX10_digest 98 = .ok (.iload_n 3, 1) := by decide +kernel
theorem dX10_digest_99 : decode cX10_digest 99 = .ok (.iaload, 1) := by decide +kernel
theorem dX10_digest_100 : decode cX10_digest 100 = .ok (.invokestatic 255, 3) := by decide +kernel
theorem dX10_digest_103 : decode cX10_digest 103 = .ok (.lstore_n 1, 1) := by decide +kernel
theorem dX10_digest_104 : decode cX10_digest 104 = .ok (.iinc 3 1, 3) := by decide +kernel
theorem dX10_digest_107 : decode cX10_digest 107 = .ok (.goto (-34), 3) := by decide +kernel
theorem dX10_digest_110 : decode cX10_digest 110 = .ok (.iconst 0, 1) := by decide +kernel
theorem dX10_digest_111 : decode cX10_digest 111 = .ok (.istore_n 3, 1) := by decide +kernel
theorem dX10_digest_112 : decode cX10_digest 112 = .ok (.iload_n 3, 1) := by decide +kernel
theorem dX10_digest_113 : decode cX10_digest 113 = .ok (.bipush 6, 2) := by decide +kernel
theorem dX10_digest_115 : decode cX10_digest 115 = .ok (.if_icmp .ge 72, 3) := by decide +kernel
theorem dX10_digest_118 : decode cX10_digest 118 = .ok (.lload_n 1, 1) := by decide +kernel
theorem dX10_digest_119 : decode cX10_digest 119 = .ok (.aload_n 0, 1) := by decide +kernel
theorem dX10_digest_120 : decode cX10_digest 120 = .ok (.getfield 22, 3) := by decide +kernel
theorem dX10_digest_123 : decode cX10_digest 123 = .ok (.iload_n 3, 1) := by decide +kernel
theorem dX10_digest_124 : decode cX10_digest 124 = .ok (.iaload, 1) := by decide +kernel
theorem dX10_digest_125 : decode cX10_digest 125 = .ok (.bipush (-9), 2) := by decide +kernel
theorem dX10_digest_127 : decode cX10_digest 127 = .ok (.if_icmp .ne 7, 3) := by decide +kernel
theorem dX10_digest_130 : decode cX10_digest 130 = .ok (.iconst (-1), 1) := by decide +kernel
theorem dX10_digest_131 : decode cX10_digest 131 = .ok (.goto 9, 3) := by decide +kernel
theorem dX10_digest_134 : decode cX10_digest 134 = .ok (.aload_n 0, 1) := by decide +kernel
theorem dX10_digest_135 : decode cX10_digest 135 = .ok (.getfield 22, 3) := by decide +kernel
theorem dX10_digest_138 : decode cX10_digest 138 = .ok (.iload_n 3, 1) := by decide +kernel
theorem dX10_digest_139 : decode cX10_digest 139 = .ok (.iaload, 1) := by decide +kernel
theorem dX10_digest_140 : decode cX10_digest 140 = .ok (.invokestatic 255, 3) := by decide +kernel
theorem dX10_digest_143 : decode cX10_digest 143 = .ok (.lstore_n 1, 1) := by decide +kernel
theorem dX10_digest_144 : decode cX10_digest 144 = .ok (.iconst 0, 1) := by decide +kernel
theorem dX10_digest_145 : decode cX10_digest 145 = .ok (.istore 4, 2) := by decide +kernel
theorem dX10_digest_147 : decode cX10_digest 147 = .ok (.iload 4, 2) := by decide +kernel
theorem dX10_digest_149 : decode cX10_digest 149 = .ok (.aload_n 0, 1) := by decide +kernel
theorem dX10_digest_150 : decode cX10_digest 150 = .ok (.getfield 22, 3) := by decide +kernel
theorem dX10_digest_153 : decode cX10_digest 153 = .ok (.iload_n 3, 1) := by decide +kernel
theorem dX10_digest_154 : decode cX10_digest 154 = .ok (.iaload, 1) := by decide +kernel
theorem dX10_digest_155 : decode cX10_digest 155 = .ok (.if_icmp .ge 26, 3) := by decide +kernel
theorem dX10_digest_158 : decode cX10_digest 158 = .ok (.lload_n 1, 1) := by decide +kernel
theorem dX10_digest_159 : decode cX10_digest 159 = .ok (.aload_n 0, 1) := by decide +kernel
theorem dX10_digest_160 : decode cX10_digest 160 = .ok (.getfield 19, 3) := by decide +kernel
theorem dX10_digest_163 : decode cX10_digest 163 = .ok (.bipush 40, 2) := by decide +kernel
theorem dX10_digest_165 : decode cX10_digest 165 = .ok (.iload_n 3, 1) := by decide +kernel
theorem dX10_digest_166 : decode cX10_digest 166 = .ok (.imul, 1) := by decide +kernel
theorem dX10_digest_167 : decode cX10_digest 167 = .ok (.iload 4, 2) := by decide +kernel
theorem dX10_digest_169 : decode cX10_digest 169 = .ok (.iadd, 1) := by decide +kernel
theorem dX10_digest_170 : decode cX10_digest 170 = .ok (.iaload, 1) := by decide +kernel
theorem dX10_digest_171 : decode cX10_digest 171 = .ok (.invokestatic 255, 3) := by decide +kernel
theorem dX10_digest_174 : decode cX10_digest 174 = .ok (.lstore_n 1, 1) := by decide +kernel
theorem dX10_digest_175 : decode cX10_digest 175 = .ok (.iinc 4 1, 3) := by decide +kernel
theorem dX10_digest_178 : decode cX10_digest 178 = .ok (.goto (-31), 3) := by decide +kernel
theorem dX10_digest_181 : decode cX10_digest 181 = .ok (.iinc 3 1, 3) := by decide +kernel
theorem dX10_digest_184 : decode cX10_digest 184 = .ok (.goto (-72), 3) := by decide +kernel
theorem dX10_digest_187 : decode cX10_digest 187 = .ok (.iconst 0, 1) := by decide +kernel
theorem dX10_digest_188 : decode cX10_digest 188 = .ok (.istore_n 3, 1) := by decide +kernel
theorem dX10_digest_189 : decode cX10_digest 189 = .ok (.iload_n 3, 1) := by decide +kernel
theorem dX10_digest_190 : decode cX10_digest 190 = .ok (.iconst 4, 1) := by decide +kernel
theorem dX10_digest_191 : decode cX10_digest 191 = .ok (.if_icmp .ge 72, 3) := by decide +kernel
theorem dX10_digest_194 : decode cX10_digest 194 = .ok (.lload_n 1, 1) := by decide +kernel
theorem dX10_digest_195 : decode cX10_digest 195 = .ok (.aload_n 0, 1) := by decide +kernel
theorem dX10_digest_196 : decode cX10_digest 196 = .ok (.getfield 28, 3) := by decide +kernel
theorem dX10_digest_199 : decode cX10_digest 199 = .ok (.iload_n 3, 1) := by decide +kernel
theorem dX10_digest_200 : decode cX10_digest 200 = .ok (.iaload, 1) := by decide +kernel
theorem dX10_digest_201 : decode cX10_digest 201 = .ok (.bipush (-9), 2) := by decide +kernel
theorem dX10_digest_203 : decode cX10_digest 203 = .ok (.if_icmp .ne 7, 3) := by decide +kernel
theorem dX10_digest_206 : decode cX10_digest 206 = .ok (.iconst (-1), 1) := by decide +kernel
theorem dX10_digest_207 : decode cX10_digest 207 = .ok (.goto 9, 3) := by decide +kernel
theorem dX10_digest_210 : decode cX10_digest 210 = .ok (.aload_n 0, 1) := by decide +kernel
theorem dX10_digest_211 : decode cX10_digest 211 = .ok (.getfield 28, 3) := by decide +kernel
theorem dX10_digest_214 : decode cX10_digest 214 = .ok (.iload_n 3, 1) := by decide +kernel
theorem dX10_digest_215 : decode cX10_digest 215 = .ok (.iaload, 1) := by decide +kernel
theorem dX10_digest_216 : decode cX10_digest 216 = .ok (.invokestatic 255, 3) := by decide +kernel
theorem dX10_digest_219 : decode cX10_digest 219 = .ok (.lstore_n 1, 1) := by decide +kernel
theorem dX10_digest_220 : decode cX10_digest 220 = .ok (.iconst 0, 1) := by decide +kernel
theorem dX10_digest_221 : decode cX10_digest 221 = .ok (.istore 4, 2) := by decide +kernel
theorem dX10_digest_223 : decode cX10_digest 223 = .ok (.iload 4, 2) := by decide +kernel
theorem dX10_digest_225 : decode cX10_digest 225 = .ok (.aload_n 0, 1) := by decide +kernel
theorem dX10_digest_226 : decode cX10_digest 226 = .ok (.getfield 28, 3) := by decide +kernel
theorem dX10_digest_229 : decode cX10_digest 229 = .ok (.iload_n 3, 1) := by decide +kernel
theorem dX10_digest_230 : decode cX10_digest 230 = .ok (.iaload, 1) := by decide +kernel
theorem dX10_digest_231 : decode cX10_digest 231 = .ok (.if_icmp .ge 26, 3) := by decide +kernel
theorem dX10_digest_234 : decode cX10_digest 234 = .ok (.lload_n 1, 1) := by decide +kernel
theorem dX10_digest_235 : decode cX10_digest 235 = .ok (.aload_n 0, 1) := by decide +kernel
theorem dX10_digest_236 : decode cX10_digest 236 = .ok (.getfield 25, 3) := by decide +kernel
theorem dX10_digest_239 : decode cX10_digest 239 = .ok (.bipush 60, 2) := by decide +kernel
theorem dX10_digest_241 : decode cX10_digest 241 = .ok (.iload_n 3, 1) := by decide +kernel
theorem dX10_digest_242 : decode cX10_digest 242 = .ok (.imul, 1) := by decide +kernel
theorem dX10_digest_243 : decode cX10_digest 243 = .ok (.iload 4, 2) := by decide +kernel
theorem dX10_digest_245 : decode cX10_digest 245 = .ok (.iadd, 1) := by decide +kernel
theorem dX10_digest_246 : decode cX10_digest 246 = .ok (.iaload, 1) := by decide +kernel
theorem dX10_digest_247 : decode cX10_digest 247 = .ok (.invokestatic 255, 3) := by decide +kernel
theorem dX10_digest_250 : decode cX10_digest 250 = .ok (.lstore_n 1, 1) := by decide +kernel
theorem dX10_digest_251 : decode cX10_digest 251 = .ok (.iinc 4 1, 3) := by decide +kernel
theorem dX10_digest_254 : decode cX10_digest 254 = .ok (.goto (-31), 3) := by decide +kernel
theorem dX10_digest_257 : decode cX10_digest 257 = .ok (.iinc 3 1, 3) := by decide +kernel
theorem dX10_digest_260 : decode cX10_digest 260 = .ok (.goto (-71), 3) := by decide +kernel
theorem dX10_digest_263 : decode cX10_digest 263 = .ok (.lload_n 1, 1) := by decide +kernel
theorem dX10_digest_264 : decode cX10_digest 264 = .ok (.lreturn, 1) := by decide +kernel
theorem dJ6_bitCount_0f7a4_0 : decode cJ6_bitCount_0f7a4 0 = .ok (.iload_n 0, 1) := by decide +kernel
theorem dJ6_bitCount_0f7a4_1 : decode cJ6_bitCount_0f7a4 1 = .ok (.iload_n 0, 1) := by decide +kernel
theorem dJ6_bitCount_0f7a4_2 : decode cJ6_bitCount_0f7a4 2 = .ok (.iconst 1, 1) := by decide +kernel
theorem dJ6_bitCount_0f7a4_3 : decode cJ6_bitCount_0f7a4 3 = .ok (.iushr, 1) := by decide +kernel
theorem dJ6_bitCount_0f7a4_4 : decode cJ6_bitCount_0f7a4 4 = .ok (.ldc_w 265, 3) := by decide +kernel
theorem dJ6_bitCount_0f7a4_7 : decode cJ6_bitCount_0f7a4 7 = .ok (.iand, 1) := by decide +kernel
theorem dJ6_bitCount_0f7a4_8 : decode cJ6_bitCount_0f7a4 8 = .ok (.isub, 1) := by decide +kernel
theorem dJ6_bitCount_0f7a4_9 : decode cJ6_bitCount_0f7a4 9 = .ok (.istore_n 0, 1) := by decide +kernel
theorem dJ6_bitCount_0f7a4_10 : decode cJ6_bitCount_0f7a4 10 = .ok (.iload_n 0, 1) := by decide +kernel
theorem dJ6_bitCount_0f7a4_11 : decode cJ6_bitCount_0f7a4 11 = .ok (.ldc_w 266, 3) := by decide +kernel
theorem dJ6_bitCount_0f7a4_14 : decode cJ6_bitCount_0f7a4 14 = .ok (.iand, 1) := by decide +kernel
theorem dJ6_bitCount_0f7a4_15 : decode cJ6_bitCount_0f7a4 15 = .ok (.iload_n 0, 1) := by decide +kernel
theorem dJ6_bitCount_0f7a4_16 : decode cJ6_bitCount_0f7a4 16 = .ok (.iconst 2, 1) := by decide +kernel
theorem dJ6_bitCount_0f7a4_17 : decode cJ6_bitCount_0f7a4 17 = .ok (.iushr, 1) := by decide +kernel
theorem dJ6_bitCount_0f7a4_18 : decode cJ6_bitCount_0f7a4 18 = .ok (.ldc_w 266, 3) := by decide +kernel
theorem dJ6_bitCount_0f7a4_21 : decode cJ6_bitCount_0f7a4 21 = .ok (.iand, 1) := by decide +kernel
theorem dJ6_bitCount_0f7a4_22 : decode cJ6_bitCount_0f7a4 22 = .ok (.iadd, 1) := by decide +kernel
theorem dJ6_bitCount_0f7a4_23 : decode cJ6_bitCount_0f7a4 23 = .ok (.istore_n 0, 1) := by decide +kernel
theorem dJ6_bitCount_0f7a4_24 : decode cJ6_bitCount_0f7a4 24 = .ok (.iload_n 0, 1) := by decide +kernel
theorem dJ6_bitCount_0f7a4_25 : decode cJ6_bitCount_0f7a4 25 = .ok (.iload_n 0, 1) := by decide +kernel
theorem dJ6_bitCount_0f7a4_26 : decode cJ6_bitCount_0f7a4 26 = .ok (.iconst 4, 1) := by decide +kernel
theorem dJ6_bitCount_0f7a4_27 : decode cJ6_bitCount_0f7a4 27 = .ok (.iushr, 1) := by decide +kernel
theorem dJ6_bitCount_0f7a4_28 : decode cJ6_bitCount_0f7a4 28 = .ok (.iadd, 1) := by decide +kernel
theorem dJ6_bitCount_0f7a4_29 : decode cJ6_bitCount_0f7a4 29 = .ok (.ldc_w 267, 3) := by decide +kernel
theorem dJ6_bitCount_0f7a4_32 : decode cJ6_bitCount_0f7a4 32 = .ok (.iand, 1) := by decide +kernel
theorem dJ6_bitCount_0f7a4_33 : decode cJ6_bitCount_0f7a4 33 = .ok (.istore_n 0, 1) := by decide +kernel
theorem dJ6_bitCount_0f7a4_34 : decode cJ6_bitCount_0f7a4 34 = .ok (.iload_n 0, 1) := by decide +kernel
theorem dJ6_bitCount_0f7a4_35 : decode cJ6_bitCount_0f7a4 35 = .ok (.iload_n 0, 1) := by decide +kernel
theorem dJ6_bitCount_0f7a4_36 : decode cJ6_bitCount_0f7a4 36 = .ok (.bipush 8, 2) := by decide +kernel
theorem dJ6_bitCount_0f7a4_38 : decode cJ6_bitCount_0f7a4 38 = .ok (.iushr, 1) := by decide +kernel
theorem dJ6_bitCount_0f7a4_39 : decode cJ6_bitCount_0f7a4 39 = .ok (.iadd, 1) := by decide +kernel
theorem dJ6_bitCount_0f7a4_40 : decode cJ6_bitCount_0f7a4 40 = .ok (.istore_n 0, 1) := by decide +kernel
theorem dJ6_bitCount_0f7a4_41 : decode cJ6_bitCount_0f7a4 41 = .ok (.iload_n 0, 1) := by decide +kernel
theorem dJ6_bitCount_0f7a4_42 : decode cJ6_bitCount_0f7a4 42 = .ok (.iload_n 0, 1) := by decide +kernel
theorem dJ6_bitCount_0f7a4_43 : decode cJ6_bitCount_0f7a4 43 = .ok (.bipush 16, 2) := by decide +kernel
theorem dJ6_bitCount_0f7a4_45 : decode cJ6_bitCount_0f7a4 45 = .ok (.iushr, 1) := by decide +kernel
theorem dJ6_bitCount_0f7a4_46 : decode cJ6_bitCount_0f7a4 46 = .ok (.iadd, 1) := by decide +kernel
theorem dJ6_bitCount_0f7a4_47 : decode cJ6_bitCount_0f7a4 47 = .ok (.istore_n 0, 1) := by decide +kernel
theorem dJ6_bitCount_0f7a4_48 : decode cJ6_bitCount_0f7a4 48 = .ok (.iload_n 0, 1) := by decide +kernel
theorem dJ6_bitCount_0f7a4_49 : decode cJ6_bitCount_0f7a4 49 = .ok (.bipush 63, 2) := by decide +kernel
theorem dJ6_bitCount_0f7a4_51 : decode cJ6_bitCount_0f7a4 51 = .ok (.iand, 1) := by decide +kernel
theorem dJ6_bitCount_0f7a4_52 : decode cJ6_bitCount_0f7a4 52 = .ok (.ireturn, 1) := by decide +kernel
theorem dJ9_floorMod_7cf53_0 : decode cJ9_floorMod_7cf53 0 = .ok (.iload_n 0, 1) := by decide +kernel
theorem dJ9_floorMod_7cf53_1 : decode cJ9_floorMod_7cf53 1 = .ok (.iload_n 1, 1) := by decide +kernel
theorem dJ9_floorMod_7cf53_2 : decode cJ9_floorMod_7cf53 2 = .ok (.irem, 1) := by decide +kernel
theorem dJ9_floorMod_7cf53_3 : decode cJ9_floorMod_7cf53 3 = .ok (.istore_n 2, 1) := by decide +kernel
theorem dJ9_floorMod_7cf53_4 : decode cJ9_floorMod_7cf53 4 = .ok (.iload_n 0, 1) := by decide +kernel
theorem dJ9_floorMod_7cf53_5 : decode cJ9_floorMod_7cf53 5 = .ok (.iload_n 1, 1) := by decide +kernel
theorem dJ9_floorMod_7cf53_6 : decode cJ9_floorMod_7cf53 6 = .ok (.ixor, 1) := by decide +kernel
theorem dJ9_floorMod_7cf53_7 : decode cJ9_floorMod_7cf53 7 = .ok (.ifCond .ge 11, 3) := by decide +kernel
theorem dJ9_floorMod_7cf53_10 : decode cJ9_floorMod_7cf53 10 = .ok (.iload_n 2, 1) := by decide +kernel
theorem dJ9_floorMod_7cf53_11 : decode cJ9_floorMod_7cf53 11 = .ok (.ifCond .eq 7, 3) := by decide +kernel
theorem dJ9_floorMod_7cf53_14 : decode cJ9_floorMod_7cf53 14 = .ok (.iload_n 2, 1) := by decide +kernel
theorem dJ9_floorMod_7cf53_15 : decode cJ9_floorMod_7cf53 15 = .ok (.iload_n 1, 1) := by decide +kernel
theorem dJ9_floorMod_7cf53_16 : decode cJ9_floorMod_7cf53 16 = .ok (.iadd, 1) := by decide +kernel
theorem dJ9_floorMod_7cf53_17 : decode cJ9_floorMod_7cf53 17 = .ok (.ireturn, 1) := by decide +kernel
theorem dJ9_floorMod_7cf53_18 : decode cJ9_floorMod_7cf53 18 = .ok (.iload_n 2, 1) := by decide +kernel
theorem dJ9_floorMod_7cf53_19 : decode cJ9_floorMod_7cf53 19 = .ok (.ireturn, 1) := by decide +kernel
theorem dJ9_abs_0f7a4_0 : decode cJ9_abs_0f7a4 0 = .ok (.iload_n 0, 1) := by decide +kernel
theorem dJ9_abs_0f7a4_1 : decode cJ9_abs_0f7a4 1 = .ok (.ifCond .ge 8, 3) := by decide +kernel
theorem dJ9_abs_0f7a4_4 : decode cJ9_abs_0f7a4 4 = .ok (.iload_n 0, 1) := by decide +kernel
theorem dJ9_abs_0f7a4_5 : decode cJ9_abs_0f7a4 5 = .ok (.ineg, 1) := by decide +kernel
theorem dJ9_abs_0f7a4_6 : decode cJ9_abs_0f7a4 6 = .ok (.goto 4, 3) := by decide +kernel
theorem dJ9_abs_0f7a4_9 : decode cJ9_abs_0f7a4 9 = .ok (.iload_n 0, 1) := by decide +kernel
theorem dJ9_abs_0f7a4_10 : decode cJ9_abs_0f7a4 10 = .ok (.ireturn, 1) := by decide +kernel
theorem dJ9_max_7cf53_0 : decode cJ9_max_7cf53 0 = .ok (.iload_n 0, 1) := by decide +kernel
theorem dJ9_max_7cf53_1 : decode cJ9_max_7cf53 1 = .ok (.iload_n 1, 1) := by decide +kernel
theorem dJ9_max_7cf53_2 : decode cJ9_max_7cf53 2 = .ok (.if_icmp .lt 7, 3) := by decide +kernel
theorem dJ9_max_7cf53_5 : decode cJ9_max_7cf53 5 = .ok (.iload_n 0, 1) := by decide +kernel
theorem dJ9_max_7cf53_6 : decode cJ9_max_7cf53 6 = .ok (.goto 4, 3) := by decide +kernel
theorem dJ9_max_7cf53_9 : decode cJ9_max_7cf53 9 = .ok (.iload_n 1, 1) := by decide +kernel
theorem dJ9_max_7cf53_10 : decode cJ9_max_7cf53 10 = .ok (.ireturn, 1) := by decide +kernel
theorem dJ9_min_7cf53_0 : decode cJ9_min_7cf53 0 = .ok (.iload_n 0, 1) := by decide +kernel
theorem dJ9_min_7cf53_1 : decode cJ9_min_7cf53 1 = .ok (.iload_n 1, 1) := by decide +kernel
theorem dJ9_min_7cf53_2 : decode cJ9_min_7cf53 2 = .ok (.if_icmp .gt 7, 3) := by decide +kernel
theorem dJ9_min_7cf53_5 : decode cJ9_min_7cf53 5 = .ok (.iload_n 0, 1) := by decide +kernel
theorem dJ9_min_7cf53_6 : decode cJ9_min_7cf53 6 = .ok (.goto 4, 3) := by decide +kernel
theorem dJ9_min_7cf53_9 : decode cJ9_min_7cf53 9 = .ok (.iload_n 1, 1) := by decide +kernel
theorem dJ9_min_7cf53_10 : decode cJ9_min_7cf53 10 = .ok (.ireturn, 1) := by decide +kernel
theorem dJ7_fill_53178_0 : decode cJ7_fill_53178 0 = .ok (.iconst 0, 1) := by decide +kernel
theorem dJ7_fill_53178_1 : decode cJ7_fill_53178 1 = .ok (.istore_n 2, 1) := by decide +kernel
theorem dJ7_fill_53178_2 : decode cJ7_fill_53178 2 = .ok (.aload_n 0, 1) := by decide +kernel
theorem dJ7_fill_53178_3 : decode cJ7_fill_53178 3 = .ok (.arraylength, 1) := by decide +kernel
theorem dJ7_fill_53178_4 : decode cJ7_fill_53178 4 = .ok (.istore_n 3, 1) := by decide +kernel
theorem dJ7_fill_53178_5 : decode cJ7_fill_53178 5 = .ok (.iload_n 2, 1) := by decide +kernel
theorem dJ7_fill_53178_6 : decode cJ7_fill_53178 6 = .ok (.iload_n 3, 1) := by decide +kernel
theorem dJ7_fill_53178_7 : decode cJ7_fill_53178 7 = .ok (.if_icmp .ge 13, 3) := by decide +kernel
theorem dJ7_fill_53178_10 : decode cJ7_fill_53178 10 = .ok (.aload_n 0, 1) := by decide +kernel
theorem dJ7_fill_53178_11 : decode cJ7_fill_53178 11 = .ok (.iload_n 2, 1) := by decide +kernel
theorem dJ7_fill_53178_12 : decode cJ7_fill_53178 12 = .ok (.iload_n 1, 1) := by decide +kernel
theorem dJ7_fill_53178_13 : decode cJ7_fill_53178 13 = .ok (.iastore, 1) := by decide +kernel
theorem dJ7_fill_53178_14 : decode cJ7_fill_53178 14 = .ok (.iinc 2 1, 3) := by decide +kernel
theorem dJ7_fill_53178_17 : decode cJ7_fill_53178 17 = .ok (.goto (-12), 3) := by decide +kernel
theorem dJ7_fill_53178_20 : decode cJ7_fill_53178 20 = .ok (.return_, 1) := by decide +kernel
theorem dJ7_fill_031fb_0 : decode cJ7_fill_031fb 0 = .ok (.iconst 0, 1) := by decide +kernel
theorem dJ7_fill_031fb_1 : decode cJ7_fill_031fb 1 = .ok (.istore_n 2, 1) := by decide +kernel
theorem dJ7_fill_031fb_2 : decode cJ7_fill_031fb 2 = .ok (.aload_n 0, 1) := by decide +kernel
theorem dJ7_fill_031fb_3 : decode cJ7_fill_031fb 3 = .ok (.arraylength, 1) := by decide +kernel
theorem dJ7_fill_031fb_4 : decode cJ7_fill_031fb 4 = .ok (.istore_n 3, 1) := by decide +kernel
theorem dJ7_fill_031fb_5 : decode cJ7_fill_031fb 5 = .ok (.iload_n 2, 1) := by decide +kernel
theorem dJ7_fill_031fb_6 : decode cJ7_fill_031fb 6 = .ok (.iload_n 3, 1) := by decide +kernel
theorem dJ7_fill_031fb_7 : decode cJ7_fill_031fb 7 = .ok (.if_icmp .ge 13, 3) := by decide +kernel
theorem dJ7_fill_031fb_10 : decode cJ7_fill_031fb 10 = .ok (.aload_n 0, 1) := by decide +kernel
theorem dJ7_fill_031fb_11 : decode cJ7_fill_031fb 11 = .ok (.iload_n 2, 1) := by decide +kernel
theorem dJ7_fill_031fb_12 : decode cJ7_fill_031fb 12 = .ok (.iload_n 1, 1) := by decide +kernel
theorem dJ7_fill_031fb_13 : decode cJ7_fill_031fb 13 = .ok (.bastore, 1) := by decide +kernel
theorem dJ7_fill_031fb_14 : decode cJ7_fill_031fb 14 = .ok (.iinc 2 1, 3) := by decide +kernel
theorem dJ7_fill_031fb_17 : decode cJ7_fill_031fb 17 = .ok (.goto (-12), 3) := by decide +kernel
theorem dJ7_fill_031fb_20 : decode cJ7_fill_031fb 20 = .ok (.return_, 1) := by decide +kernel
theorem dL_law_0 : decode cL_law 0 = .ok (.new 7, 3) := by decide +kernel
theorem dL_law_3 : decode cL_law 3 = .ok (.dup, 1) := by decide +kernel
theorem dL_law_4 : decode cL_law 4 = .ok (.invokespecial 9, 3) := by decide +kernel
theorem dL_law_7 : decode cL_law 7 = .ok (.astore_n 1, 1) := by decide +kernel
theorem dL_law_8 : decode cL_law 8 = .ok (.new 10, 3) := by decide +kernel
theorem dL_law_11 : decode cL_law 11 = .ok (.dup, 1) := by decide +kernel
theorem dL_law_12 : decode cL_law 12 = .ok (.invokespecial 12, 3) := by decide +kernel
theorem dL_law_15 : decode cL_law 15 = .ok (.astore_n 2, 1) := by decide +kernel
theorem dL_law_16 : decode cL_law 16 = .ok (.iconst 0, 1) := by decide +kernel
theorem dL_law_17 : decode cL_law 17 = .ok (.istore_n 3, 1) := by decide +kernel
theorem dL_law_18 : decode cL_law 18 = .ok (.iload_n 3, 1) := by decide +kernel
theorem dL_law_19 : decode cL_law 19 = .ok (.aload_n 0, 1) := by decide +kernel
theorem dL_law_20 : decode cL_law 20 = .ok (.arraylength, 1) := by decide +kernel
theorem dL_law_21 : decode cL_law 21 = .ok (.bipush 6, 2) := by decide +kernel
theorem dL_law_23 : decode cL_law 23 = .ok (.isub, 1) := by decide +kernel
theorem dL_law_24 : decode cL_law 24 = .ok (.if_icmp .gt 1441, 3) := by decide +kernel
theorem dL_law_27 : decode cL_law 27 = .ok (.aload_n 0, 1) := by decide +kernel
theorem dL_law_28 : decode cL_law 28 = .ok (.iload_n 3, 1) := by decide +kernel
theorem dL_law_29 : decode cL_law 29 = .ok (.iaload, 1) := by decide +kernel
theorem dL_law_30 : decode cL_law 30 = .ok (.bipush 63, 2) := by decide +kernel
theorem dL_law_32 : decode cL_law 32 = .ok (.iand, 1) := by decide +kernel
theorem dL_law_33 : decode cL_law 33 = .ok (.tableswitch 1426 0 43 #[191, 224, 267, 300, 323, 386, 409, 442, 485, 508, 531, 564, 597, 610, 633, 656, 679, 712, 735, 758, 781, 814, 837, 870, 893, 936, 969, 1002, 1035, 1068, 1101, 1134, 1157, 1180, 1223, 1256, 1279, 1312, 1325, 1339, 1353, 1376, 1389, 1412], 191) := by decide +kernel
theorem dL_law_224 : decode cL_law 224 = .ok (.aload_n 1, 1) := by decide +kernel
theorem dL_law_225 : decode cL_law 225 = .ok (.aload_n 0, 1) := by decide +kernel
theorem dL_law_226 : decode cL_law 226 = .ok (.iload_n 3, 1) := by decide +kernel
theorem dL_law_227 : decode cL_law 227 = .ok (.iconst 1, 1) := by decide +kernel
theorem dL_law_228 : decode cL_law 228 = .ok (.iadd, 1) := by decide +kernel
theorem dL_law_229 : decode cL_law 229 = .ok (.iaload, 1) := by decide +kernel
theorem dL_law_230 : decode cL_law 230 = .ok (.aload_n 0, 1) := by decide +kernel
theorem dL_law_231 : decode cL_law 231 = .ok (.iload_n 3, 1) := by decide +kernel
theorem dL_law_232 : decode cL_law 232 = .ok (.iconst 2, 1) := by decide +kernel
theorem dL_law_233 : decode cL_law 233 = .ok (.iadd, 1) := by decide +kernel
theorem dL_law_234 : decode cL_law 234 = .ok (.iaload, 1) := by decide +kernel
theorem dL_law_235 : decode cL_law 235 = .ok (.invokevirtual 13, 3) := by decide +kernel
theorem dL_law_238 : decode cL_law 238 = .ok (.aload_n 2, 1) := by decide +kernel
theorem dL_law_239 : decode cL_law 239 = .ok (.aload_n 0, 1) := by decide +kernel
theorem dL_law_240 : decode cL_law 240 = .ok (.iload_n 3, 1) := by decide +kernel
theorem dL_law_241 : decode cL_law 241 = .ok (.iconst 1, 1) := by decide +kernel
theorem dL_law_242 : decode cL_law 242 = .ok (.iadd, 1) := by decide +kernel
theorem dL_law_243 : decode cL_law 243 = .ok (.iaload, 1) := by decide +kernel
theorem dL_law_244 : decode cL_law 244 = .ok (.aload_n 0, 1) := by decide +kernel
theorem dL_law_245 : decode cL_law 245 = .ok (.iload_n 3, 1) := by decide +kernel
theorem dL_law_246 : decode cL_law 246 = .ok (.iconst 2, 1) := by decide +kernel
theorem dL_law_247 : decode cL_law 247 = .ok (.iadd, 1) := by decide +kernel
theorem dL_law_248 : decode cL_law 248 = .ok (.iaload, 1) := by decide +kernel
theorem dL_law_249 : decode cL_law 249 = .ok (.invokevirtual 17, 3) := by decide +kernel
theorem dL_law_252 : decode cL_law 252 = .ok (.if_icmp .eq 1207, 3) := by decide +kernel
theorem dL_law_255 : decode cL_law 255 = .ok (.iconst 0, 1) := by decide +kernel
theorem dL_law_256 : decode cL_law 256 = .ok (.ireturn, 1) := by decide +kernel
theorem dL_law_257 : decode cL_law 257 = .ok (.aload_n 1, 1) := by decide +kernel
theorem dL_law_258 : decode cL_law 258 = .ok (.aload_n 0, 1) := by decide +kernel
theorem dL_law_259 : decode cL_law 259 = .ok (.iload_n 3, 1) := by decide +kernel
theorem dL_law_260 : decode cL_law 260 = .ok (.iconst 1, 1) := by decide +kernel
theorem dL_law_261 : decode cL_law 261 = .ok (.iadd, 1) := by decide +kernel
theorem dL_law_262 : decode cL_law 262 = .ok (.iaload, 1) := by decide +kernel
theorem dL_law_263 : decode cL_law 263 = .ok (.aload_n 0, 1) := by decide +kernel
theorem dL_law_264 : decode cL_law 264 = .ok (.iload_n 3, 1) := by decide +kernel
theorem dL_law_265 : decode cL_law 265 = .ok (.iconst 2, 1) := by decide +kernel
theorem dL_law_266 : decode cL_law 266 = .ok (.iadd, 1) := by decide +kernel
theorem dL_law_267 : decode cL_law 267 = .ok (.iaload, 1) := by decide +kernel
theorem dL_law_268 : decode cL_law 268 = .ok (.aload_n 0, 1) := by decide +kernel
theorem dL_law_269 : decode cL_law 269 = .ok (.iload_n 3, 1) := by decide +kernel
theorem dL_law_270 : decode cL_law 270 = .ok (.iconst 3, 1) := by decide +kernel
theorem dL_law_271 : decode cL_law 271 = .ok (.iadd, 1) := by decide +kernel
theorem dL_law_272 : decode cL_law 272 = .ok (.iaload, 1) := by decide +kernel
theorem dL_law_273 : decode cL_law 273 = .ok (.invokevirtual 18, 3) := by decide +kernel
theorem dL_law_276 : decode cL_law 276 = .ok (.aload_n 2, 1) := by decide +kernel
theorem dL_law_277 : decode cL_law 277 = .ok (.aload_n 0, 1) := by decide +kernel
theorem dL_law_278 : decode cL_law 278 = .ok (.iload_n 3, 1) := by decide +kernel
theorem dL_law_279 : decode cL_law 279 = .ok (.iconst 1, 1) := by decide +kernel
theorem dL_law_280 : decode cL_law 280 = .ok (.iadd, 1) := by decide +kernel
theorem dL_law_281 : decode cL_law 281 = .ok (.iaload, 1) := by decide +kernel
theorem dL_law_282 : decode cL_law 282 = .ok (.aload_n 0, 1) := by decide +kernel
theorem dL_law_283 : decode cL_law 283 = .ok (.iload_n 3, 1) := by decide +kernel
theorem dL_law_284 : decode cL_law 284 = .ok (.iconst 2, 1) := by decide +kernel
theorem dL_law_285 : decode cL_law 285 = .ok (.iadd, 1) := by decide +kernel
theorem dL_law_286 : decode cL_law 286 = .ok (.iaload, 1) := by decide +kernel
theorem dL_law_287 : decode cL_law 287 = .ok (.aload_n 0, 1) := by decide +kernel
theorem dL_law_288 : decode cL_law 288 = .ok (.iload_n 3, 1) := by decide +kernel
theorem dL_law_289 : decode cL_law 289 = .ok (.iconst 3, 1) := by decide +kernel
theorem dL_law_290 : decode cL_law 290 = .ok (.iadd, 1) := by decide +kernel
theorem dL_law_291 : decode cL_law 291 = .ok (.iaload, 1) := by decide +kernel
theorem dL_law_292 : decode cL_law 292 = .ok (.invokevirtual 22, 3) := by decide +kernel
theorem dL_law_295 : decode cL_law 295 = .ok (.if_icmp .eq 1164, 3) := by decide +kernel
theorem dL_law_298 : decode cL_law 298 = .ok (.iconst 0, 1) := by decide +kernel
theorem dL_law_299 : decode cL_law 299 = .ok (.ireturn, 1) := by decide +kernel
theorem dL_law_300 : decode cL_law 300 = .ok (.aload_n 1, 1) := by decide +kernel
theorem dL_law_301 : decode cL_law 301 = .ok (.aload_n 0, 1) := by decide +kernel
theorem dL_law_302 : decode cL_law 302 = .ok (.iload_n 3, 1) := by decide +kernel
theorem dL_law_303 : decode cL_law 303 = .ok (.iconst 1, 1) := by decide +kernel
theorem dL_law_304 : decode cL_law 304 = .ok (.iadd, 1) := by decide +kernel
theorem dL_law_305 : decode cL_law 305 = .ok (.iaload, 1) := by decide +kernel
theorem dL_law_306 : decode cL_law 306 = .ok (.aload_n 0, 1) := by decide +kernel
theorem dL_law_307 : decode cL_law 307 = .ok (.iload_n 3, 1) := by decide +kernel
theorem dL_law_308 : decode cL_law 308 = .ok (.iconst 2, 1) := by decide +kernel
theorem dL_law_309 : decode cL_law 309 = .ok (.iadd, 1) := by decide +kernel
theorem dL_law_310 : decode cL_law 310 = .ok (.iaload, 1) := by decide +kernel
theorem dL_law_311 : decode cL_law 311 = .ok (.invokevirtual 23, 3) := by decide +kernel
theorem dL_law_314 : decode cL_law 314 = .ok (.aload_n 2, 1) := by decide +kernel
theorem dL_law_315 : decode cL_law 315 = .ok (.aload_n 0, 1) := by decide +kernel
theorem dL_law_316 : decode cL_law 316 = .ok (.iload_n 3, 1) := by decide +kernel
theorem dL_law_317 : decode cL_law 317 = .ok (.iconst 1, 1) := by decide +kernel
theorem dL_law_318 : decode cL_law 318 = .ok (.iadd, 1) := by decide +kernel
theorem dL_law_319 : decode cL_law 319 = .ok (.iaload, 1) := by decide +kernel
theorem dL_law_320 : decode cL_law 320 = .ok (.aload_n 0, 1) := by decide +kernel
theorem dL_law_321 : decode cL_law 321 = .ok (.iload_n 3, 1) := by decide +kernel
theorem dL_law_322 : decode cL_law 322 = .ok (.iconst 2, 1) := by decide +kernel
theorem dL_law_323 : decode cL_law 323 = .ok (.iadd, 1) := by decide +kernel
theorem dL_law_324 : decode cL_law 324 = .ok (.iaload, 1) := by decide +kernel
theorem dL_law_325 : decode cL_law 325 = .ok (.invokevirtual 26, 3) := by decide +kernel
theorem dL_law_328 : decode cL_law 328 = .ok (.if_icmp .eq 1131, 3) := by decide +kernel
theorem dL_law_331 : decode cL_law 331 = .ok (.iconst 0, 1) := by decide +kernel
theorem dL_law_332 : decode cL_law 332 = .ok (.ireturn, 1) := by decide +kernel
theorem dL_law_333 : decode cL_law 333 = .ok (.aload_n 1, 1) := by decide +kernel
theorem dL_law_334 : decode cL_law 334 = .ok (.aload_n 0, 1) := by decide +kernel
theorem dL_law_335 : decode cL_law 335 = .ok (.iload_n 3, 1) := by decide +kernel
theorem dL_law_336 : decode cL_law 336 = .ok (.iconst 1, 1) := by decide +kernel
theorem dL_law_337 : decode cL_law 337 = .ok (.iadd, 1) := by decide +kernel
theorem dL_law_338 : decode cL_law 338 = .ok (.iaload, 1) := by decide +kernel
theorem dL_law_339 : decode cL_law 339 = .ok (.invokevirtual 27, 3) := by decide +kernel
theorem dL_law_342 : decode cL_law 342 = .ok (.aload_n 2, 1) := by decide +kernel
theorem dL_law_343 : decode cL_law 343 = .ok (.aload_n 0, 1) := by decide +kernel
theorem dL_law_344 : decode cL_law 344 = .ok (.iload_n 3, 1) := by decide +kernel
theorem dL_law_345 : decode cL_law 345 = .ok (.iconst 1, 1) := by decide +kernel
theorem dL_law_346 : decode cL_law 346 = .ok (.iadd, 1) := by decide +kernel
theorem dL_law_347 : decode cL_law 347 = .ok (.iaload, 1) := by decide +kernel
theorem dL_law_348 : decode cL_law 348 = .ok (.invokevirtual 31, 3) := by decide +kernel
theorem dL_law_351 : decode cL_law 351 = .ok (.if_icmp .eq 1108, 3) := by decide +kernel
theorem dL_law_354 : decode cL_law 354 = .ok (.iconst 0, 1) := by decide +kernel
theorem dL_law_355 : decode cL_law 355 = .ok (.ireturn, 1) := by decide +kernel
theorem dL_law_356 : decode cL_law 356 = .ok (.aload_n 1, 1) := by decide +kernel
theorem dL_law_357 : decode cL_law 357 = .ok (.aload_n 0, 1) := by decide +kernel
theorem dL_law_358 : decode cL_law 358 = .ok (.iload_n 3, 1) := by decide +kernel
theorem dL_law_359 : decode cL_law 359 = .ok (.iconst 1, 1) := by decide +kernel
theorem dL_law_360 : decode cL_law 360 = .ok (.iadd, 1) := by decide +kernel
theorem dL_law_361 : decode cL_law 361 = .ok (.iaload, 1) := by decide +kernel
theorem dL_law_362 : decode cL_law 362 = .ok (.aload_n 0, 1) := by decide +kernel
theorem dL_law_363 : decode cL_law 363 = .ok (.iload_n 3, 1) := by decide +kernel
theorem dL_law_364 : decode cL_law 364 = .ok (.iconst 2, 1) := by decide +kernel
theorem dL_law_365 : decode cL_law 365 = .ok (.iadd, 1) := by decide +kernel
theorem dL_law_366 : decode cL_law 366 = .ok (.iaload, 1) := by decide +kernel
theorem dL_law_367 : decode cL_law 367 = .ok (.aload_n 0, 1) := by decide +kernel
theorem dL_law_368 : decode cL_law 368 = .ok (.iload_n 3, 1) := by decide +kernel
theorem dL_law_369 : decode cL_law 369 = .ok (.iconst 3, 1) := by decide +kernel
theorem dL_law_370 : decode cL_law 370 = .ok (.iadd, 1) := by decide +kernel
theorem dL_law_371 : decode cL_law 371 = .ok (.iaload, 1) := by decide +kernel
theorem dL_law_372 : decode cL_law 372 = .ok (.aload_n 0, 1) := by decide +kernel
theorem dL_law_373 : decode cL_law 373 = .ok (.iload_n 3, 1) := by decide +kernel
theorem dL_law_374 : decode cL_law 374 = .ok (.iconst 4, 1) := by decide +kernel
theorem dL_law_375 : decode cL_law 375 = .ok (.iadd, 1) := by decide +kernel
theorem dL_law_376 : decode cL_law 376 = .ok (.iaload, 1) := by decide +kernel
theorem dL_law_377 : decode cL_law 377 = .ok (.aload_n 0, 1) := by decide +kernel
theorem dL_law_378 : decode cL_law 378 = .ok (.iload_n 3, 1) := by decide +kernel
theorem dL_law_379 : decode cL_law 379 = .ok (.iconst 5, 1) := by decide +kernel
theorem dL_law_380 : decode cL_law 380 = .ok (.iadd, 1) := by decide +kernel
theorem dL_law_381 : decode cL_law 381 = .ok (.iaload, 1) := by decide +kernel
theorem dL_law_382 : decode cL_law 382 = .ok (.invokevirtual 32, 3) := by decide +kernel
theorem dL_law_385 : decode cL_law 385 = .ok (.aload_n 2, 1) := by decide +kernel
theorem dL_law_386 : decode cL_law 386 = .ok (.aload_n 0, 1) := by decide +kernel
theorem dL_law_387 : decode cL_law 387 = .ok (.iload_n 3, 1) := by decide +kernel
theorem dL_law_388 : decode cL_law 388 = .ok (.iconst 1, 1) := by decide +kernel
theorem dL_law_389 : decode cL_law 389 = .ok (.iadd, 1) := by decide +kernel
theorem dL_law_390 : decode cL_law 390 = .ok (.iaload, 1) := by decide +kernel
theorem dL_law_391 : decode cL_law 391 = .ok (.aload_n 0, 1) := by decide +kernel
theorem dL_law_392 : decode cL_law 392 = .ok (.iload_n 3, 1) := by decide +kernel
theorem dL_law_393 : decode cL_law 393 = .ok (.iconst 2, 1) := by decide +kernel
theorem dL_law_394 : decode cL_law 394 = .ok (.iadd, 1) := by decide +kernel
theorem dL_law_395 : decode cL_law 395 = .ok (.iaload, 1) := by decide +kernel
theorem dL_law_396 : decode cL_law 396 = .ok (.aload_n 0, 1) := by decide +kernel
theorem dL_law_397 : decode cL_law 397 = .ok (.iload_n 3, 1) := by decide +kernel
theorem dL_law_398 : decode cL_law 398 = .ok (.iconst 3, 1) := by decide +kernel
theorem dL_law_399 : decode cL_law 399 = .ok (.iadd, 1) := by decide +kernel
theorem dL_law_400 : decode cL_law 400 = .ok (.iaload, 1) := by decide +kernel
theorem dL_law_401 : decode cL_law 401 = .ok (.aload_n 0, 1) := by decide +kernel
theorem dL_law_402 : decode cL_law 402 = .ok (.iload_n 3, 1) := by decide +kernel
theorem dL_law_403 : decode cL_law 403 = .ok (.iconst 4, 1) := by decide +kernel
theorem dL_law_404 : decode cL_law 404 = .ok (.iadd, 1) := by decide +kernel
theorem dL_law_405 : decode cL_law 405 = .ok (.iaload, 1) := by decide +kernel
theorem dL_law_406 : decode cL_law 406 = .ok (.aload_n 0, 1) := by decide +kernel
theorem dL_law_407 : decode cL_law 407 = .ok (.iload_n 3, 1) := by decide +kernel
theorem dL_law_408 : decode cL_law 408 = .ok (.iconst 5, 1) := by decide +kernel
theorem dL_law_409 : decode cL_law 409 = .ok (.iadd, 1) := by decide +kernel
theorem dL_law_410 : decode cL_law 410 = .ok (.iaload, 1) := by decide +kernel
theorem dL_law_411 : decode cL_law 411 = .ok (.invokevirtual 36, 3) := by decide +kernel
theorem dL_law_414 : decode cL_law 414 = .ok (.if_icmp .eq 1045, 3) := by decide +kernel
theorem dL_law_417 : decode cL_law 417 = .ok (.iconst 0, 1) := by decide +kernel
theorem dL_law_418 : decode cL_law 418 = .ok (.ireturn, 1) := by decide +kernel
theorem dL_law_419 : decode cL_law 419 = .ok (.aload_n 1, 1) := by decide +kernel
theorem dL_law_420 : decode cL_law 420 = .ok (.aload_n 0, 1) := by decide +kernel
theorem dL_law_421 : decode cL_law 421 = .ok (.iload_n 3, 1) := by decide +kernel
theorem dL_law_422 : decode cL_law 422 = .ok (.iconst 1, 1) := by decide +kernel
theorem dL_law_423 : decode cL_law 423 = .ok (.iadd, 1) := by decide +kernel
theorem dL_law_424 : decode cL_law 424 = .ok (.iaload, 1) := by decide +kernel
theorem dL_law_425 : decode cL_law 425 = .ok (.invokevirtual 37, 3) := by decide +kernel
theorem dL_law_428 : decode cL_law 428 = .ok (.aload_n 2, 1) := by decide +kernel
theorem dL_law_429 : decode cL_law 429 = .ok (.aload_n 0, 1) := by decide +kernel
theorem dL_law_430 : decode cL_law 430 = .ok (.iload_n 3, 1) := by decide +kernel
theorem dL_law_431 : decode cL_law 431 = .ok (.iconst 1, 1) := by decide +kernel
theorem dL_law_432 : decode cL_law 432 = .ok (.iadd, 1) := by decide +kernel
theorem dL_law_433 : decode cL_law 433 = .ok (.iaload, 1) := by decide +kernel
theorem dL_law_434 : decode cL_law 434 = .ok (.invokevirtual 40, 3) := by decide +kernel
theorem dL_law_437 : decode cL_law 437 = .ok (.if_icmp .eq 1022, 3) := by decide +kernel
theorem dL_law_440 : decode cL_law 440 = .ok (.iconst 0, 1) := by decide +kernel
theorem dL_law_441 : decode cL_law 441 = .ok (.ireturn, 1) := by decide +kernel
theorem dL_law_442 : decode cL_law 442 = .ok (.aload_n 1, 1) := by decide +kernel
theorem dL_law_443 : decode cL_law 443 = .ok (.aload_n 0, 1) := by decide +kernel
theorem dL_law_444 : decode cL_law 444 = .ok (.iload_n 3, 1) := by decide +kernel
theorem dL_law_445 : decode cL_law 445 = .ok (.iconst 1, 1) := by decide +kernel
theorem dL_law_446 : decode cL_law 446 = .ok (.iadd, 1) := by decide +kernel
theorem dL_law_447 : decode cL_law 447 = .ok (.iaload, 1) := by decide +kernel
theorem dL_law_448 : decode cL_law 448 = .ok (.aload_n 0, 1) := by decide +kernel
theorem dL_law_449 : decode cL_law 449 = .ok (.iload_n 3, 1) := by decide +kernel
theorem dL_law_450 : decode cL_law 450 = .ok (.iconst 2, 1) := by decide +kernel
theorem dL_law_451 : decode cL_law 451 = .ok (.iadd, 1) := by decide +kernel
theorem dL_law_452 : decode cL_law 452 = .ok (.iaload, 1) := by decide +kernel
theorem dL_law_453 : decode cL_law 453 = .ok (.invokevirtual 41, 3) := by decide +kernel
theorem dL_law_456 : decode cL_law 456 = .ok (.aload_n 2, 1) := by decide +kernel
theorem dL_law_457 : decode cL_law 457 = .ok (.aload_n 0, 1) := by decide +kernel
theorem dL_law_458 : decode cL_law 458 = .ok (.iload_n 3, 1) := by decide +kernel
theorem dL_law_459 : decode cL_law 459 = .ok (.iconst 1, 1) := by decide +kernel
theorem dL_law_460 : decode cL_law 460 = .ok (.iadd, 1) := by decide +kernel
theorem dL_law_461 : decode cL_law 461 = .ok (.iaload, 1) := by decide +kernel
theorem dL_law_462 : decode cL_law 462 = .ok (.aload_n 0, 1) := by decide +kernel
theorem dL_law_463 : decode cL_law 463 = .ok (.iload_n 3, 1) := by decide +kernel
theorem dL_law_464 : decode cL_law 464 = .ok (.iconst 2, 1) := by decide +kernel
theorem dL_law_465 : decode cL_law 465 = .ok (.iadd, 1) := by decide +kernel
theorem dL_law_466 : decode cL_law 466 = .ok (.iaload, 1) := by decide +kernel
theorem dL_law_467 : decode cL_law 467 = .ok (.invokevirtual 44, 3) := by decide +kernel
theorem dL_law_470 : decode cL_law 470 = .ok (.if_icmp .eq 989, 3) := by decide +kernel
theorem dL_law_473 : decode cL_law 473 = .ok (.iconst 0, 1) := by decide +kernel
theorem dL_law_474 : decode cL_law 474 = .ok (.ireturn, 1) := by decide +kernel
theorem dL_law_475 : decode cL_law 475 = .ok (.aload_n 1, 1) := by decide +kernel
theorem dL_law_476 : decode cL_law 476 = .ok (.aload_n 0, 1) := by decide +kernel
theorem dL_law_477 : decode cL_law 477 = .ok (.iload_n 3, 1) := by decide +kernel
theorem dL_law_478 : decode cL_law 478 = .ok (.iconst 1, 1) := by decide +kernel
theorem dL_law_479 : decode cL_law 479 = .ok (.iadd, 1) := by decide +kernel
theorem dL_law_480 : decode cL_law 480 = .ok (.iaload, 1) := by decide +kernel
theorem dL_law_481 : decode cL_law 481 = .ok (.aload_n 0, 1) := by decide +kernel
theorem dL_law_482 : decode cL_law 482 = .ok (.iload_n 3, 1) := by decide +kernel
theorem dL_law_483 : decode cL_law 483 = .ok (.iconst 2, 1) := by decide +kernel
theorem dL_law_484 : decode cL_law 484 = .ok (.iadd, 1) := by decide +kernel
theorem dL_law_485 : decode cL_law 485 = .ok (.iaload, 1) := by decide +kernel
theorem dL_law_486 : decode cL_law 486 = .ok (.aload_n 0, 1) := by decide +kernel
theorem dL_law_487 : decode cL_law 487 = .ok (.iload_n 3, 1) := by decide +kernel
theorem dL_law_488 : decode cL_law 488 = .ok (.iconst 3, 1) := by decide +kernel
theorem dL_law_489 : decode cL_law 489 = .ok (.iadd, 1) := by decide +kernel
theorem dL_law_490 : decode cL_law 490 = .ok (.iaload, 1) := by decide +kernel
theorem dL_law_491 : decode cL_law 491 = .ok (.invokevirtual 45, 3) := by decide +kernel
theorem dL_law_494 : decode cL_law 494 = .ok (.aload_n 2, 1) := by decide +kernel
theorem dL_law_495 : decode cL_law 495 = .ok (.aload_n 0, 1) := by decide +kernel
theorem dL_law_496 : decode cL_law 496 = .ok (.iload_n 3, 1) := by decide +kernel
theorem dL_law_497 : decode cL_law 497 = .ok (.iconst 1, 1) := by decide +kernel
theorem dL_law_498 : decode cL_law 498 = .ok (.iadd, 1) := by decide +kernel
theorem dL_law_499 : decode cL_law 499 = .ok (.iaload, 1) := by decide +kernel
theorem dL_law_500 : decode cL_law 500 = .ok (.aload_n 0, 1) := by decide +kernel
theorem dL_law_501 : decode cL_law 501 = .ok (.iload_n 3, 1) := by decide +kernel
theorem dL_law_502 : decode cL_law 502 = .ok (.iconst 2, 1) := by decide +kernel
theorem dL_law_503 : decode cL_law 503 = .ok (.iadd, 1) := by decide +kernel
theorem dL_law_504 : decode cL_law 504 = .ok (.iaload, 1) := by decide +kernel
theorem dL_law_505 : decode cL_law 505 = .ok (.aload_n 0, 1) := by decide +kernel
theorem dL_law_506 : decode cL_law 506 = .ok (.iload_n 3, 1) := by decide +kernel
theorem dL_law_507 : decode cL_law 507 = .ok (.iconst 3, 1) := by decide +kernel
theorem dL_law_508 : decode cL_law 508 = .ok (.iadd, 1) := by decide +kernel
theorem dL_law_509 : decode cL_law 509 = .ok (.iaload, 1) := by decide +kernel
theorem dL_law_510 : decode cL_law 510 = .ok (.invokevirtual 48, 3) := by decide +kernel
theorem dL_law_513 : decode cL_law 513 = .ok (.if_icmp .eq 946, 3) := by decide +kernel
theorem dL_law_516 : decode cL_law 516 = .ok (.iconst 0, 1) := by decide +kernel
theorem dL_law_517 : decode cL_law 517 = .ok (.ireturn, 1) := by decide +kernel
theorem dL_law_518 : decode cL_law 518 = .ok (.aload_n 1, 1) := by decide +kernel
theorem dL_law_519 : decode cL_law 519 = .ok (.aload_n 0, 1) := by decide +kernel
theorem dL_law_520 : decode cL_law 520 = .ok (.iload_n 3, 1) := by decide +kernel
theorem dL_law_521 : decode cL_law 521 = .ok (.iconst 1, 1) := by decide +kernel
theorem dL_law_522 : decode cL_law 522 = .ok (.iadd, 1) := by decide +kernel
theorem dL_law_523 : decode cL_law 523 = .ok (.iaload, 1) := by decide +kernel
theorem dL_law_524 : decode cL_law 524 = .ok (.invokevirtual 49, 3) := by decide +kernel
theorem dL_law_527 : decode cL_law 527 = .ok (.aload_n 2, 1) := by decide +kernel
theorem dL_law_528 : decode cL_law 528 = .ok (.aload_n 0, 1) := by decide +kernel
theorem dL_law_529 : decode cL_law 529 = .ok (.iload_n 3, 1) := by decide +kernel
theorem dL_law_530 : decode cL_law 530 = .ok (.iconst 1, 1) := by decide +kernel
theorem dL_law_531 : decode cL_law 531 = .ok (.iadd, 1) := by decide +kernel
theorem dL_law_532 : decode cL_law 532 = .ok (.iaload, 1) := by decide +kernel
theorem dL_law_533 : decode cL_law 533 = .ok (.invokevirtual 52, 3) := by decide +kernel
theorem dL_law_536 : decode cL_law 536 = .ok (.if_icmp .eq 923, 3) := by decide +kernel
theorem dL_law_539 : decode cL_law 539 = .ok (.iconst 0, 1) := by decide +kernel
theorem dL_law_540 : decode cL_law 540 = .ok (.ireturn, 1) := by decide +kernel
theorem dL_law_541 : decode cL_law 541 = .ok (.aload_n 1, 1) := by decide +kernel
theorem dL_law_542 : decode cL_law 542 = .ok (.aload_n 0, 1) := by decide +kernel
theorem dL_law_543 : decode cL_law 543 = .ok (.iload_n 3, 1) := by decide +kernel
theorem dL_law_544 : decode cL_law 544 = .ok (.iconst 1, 1) := by decide +kernel
theorem dL_law_545 : decode cL_law 545 = .ok (.iadd, 1) := by decide +kernel
theorem dL_law_546 : decode cL_law 546 = .ok (.iaload, 1) := by decide +kernel
theorem dL_law_547 : decode cL_law 547 = .ok (.invokevirtual 53, 3) := by decide +kernel
theorem dL_law_550 : decode cL_law 550 = .ok (.aload_n 2, 1) := by decide +kernel
theorem dL_law_551 : decode cL_law 551 = .ok (.aload_n 0, 1) := by decide +kernel
theorem dL_law_552 : decode cL_law 552 = .ok (.iload_n 3, 1) := by decide +kernel
theorem dL_law_553 : decode cL_law 553 = .ok (.iconst 1, 1) := by decide +kernel
theorem dL_law_554 : decode cL_law 554 = .ok (.iadd, 1) := by decide +kernel
theorem dL_law_555 : decode cL_law 555 = .ok (.iaload, 1) := by decide +kernel
theorem dL_law_556 : decode cL_law 556 = .ok (.invokevirtual 56, 3) := by decide +kernel
theorem dL_law_559 : decode cL_law 559 = .ok (.if_icmp .eq 900, 3) := by decide +kernel
theorem dL_law_562 : decode cL_law 562 = .ok (.iconst 0, 1) := by decide +kernel
theorem dL_law_563 : decode cL_law 563 = .ok (.ireturn, 1) := by decide +kernel
theorem dL_law_564 : decode cL_law 564 = .ok (.aload_n 1, 1) := by decide +kernel
theorem dL_law_565 : decode cL_law 565 = .ok (.aload_n 0, 1) := by decide +kernel
theorem dL_law_566 : decode cL_law 566 = .ok (.iload_n 3, 1) := by decide +kernel
theorem dL_law_567 : decode cL_law 567 = .ok (.iconst 1, 1) := by decide +kernel
theorem dL_law_568 : decode cL_law 568 = .ok (.iadd, 1) := by decide +kernel
theorem dL_law_569 : decode cL_law 569 = .ok (.iaload, 1) := by decide +kernel
theorem dL_law_570 : decode cL_law 570 = .ok (.aload_n 0, 1) := by decide +kernel
theorem dL_law_571 : decode cL_law 571 = .ok (.iload_n 3, 1) := by decide +kernel
theorem dL_law_572 : decode cL_law 572 = .ok (.iconst 2, 1) := by decide +kernel
theorem dL_law_573 : decode cL_law 573 = .ok (.iadd, 1) := by decide +kernel
theorem dL_law_574 : decode cL_law 574 = .ok (.iaload, 1) := by decide +kernel
theorem dL_law_575 : decode cL_law 575 = .ok (.invokevirtual 57, 3) := by decide +kernel
theorem dL_law_578 : decode cL_law 578 = .ok (.aload_n 2, 1) := by decide +kernel
theorem dL_law_579 : decode cL_law 579 = .ok (.aload_n 0, 1) := by decide +kernel
theorem dL_law_580 : decode cL_law 580 = .ok (.iload_n 3, 1) := by decide +kernel
theorem dL_law_581 : decode cL_law 581 = .ok (.iconst 1, 1) := by decide +kernel
theorem dL_law_582 : decode cL_law 582 = .ok (.iadd, 1) := by decide +kernel
theorem dL_law_583 : decode cL_law 583 = .ok (.iaload, 1) := by decide +kernel
theorem dL_law_584 : decode cL_law 584 = .ok (.aload_n 0, 1) := by decide +kernel
theorem dL_law_585 : decode cL_law 585 = .ok (.iload_n 3, 1) := by decide +kernel
theorem dL_law_586 : decode cL_law 586 = .ok (.iconst 2, 1) := by decide +kernel
theorem dL_law_587 : decode cL_law 587 = .ok (.iadd, 1) := by decide +kernel
theorem dL_law_588 : decode cL_law 588 = .ok (.iaload, 1) := by decide +kernel
theorem dL_law_589 : decode cL_law 589 = .ok (.invokevirtual 60, 3) := by decide +kernel
theorem dL_law_592 : decode cL_law 592 = .ok (.if_icmp .eq 867, 3) := by decide +kernel
theorem dL_law_595 : decode cL_law 595 = .ok (.iconst 0, 1) := by decide +kernel
theorem dL_law_596 : decode cL_law 596 = .ok (.ireturn, 1) := by decide +kernel
theorem dL_law_597 : decode cL_law 597 = .ok (.aload_n 1, 1) := by decide +kernel
theorem dL_law_598 : decode cL_law 598 = .ok (.aload_n 0, 1) := by decide +kernel
theorem dL_law_599 : decode cL_law 599 = .ok (.iload_n 3, 1) := by decide +kernel
theorem dL_law_600 : decode cL_law 600 = .ok (.iconst 1, 1) := by decide +kernel
theorem dL_law_601 : decode cL_law 601 = .ok (.iadd, 1) := by decide +kernel
theorem dL_law_602 : decode cL_law 602 = .ok (.iaload, 1) := by decide +kernel
theorem dL_law_603 : decode cL_law 603 = .ok (.aload_n 0, 1) := by decide +kernel
theorem dL_law_604 : decode cL_law 604 = .ok (.iload_n 3, 1) := by decide +kernel
theorem dL_law_605 : decode cL_law 605 = .ok (.iconst 2, 1) := by decide +kernel
theorem dL_law_606 : decode cL_law 606 = .ok (.iadd, 1) := by decide +kernel
theorem dL_law_607 : decode cL_law 607 = .ok (.iaload, 1) := by decide +kernel
theorem dL_law_608 : decode cL_law 608 = .ok (.invokevirtual 61, 3) := by decide +kernel
theorem dL_law_611 : decode cL_law 611 = .ok (.aload_n 2, 1) := by decide +kernel
theorem dL_law_612 : decode cL_law 612 = .ok (.aload_n 0, 1) := by decide +kernel
theorem dL_law_613 : decode cL_law 613 = .ok (.iload_n 3, 1) := by decide +kernel
theorem dL_law_614 : decode cL_law 614 = .ok (.iconst 1, 1) := by decide +kernel
theorem dL_law_615 : decode cL_law 615 = .ok (.iadd, 1) := by decide +kernel
theorem dL_law_616 : decode cL_law 616 = .ok (.iaload, 1) := by decide +kernel
theorem dL_law_617 : decode cL_law 617 = .ok (.aload_n 0, 1) := by decide +kernel
theorem dL_law_618 : decode cL_law 618 = .ok (.iload_n 3, 1) := by decide +kernel
theorem dL_law_619 : decode cL_law 619 = .ok (.iconst 2, 1) := by decide +kernel
theorem dL_law_620 : decode cL_law 620 = .ok (.iadd, 1) := by decide +kernel
theorem dL_law_621 : decode cL_law 621 = .ok (.iaload, 1) := by decide +kernel
theorem dL_law_622 : decode cL_law 622 = .ok (.invokevirtual 64, 3) := by decide +kernel
theorem dL_law_625 : decode cL_law 625 = .ok (.if_icmp .eq 834, 3) := by decide +kernel
theorem dL_law_628 : decode cL_law 628 = .ok (.iconst 0, 1) := by decide +kernel
theorem dL_law_629 : decode cL_law 629 = .ok (.ireturn, 1) := by decide +kernel
theorem dL_law_630 : decode cL_law 630 = .ok (.aload_n 1, 1) := by decide +kernel
theorem dL_law_631 : decode cL_law 631 = .ok (.invokevirtual 65, 3) := by decide +kernel
theorem dL_law_634 : decode cL_law 634 = .ok (.aload_n 2, 1) := by decide +kernel
theorem dL_law_635 : decode cL_law 635 = .ok (.invokevirtual 69, 3) := by decide +kernel
theorem dL_law_638 : decode cL_law 638 = .ok (.if_icmp .eq 821, 3) := by decide +kernel
theorem dL_law_641 : decode cL_law 641 = .ok (.iconst 0, 1) := by decide +kernel
theorem dL_law_642 : decode cL_law 642 = .ok (.ireturn, 1) := by decide +kernel
theorem dL_law_643 : decode cL_law 643 = .ok (.aload_n 1, 1) := by decide +kernel
theorem dL_law_644 : decode cL_law 644 = .ok (.aload_n 0, 1) := by decide +kernel
theorem dL_law_645 : decode cL_law 645 = .ok (.iload_n 3, 1) := by decide +kernel
theorem dL_law_646 : decode cL_law 646 = .ok (.iconst 1, 1) := by decide +kernel
theorem dL_law_647 : decode cL_law 647 = .ok (.iadd, 1) := by decide +kernel
theorem dL_law_648 : decode cL_law 648 = .ok (.iaload, 1) := by decide +kernel
theorem dL_law_649 : decode cL_law 649 = .ok (.invokevirtual 70, 3) := by decide +kernel
theorem dL_law_652 : decode cL_law 652 = .ok (.aload_n 2, 1) := by decide +kernel
theorem dL_law_653 : decode cL_law 653 = .ok (.aload_n 0, 1) := by decide +kernel
theorem dL_law_654 : decode cL_law 654 = .ok (.iload_n 3, 1) := by decide +kernel
theorem dL_law_655 : decode cL_law 655 = .ok (.iconst 1, 1) := by decide +kernel
theorem dL_law_656 : decode cL_law 656 = .ok (.iadd, 1) := by decide +kernel
theorem dL_law_657 : decode cL_law 657 = .ok (.iaload, 1) := by decide +kernel
theorem dL_law_658 : decode cL_law 658 = .ok (.invokevirtual 73, 3) := by decide +kernel
theorem dL_law_661 : decode cL_law 661 = .ok (.if_icmp .eq 798, 3) := by decide +kernel
theorem dL_law_664 : decode cL_law 664 = .ok (.iconst 0, 1) := by decide +kernel
theorem dL_law_665 : decode cL_law 665 = .ok (.ireturn, 1) := by decide +kernel
theorem dL_law_666 : decode cL_law 666 = .ok (.aload_n 1, 1) := by decide +kernel
theorem dL_law_667 : decode cL_law 667 = .ok (.aload_n 0, 1) := by decide +kernel
theorem dL_law_668 : decode cL_law 668 = .ok (.iload_n 3, 1) := by decide +kernel
theorem dL_law_669 : decode cL_law 669 = .ok (.iconst 1, 1) := by decide +kernel
theorem dL_law_670 : decode cL_law 670 = .ok (.iadd, 1) := by decide +kernel
theorem dL_law_671 : decode cL_law 671 = .ok (.iaload, 1) := by decide +kernel
theorem dL_law_672 : decode cL_law 672 = .ok (.invokevirtual 74, 3) := by decide +kernel
theorem dL_law_675 : decode cL_law 675 = .ok (.aload_n 2, 1) := by decide +kernel
theorem dL_law_676 : decode cL_law 676 = .ok (.aload_n 0, 1) := by decide +kernel
theorem dL_law_677 : decode cL_law 677 = .ok (.iload_n 3, 1) := by decide +kernel
theorem dL_law_678 : decode cL_law 678 = .ok (.iconst 1, 1) := by decide +kernel
theorem dL_law_679 : decode cL_law 679 = .ok (.iadd, 1) := by decide +kernel
theorem dL_law_680 : decode cL_law 680 = .ok (.iaload, 1) := by decide +kernel
theorem dL_law_681 : decode cL_law 681 = .ok (.invokevirtual 77, 3) := by decide +kernel
theorem dL_law_684 : decode cL_law 684 = .ok (.if_icmp .eq 775, 3) := by decide +kernel
theorem dL_law_687 : decode cL_law 687 = .ok (.iconst 0, 1) := by decide +kernel
theorem dL_law_688 : decode cL_law 688 = .ok (.ireturn, 1) := by decide +kernel
theorem dL_law_689 : decode cL_law 689 = .ok (.aload_n 1, 1) := by decide +kernel
theorem dL_law_690 : decode cL_law 690 = .ok (.aload_n 0, 1) := by decide +kernel
theorem dL_law_691 : decode cL_law 691 = .ok (.iload_n 3, 1) := by decide +kernel
theorem dL_law_692 : decode cL_law 692 = .ok (.iconst 1, 1) := by decide +kernel
theorem dL_law_693 : decode cL_law 693 = .ok (.iadd, 1) := by decide +kernel
theorem dL_law_694 : decode cL_law 694 = .ok (.iaload, 1) := by decide +kernel
theorem dL_law_695 : decode cL_law 695 = .ok (.invokevirtual 78, 3) := by decide +kernel
theorem dL_law_698 : decode cL_law 698 = .ok (.aload_n 2, 1) := by decide +kernel
theorem dL_law_699 : decode cL_law 699 = .ok (.aload_n 0, 1) := by decide +kernel
theorem dL_law_700 : decode cL_law 700 = .ok (.iload_n 3, 1) := by decide +kernel
theorem dL_law_701 : decode cL_law 701 = .ok (.iconst 1, 1) := by decide +kernel
theorem dL_law_702 : decode cL_law 702 = .ok (.iadd, 1) := by decide +kernel
theorem dL_law_703 : decode cL_law 703 = .ok (.iaload, 1) := by decide +kernel
theorem dL_law_704 : decode cL_law 704 = .ok (.invokevirtual 81, 3) := by decide +kernel
theorem dL_law_707 : decode cL_law 707 = .ok (.if_icmp .eq 752, 3) := by decide +kernel
theorem dL_law_710 : decode cL_law 710 = .ok (.iconst 0, 1) := by decide +kernel
theorem dL_law_711 : decode cL_law 711 = .ok (.ireturn, 1) := by decide +kernel
theorem dL_law_712 : decode cL_law 712 = .ok (.aload_n 1, 1) := by decide +kernel
theorem dL_law_713 : decode cL_law 713 = .ok (.aload_n 0, 1) := by decide +kernel
theorem dL_law_714 : decode cL_law 714 = .ok (.iload_n 3, 1) := by decide +kernel
theorem dL_law_715 : decode cL_law 715 = .ok (.iconst 1, 1) := by decide +kernel
theorem dL_law_716 : decode cL_law 716 = .ok (.iadd, 1) := by decide +kernel
theorem dL_law_717 : decode cL_law 717 = .ok (.iaload, 1) := by decide +kernel
theorem dL_law_718 : decode cL_law 718 = .ok (.aload_n 0, 1) := by decide +kernel
theorem dL_law_719 : decode cL_law 719 = .ok (.iload_n 3, 1) := by decide +kernel
theorem dL_law_720 : decode cL_law 720 = .ok (.iconst 2, 1) := by decide +kernel
theorem dL_law_721 : decode cL_law 721 = .ok (.iadd, 1) := by decide +kernel
theorem dL_law_722 : decode cL_law 722 = .ok (.iaload, 1) := by decide +kernel
theorem dL_law_723 : decode cL_law 723 = .ok (.invokevirtual 82, 3) := by decide +kernel
theorem dL_law_726 : decode cL_law 726 = .ok (.aload_n 2, 1) := by decide +kernel
theorem dL_law_727 : decode cL_law 727 = .ok (.aload_n 0, 1) := by decide +kernel
theorem dL_law_728 : decode cL_law 728 = .ok (.iload_n 3, 1) := by decide +kernel
theorem dL_law_729 : decode cL_law 729 = .ok (.iconst 1, 1) := by decide +kernel
theorem dL_law_730 : decode cL_law 730 = .ok (.iadd, 1) := by decide +kernel
theorem dL_law_731 : decode cL_law 731 = .ok (.iaload, 1) := by decide +kernel
theorem dL_law_732 : decode cL_law 732 = .ok (.aload_n 0, 1) := by decide +kernel
theorem dL_law_733 : decode cL_law 733 = .ok (.iload_n 3, 1) := by decide +kernel
theorem dL_law_734 : decode cL_law 734 = .ok (.iconst 2, 1) := by decide +kernel
theorem dL_law_735 : decode cL_law 735 = .ok (.iadd, 1) := by decide +kernel
theorem dL_law_736 : decode cL_law 736 = .ok (.iaload, 1) := by decide +kernel
theorem dL_law_737 : decode cL_law 737 = .ok (.invokevirtual 85, 3) := by decide +kernel
theorem dL_law_740 : decode cL_law 740 = .ok (.if_icmp .eq 719, 3) := by decide +kernel
theorem dL_law_743 : decode cL_law 743 = .ok (.iconst 0, 1) := by decide +kernel
theorem dL_law_744 : decode cL_law 744 = .ok (.ireturn, 1) := by decide +kernel
theorem dL_law_745 : decode cL_law 745 = .ok (.aload_n 1, 1) := by decide +kernel
theorem dL_law_746 : decode cL_law 746 = .ok (.aload_n 0, 1) := by decide +kernel
theorem dL_law_747 : decode cL_law 747 = .ok (.iload_n 3, 1) := by decide +kernel
theorem dL_law_748 : decode cL_law 748 = .ok (.iconst 1, 1) := by decide +kernel
theorem dL_law_749 : decode cL_law 749 = .ok (.iadd, 1) := by decide +kernel
theorem dL_law_750 : decode cL_law 750 = .ok (.iaload, 1) := by decide +kernel
theorem dL_law_751 : decode cL_law 751 = .ok (.invokevirtual 86, 3) := by decide +kernel
theorem dL_law_754 : decode cL_law 754 = .ok (.aload_n 2, 1) := by decide +kernel
theorem dL_law_755 : decode cL_law 755 = .ok (.aload_n 0, 1) := by decide +kernel
theorem dL_law_756 : decode cL_law 756 = .ok (.iload_n 3, 1) := by decide +kernel
theorem dL_law_757 : decode cL_law 757 = .ok (.iconst 1, 1) := by decide +kernel
theorem dL_law_758 : decode cL_law 758 = .ok (.iadd, 1) := by decide +kernel
theorem dL_law_759 : decode cL_law 759 = .ok (.iaload, 1) := by decide +kernel
theorem dL_law_760 : decode cL_law 760 = .ok (.invokevirtual 89, 3) := by decide +kernel
theorem dL_law_763 : decode cL_law 763 = .ok (.if_icmp .eq 696, 3) := by decide +kernel
theorem dL_law_766 : decode cL_law 766 = .ok (.iconst 0, 1) := by decide +kernel
theorem dL_law_767 : decode cL_law 767 = .ok (.ireturn, 1) := by decide +kernel
theorem dL_law_768 : decode cL_law 768 = .ok (.aload_n 1, 1) := by decide +kernel
theorem dL_law_769 : decode cL_law 769 = .ok (.aload_n 0, 1) := by decide +kernel
theorem dL_law_770 : decode cL_law 770 = .ok (.iload_n 3, 1) := by decide +kernel
theorem dL_law_771 : decode cL_law 771 = .ok (.iconst 1, 1) := by decide +kernel
theorem dL_law_772 : decode cL_law 772 = .ok (.iadd, 1) := by decide +kernel
theorem dL_law_773 : decode cL_law 773 = .ok (.iaload, 1) := by decide +kernel
theorem dL_law_774 : decode cL_law 774 = .ok (.invokevirtual 90, 3) := by decide +kernel
theorem dL_law_777 : decode cL_law 777 = .ok (.aload_n 2, 1) := by decide +kernel
theorem dL_law_778 : decode cL_law 778 = .ok (.aload_n 0, 1) := by decide +kernel
theorem dL_law_779 : decode cL_law 779 = .ok (.iload_n 3, 1) := by decide +kernel
theorem dL_law_780 : decode cL_law 780 = .ok (.iconst 1, 1) := by decide +kernel
theorem dL_law_781 : decode cL_law 781 = .ok (.iadd, 1) := by decide +kernel
theorem dL_law_782 : decode cL_law 782 = .ok (.iaload, 1) := by decide +kernel
theorem dL_law_783 : decode cL_law 783 = .ok (.invokevirtual 93, 3) := by decide +kernel
theorem dL_law_786 : decode cL_law 786 = .ok (.if_icmp .eq 673, 3) := by decide +kernel
theorem dL_law_789 : decode cL_law 789 = .ok (.iconst 0, 1) := by decide +kernel
theorem dL_law_790 : decode cL_law 790 = .ok (.ireturn, 1) := by decide +kernel
theorem dL_law_791 : decode cL_law 791 = .ok (.aload_n 1, 1) := by decide +kernel
theorem dL_law_792 : decode cL_law 792 = .ok (.aload_n 0, 1) := by decide +kernel
theorem dL_law_793 : decode cL_law 793 = .ok (.iload_n 3, 1) := by decide +kernel
theorem dL_law_794 : decode cL_law 794 = .ok (.iconst 1, 1) := by decide +kernel
theorem dL_law_795 : decode cL_law 795 = .ok (.iadd, 1) := by decide +kernel
theorem dL_law_796 : decode cL_law 796 = .ok (.iaload, 1) := by decide +kernel
theorem dL_law_797 : decode cL_law 797 = .ok (.invokevirtual 94, 3) := by decide +kernel
theorem dL_law_800 : decode cL_law 800 = .ok (.aload_n 2, 1) := by decide +kernel
theorem dL_law_801 : decode cL_law 801 = .ok (.aload_n 0, 1) := by decide +kernel
theorem dL_law_802 : decode cL_law 802 = .ok (.iload_n 3, 1) := by decide +kernel
theorem dL_law_803 : decode cL_law 803 = .ok (.iconst 1, 1) := by decide +kernel
theorem dL_law_804 : decode cL_law 804 = .ok (.iadd, 1) := by decide +kernel
theorem dL_law_805 : decode cL_law 805 = .ok (.iaload, 1) := by decide +kernel
theorem dL_law_806 : decode cL_law 806 = .ok (.invokevirtual 97, 3) := by decide +kernel
theorem dL_law_809 : decode cL_law 809 = .ok (.if_icmp .eq 650, 3) := by decide +kernel
theorem dL_law_812 : decode cL_law 812 = .ok (.iconst 0, 1) := by decide +kernel
theorem dL_law_813 : decode cL_law 813 = .ok (.ireturn, 1) := by decide +kernel
theorem dL_law_814 : decode cL_law 814 = .ok (.aload_n 1, 1) := by decide +kernel
theorem dL_law_815 : decode cL_law 815 = .ok (.aload_n 0, 1) := by decide +kernel
theorem dL_law_816 : decode cL_law 816 = .ok (.iload_n 3, 1) := by decide +kernel
theorem dL_law_817 : decode cL_law 817 = .ok (.iconst 1, 1) := by decide +kernel
theorem dL_law_818 : decode cL_law 818 = .ok (.iadd, 1) := by decide +kernel
theorem dL_law_819 : decode cL_law 819 = .ok (.iaload, 1) := by decide +kernel
theorem dL_law_820 : decode cL_law 820 = .ok (.aload_n 0, 1) := by decide +kernel
theorem dL_law_821 : decode cL_law 821 = .ok (.iload_n 3, 1) := by decide +kernel
theorem dL_law_822 : decode cL_law 822 = .ok (.iconst 2, 1) := by decide +kernel
theorem dL_law_823 : decode cL_law 823 = .ok (.iadd, 1) := by decide +kernel
theorem dL_law_824 : decode cL_law 824 = .ok (.iaload, 1) := by decide +kernel
theorem dL_law_825 : decode cL_law 825 = .ok (.invokevirtual 98, 3) := by decide +kernel
theorem dL_law_828 : decode cL_law 828 = .ok (.aload_n 2, 1) := by decide +kernel
theorem dL_law_829 : decode cL_law 829 = .ok (.aload_n 0, 1) := by decide +kernel
theorem dL_law_830 : decode cL_law 830 = .ok (.iload_n 3, 1) := by decide +kernel
theorem dL_law_831 : decode cL_law 831 = .ok (.iconst 1, 1) := by decide +kernel
theorem dL_law_832 : decode cL_law 832 = .ok (.iadd, 1) := by decide +kernel
theorem dL_law_833 : decode cL_law 833 = .ok (.iaload, 1) := by decide +kernel
theorem dL_law_834 : decode cL_law 834 = .ok (.aload_n 0, 1) := by decide +kernel
theorem dL_law_835 : decode cL_law 835 = .ok (.iload_n 3, 1) := by decide +kernel
theorem dL_law_836 : decode cL_law 836 = .ok (.iconst 2, 1) := by decide +kernel
theorem dL_law_837 : decode cL_law 837 = .ok (.iadd, 1) := by decide +kernel
theorem dL_law_838 : decode cL_law 838 = .ok (.iaload, 1) := by decide +kernel
theorem dL_law_839 : decode cL_law 839 = .ok (.invokevirtual 101, 3) := by decide +kernel
theorem dL_law_842 : decode cL_law 842 = .ok (.if_icmp .eq 617, 3) := by decide +kernel
theorem dL_law_845 : decode cL_law 845 = .ok (.iconst 0, 1) := by decide +kernel
theorem dL_law_846 : decode cL_law 846 = .ok (.ireturn, 1) := by decide +kernel
theorem dL_law_847 : decode cL_law 847 = .ok (.aload_n 1, 1) := by decide +kernel
theorem dL_law_848 : decode cL_law 848 = .ok (.aload_n 0, 1) := by decide +kernel
theorem dL_law_849 : decode cL_law 849 = .ok (.iload_n 3, 1) := by decide +kernel
theorem dL_law_850 : decode cL_law 850 = .ok (.iconst 1, 1) := by decide +kernel
theorem dL_law_851 : decode cL_law 851 = .ok (.iadd, 1) := by decide +kernel
theorem dL_law_852 : decode cL_law 852 = .ok (.iaload, 1) := by decide +kernel
theorem dL_law_853 : decode cL_law 853 = .ok (.invokevirtual 102, 3) := by decide +kernel
theorem dL_law_856 : decode cL_law 856 = .ok (.aload_n 2, 1) := by decide +kernel
theorem dL_law_857 : decode cL_law 857 = .ok (.aload_n 0, 1) := by decide +kernel
theorem dL_law_858 : decode cL_law 858 = .ok (.iload_n 3, 1) := by decide +kernel
theorem dL_law_859 : decode cL_law 859 = .ok (.iconst 1, 1) := by decide +kernel
theorem dL_law_860 : decode cL_law 860 = .ok (.iadd, 1) := by decide +kernel
theorem dL_law_861 : decode cL_law 861 = .ok (.iaload, 1) := by decide +kernel
theorem dL_law_862 : decode cL_law 862 = .ok (.invokevirtual 105, 3) := by decide +kernel
theorem dL_law_865 : decode cL_law 865 = .ok (.if_icmp .eq 594, 3) := by decide +kernel
theorem dL_law_868 : decode cL_law 868 = .ok (.iconst 0, 1) := by decide +kernel
theorem dL_law_869 : decode cL_law 869 = .ok (.ireturn, 1) := by decide +kernel
theorem dL_law_870 : decode cL_law 870 = .ok (.aload_n 1, 1) := by decide +kernel
theorem dL_law_871 : decode cL_law 871 = .ok (.aload_n 0, 1) := by decide +kernel
theorem dL_law_872 : decode cL_law 872 = .ok (.iload_n 3, 1) := by decide +kernel
theorem dL_law_873 : decode cL_law 873 = .ok (.iconst 1, 1) := by decide +kernel
theorem dL_law_874 : decode cL_law 874 = .ok (.iadd, 1) := by decide +kernel
theorem dL_law_875 : decode cL_law 875 = .ok (.iaload, 1) := by decide +kernel
theorem dL_law_876 : decode cL_law 876 = .ok (.aload_n 0, 1) := by decide +kernel
theorem dL_law_877 : decode cL_law 877 = .ok (.iload_n 3, 1) := by decide +kernel
theorem dL_law_878 : decode cL_law 878 = .ok (.iconst 2, 1) := by decide +kernel
theorem dL_law_879 : decode cL_law 879 = .ok (.iadd, 1) := by decide +kernel
theorem dL_law_880 : decode cL_law 880 = .ok (.iaload, 1) := by decide +kernel
theorem dL_law_881 : decode cL_law 881 = .ok (.invokevirtual 106, 3) := by decide +kernel
theorem dL_law_884 : decode cL_law 884 = .ok (.aload_n 2, 1) := by decide +kernel
theorem dL_law_885 : decode cL_law 885 = .ok (.aload_n 0, 1) := by decide +kernel
theorem dL_law_886 : decode cL_law 886 = .ok (.iload_n 3, 1) := by decide +kernel
theorem dL_law_887 : decode cL_law 887 = .ok (.iconst 1, 1) := by decide +kernel
theorem dL_law_888 : decode cL_law 888 = .ok (.iadd, 1) := by decide +kernel
theorem dL_law_889 : decode cL_law 889 = .ok (.iaload, 1) := by decide +kernel
theorem dL_law_890 : decode cL_law 890 = .ok (.aload_n 0, 1) := by decide +kernel
theorem dL_law_891 : decode cL_law 891 = .ok (.iload_n 3, 1) := by decide +kernel
theorem dL_law_892 : decode cL_law 892 = .ok (.iconst 2, 1) := by decide +kernel
theorem dL_law_893 : decode cL_law 893 = .ok (.iadd, 1) := by decide +kernel
theorem dL_law_894 : decode cL_law 894 = .ok (.iaload, 1) := by decide +kernel
theorem dL_law_895 : decode cL_law 895 = .ok (.invokevirtual 109, 3) := by decide +kernel
theorem dL_law_898 : decode cL_law 898 = .ok (.if_icmp .eq 561, 3) := by decide +kernel
theorem dL_law_901 : decode cL_law 901 = .ok (.iconst 0, 1) := by decide +kernel
theorem dL_law_902 : decode cL_law 902 = .ok (.ireturn, 1) := by decide +kernel
theorem dL_law_903 : decode cL_law 903 = .ok (.aload_n 1, 1) := by decide +kernel
theorem dL_law_904 : decode cL_law 904 = .ok (.aload_n 0, 1) := by decide +kernel
theorem dL_law_905 : decode cL_law 905 = .ok (.iload_n 3, 1) := by decide +kernel
theorem dL_law_906 : decode cL_law 906 = .ok (.iconst 1, 1) := by decide +kernel
theorem dL_law_907 : decode cL_law 907 = .ok (.iadd, 1) := by decide +kernel
theorem dL_law_908 : decode cL_law 908 = .ok (.iaload, 1) := by decide +kernel
theorem dL_law_909 : decode cL_law 909 = .ok (.invokevirtual 110, 3) := by decide +kernel
theorem dL_law_912 : decode cL_law 912 = .ok (.aload_n 2, 1) := by decide +kernel
theorem dL_law_913 : decode cL_law 913 = .ok (.aload_n 0, 1) := by decide +kernel
theorem dL_law_914 : decode cL_law 914 = .ok (.iload_n 3, 1) := by decide +kernel
theorem dL_law_915 : decode cL_law 915 = .ok (.iconst 1, 1) := by decide +kernel
theorem dL_law_916 : decode cL_law 916 = .ok (.iadd, 1) := by decide +kernel
theorem dL_law_917 : decode cL_law 917 = .ok (.iaload, 1) := by decide +kernel
theorem dL_law_918 : decode cL_law 918 = .ok (.invokevirtual 113, 3) := by decide +kernel
theorem dL_law_921 : decode cL_law 921 = .ok (.if_icmp .eq 538, 3) := by decide +kernel
theorem dL_law_924 : decode cL_law 924 = .ok (.iconst 0, 1) := by decide +kernel
theorem dL_law_925 : decode cL_law 925 = .ok (.ireturn, 1) := by decide +kernel
theorem dL_law_926 : decode cL_law 926 = .ok (.aload_n 1, 1) := by decide +kernel
theorem dL_law_927 : decode cL_law 927 = .ok (.aload_n 0, 1) := by decide +kernel
theorem dL_law_928 : decode cL_law 928 = .ok (.iload_n 3, 1) := by decide +kernel
theorem dL_law_929 : decode cL_law 929 = .ok (.iconst 1, 1) := by decide +kernel
theorem dL_law_930 : decode cL_law 930 = .ok (.iadd, 1) := by decide +kernel
theorem dL_law_931 : decode cL_law 931 = .ok (.iaload, 1) := by decide +kernel
theorem dL_law_932 : decode cL_law 932 = .ok (.aload_n 0, 1) := by decide +kernel
theorem dL_law_933 : decode cL_law 933 = .ok (.iload_n 3, 1) := by decide +kernel
theorem dL_law_934 : decode cL_law 934 = .ok (.iconst 2, 1) := by decide +kernel
theorem dL_law_935 : decode cL_law 935 = .ok (.iadd, 1) := by decide +kernel
theorem dL_law_936 : decode cL_law 936 = .ok (.iaload, 1) := by decide +kernel
theorem dL_law_937 : decode cL_law 937 = .ok (.aload_n 0, 1) := by decide +kernel
theorem dL_law_938 : decode cL_law 938 = .ok (.iload_n 3, 1) := by decide +kernel
theorem dL_law_939 : decode cL_law 939 = .ok (.iconst 3, 1) := by decide +kernel
theorem dL_law_940 : decode cL_law 940 = .ok (.iadd, 1) := by decide +kernel
theorem dL_law_941 : decode cL_law 941 = .ok (.iaload, 1) := by decide +kernel
theorem dL_law_942 : decode cL_law 942 = .ok (.invokevirtual 114, 3) := by decide +kernel
theorem dL_law_945 : decode cL_law 945 = .ok (.aload_n 2, 1) := by decide +kernel
theorem dL_law_946 : decode cL_law 946 = .ok (.aload_n 0, 1) := by decide +kernel
theorem dL_law_947 : decode cL_law 947 = .ok (.iload_n 3, 1) := by decide +kernel
theorem dL_law_948 : decode cL_law 948 = .ok (.iconst 1, 1) := by decide +kernel
theorem dL_law_949 : decode cL_law 949 = .ok (.iadd, 1) := by decide +kernel
theorem dL_law_950 : decode cL_law 950 = .ok (.iaload, 1) := by decide +kernel
theorem dL_law_951 : decode cL_law 951 = .ok (.aload_n 0, 1) := by decide +kernel
theorem dL_law_952 : decode cL_law 952 = .ok (.iload_n 3, 1) := by decide +kernel
theorem dL_law_953 : decode cL_law 953 = .ok (.iconst 2, 1) := by decide +kernel
theorem dL_law_954 : decode cL_law 954 = .ok (.iadd, 1) := by decide +kernel
theorem dL_law_955 : decode cL_law 955 = .ok (.iaload, 1) := by decide +kernel
theorem dL_law_956 : decode cL_law 956 = .ok (.aload_n 0, 1) := by decide +kernel
theorem dL_law_957 : decode cL_law 957 = .ok (.iload_n 3, 1) := by decide +kernel
theorem dL_law_958 : decode cL_law 958 = .ok (.iconst 3, 1) := by decide +kernel
theorem dL_law_959 : decode cL_law 959 = .ok (.iadd, 1) := by decide +kernel
theorem dL_law_960 : decode cL_law 960 = .ok (.iaload, 1) := by decide +kernel
theorem dL_law_961 : decode cL_law 961 = .ok (.invokevirtual 117, 3) := by decide +kernel
theorem dL_law_964 : decode cL_law 964 = .ok (.if_icmp .eq 495, 3) := by decide +kernel
theorem dL_law_967 : decode cL_law 967 = .ok (.iconst 0, 1) := by decide +kernel
theorem dL_law_968 : decode cL_law 968 = .ok (.ireturn, 1) := by decide +kernel
theorem dL_law_969 : decode cL_law 969 = .ok (.aload_n 1, 1) := by decide +kernel
theorem dL_law_970 : decode cL_law 970 = .ok (.aload_n 0, 1) := by decide +kernel
theorem dL_law_971 : decode cL_law 971 = .ok (.iload_n 3, 1) := by decide +kernel
theorem dL_law_972 : decode cL_law 972 = .ok (.iconst 1, 1) := by decide +kernel
theorem dL_law_973 : decode cL_law 973 = .ok (.iadd, 1) := by decide +kernel
theorem dL_law_974 : decode cL_law 974 = .ok (.iaload, 1) := by decide +kernel
theorem dL_law_975 : decode cL_law 975 = .ok (.aload_n 0, 1) := by decide +kernel
theorem dL_law_976 : decode cL_law 976 = .ok (.iload_n 3, 1) := by decide +kernel
theorem dL_law_977 : decode cL_law 977 = .ok (.iconst 2, 1) := by decide +kernel
theorem dL_law_978 : decode cL_law 978 = .ok (.iadd, 1) := by decide +kernel
theorem dL_law_979 : decode cL_law 979 = .ok (.iaload, 1) := by decide +kernel
theorem dL_law_980 : decode cL_law 980 = .ok (.invokevirtual 118, 3) := by decide +kernel
theorem dL_law_983 : decode cL_law 983 = .ok (.aload_n 2, 1) := by decide +kernel
theorem dL_law_984 : decode cL_law 984 = .ok (.aload_n 0, 1) := by decide +kernel
theorem dL_law_985 : decode cL_law 985 = .ok (.iload_n 3, 1) := by decide +kernel
theorem dL_law_986 : decode cL_law 986 = .ok (.iconst 1, 1) := by decide +kernel
theorem dL_law_987 : decode cL_law 987 = .ok (.iadd, 1) := by decide +kernel
theorem dL_law_988 : decode cL_law 988 = .ok (.iaload, 1) := by decide +kernel
theorem dL_law_989 : decode cL_law 989 = .ok (.aload_n 0, 1) := by decide +kernel
theorem dL_law_990 : decode cL_law 990 = .ok (.iload_n 3, 1) := by decide +kernel
theorem dL_law_991 : decode cL_law 991 = .ok (.iconst 2, 1) := by decide +kernel
theorem dL_law_992 : decode cL_law 992 = .ok (.iadd, 1) := by decide +kernel
theorem dL_law_993 : decode cL_law 993 = .ok (.iaload, 1) := by decide +kernel
theorem dL_law_994 : decode cL_law 994 = .ok (.invokevirtual 121, 3) := by decide +kernel
theorem dL_law_997 : decode cL_law 997 = .ok (.if_icmp .eq 462, 3) := by decide +kernel
theorem dL_law_1000 : decode cL_law 1000 = .ok (.iconst 0, 1) := by decide +kernel
theorem dL_law_1001 : decode cL_law 1001 = .ok (.ireturn, 1) := by decide +kernel
theorem dL_law_1002 : decode cL_law 1002 = .ok (.aload_n 1, 1) := by decide +kernel
theorem dL_law_1003 : decode cL_law 1003 = .ok (.aload_n 0, 1) := by decide +kernel
theorem dL_law_1004 : decode cL_law 1004 = .ok (.iload_n 3, 1) := by decide +kernel
theorem dL_law_1005 : decode cL_law 1005 = .ok (.iconst 1, 1) := by decide +kernel
theorem dL_law_1006 : decode cL_law 1006 = .ok (.iadd, 1) := by decide +kernel
theorem dL_law_1007 : decode cL_law 1007 = .ok (.iaload, 1) := by decide +kernel
theorem dL_law_1008 : decode cL_law 1008 = .ok (.aload_n 0, 1) := by decide +kernel
theorem dL_law_1009 : decode cL_law 1009 = .ok (.iload_n 3, 1) := by decide +kernel
theorem dL_law_1010 : decode cL_law 1010 = .ok (.iconst 2, 1) := by decide +kernel
theorem dL_law_1011 : decode cL_law 1011 = .ok (.iadd, 1) := by decide +kernel
theorem dL_law_1012 : decode cL_law 1012 = .ok (.iaload, 1) := by decide +kernel
theorem dL_law_1013 : decode cL_law 1013 = .ok (.invokevirtual 122, 3) := by decide +kernel
theorem dL_law_1016 : decode cL_law 1016 = .ok (.aload_n 2, 1) := by decide +kernel
theorem dL_law_1017 : decode cL_law 1017 = .ok (.aload_n 0, 1) := by decide +kernel
theorem dL_law_1018 : decode cL_law 1018 = .ok (.iload_n 3, 1) := by decide +kernel
theorem dL_law_1019 : decode cL_law 1019 = .ok (.iconst 1, 1) := by decide +kernel
theorem dL_law_1020 : decode cL_law 1020 = .ok (.iadd, 1) := by decide +kernel
theorem dL_law_1021 : decode cL_law 1021 = .ok (.iaload, 1) := by decide +kernel
theorem dL_law_1022 : decode cL_law 1022 = .ok (.aload_n 0, 1) := by decide +kernel
theorem dL_law_1023 : decode cL_law 1023 = .ok (.iload_n 3, 1) := by decide +kernel
theorem dL_law_1024 : decode cL_law 1024 = .ok (.iconst 2, 1) := by decide +kernel
theorem dL_law_1025 : decode cL_law 1025 = .ok (.iadd, 1) := by decide +kernel
theorem dL_law_1026 : decode cL_law 1026 = .ok (.iaload, 1) := by decide +kernel
theorem dL_law_1027 : decode cL_law 1027 = .ok (.invokevirtual 125, 3) := by decide +kernel
theorem dL_law_1030 : decode cL_law 1030 = .ok (.if_icmp .eq 429, 3) := by decide +kernel
theorem dL_law_1033 : decode cL_law 1033 = .ok (.iconst 0, 1) := by decide +kernel
theorem dL_law_1034 : decode cL_law 1034 = .ok (.ireturn, 1) := by decide +kernel
theorem dL_law_1035 : decode cL_law 1035 = .ok (.aload_n 1, 1) := by decide +kernel
theorem dL_law_1036 : decode cL_law 1036 = .ok (.aload_n 0, 1) := by decide +kernel
theorem dL_law_1037 : decode cL_law 1037 = .ok (.iload_n 3, 1) := by decide +kernel
theorem dL_law_1038 : decode cL_law 1038 = .ok (.iconst 1, 1) := by decide +kernel
theorem dL_law_1039 : decode cL_law 1039 = .ok (.iadd, 1) := by decide +kernel
theorem dL_law_1040 : decode cL_law 1040 = .ok (.iaload, 1) := by decide +kernel
theorem dL_law_1041 : decode cL_law 1041 = .ok (.aload_n 0, 1) := by decide +kernel
theorem dL_law_1042 : decode cL_law 1042 = .ok (.iload_n 3, 1) := by decide +kernel
theorem dL_law_1043 : decode cL_law 1043 = .ok (.iconst 2, 1) := by decide +kernel
theorem dL_law_1044 : decode cL_law 1044 = .ok (.iadd, 1) := by decide +kernel
theorem dL_law_1045 : decode cL_law 1045 = .ok (.iaload, 1) := by decide +kernel
theorem dL_law_1046 : decode cL_law 1046 = .ok (.invokevirtual 126, 3) := by decide +kernel
theorem dL_law_1049 : decode cL_law 1049 = .ok (.aload_n 2, 1) := by decide +kernel
theorem dL_law_1050 : decode cL_law 1050 = .ok (.aload_n 0, 1) := by decide +kernel
theorem dL_law_1051 : decode cL_law 1051 = .ok (.iload_n 3, 1) := by decide +kernel
theorem dL_law_1052 : decode cL_law 1052 = .ok (.iconst 1, 1) := by decide +kernel
theorem dL_law_1053 : decode cL_law 1053 = .ok (.iadd, 1) := by decide +kernel
theorem dL_law_1054 : decode cL_law 1054 = .ok (.iaload, 1) := by decide +kernel
theorem dL_law_1055 : decode cL_law 1055 = .ok (.aload_n 0, 1) := by decide +kernel
theorem dL_law_1056 : decode cL_law 1056 = .ok (.iload_n 3, 1) := by decide +kernel
theorem dL_law_1057 : decode cL_law 1057 = .ok (.iconst 2, 1) := by decide +kernel
theorem dL_law_1058 : decode cL_law 1058 = .ok (.iadd, 1) := by decide +kernel
theorem dL_law_1059 : decode cL_law 1059 = .ok (.iaload, 1) := by decide +kernel
theorem dL_law_1060 : decode cL_law 1060 = .ok (.invokevirtual 129, 3) := by decide +kernel
theorem dL_law_1063 : decode cL_law 1063 = .ok (.if_icmp .eq 396, 3) := by decide +kernel
theorem dL_law_1066 : decode cL_law 1066 = .ok (.iconst 0, 1) := by decide +kernel
theorem dL_law_1067 : decode cL_law 1067 = .ok (.ireturn, 1) := by decide +kernel
theorem dL_law_1068 : decode cL_law 1068 = .ok (.aload_n 1, 1) := by decide +kernel
theorem dL_law_1069 : decode cL_law 1069 = .ok (.aload_n 0, 1) := by decide +kernel
theorem dL_law_1070 : decode cL_law 1070 = .ok (.iload_n 3, 1) := by decide +kernel
theorem dL_law_1071 : decode cL_law 1071 = .ok (.iconst 1, 1) := by decide +kernel
theorem dL_law_1072 : decode cL_law 1072 = .ok (.iadd, 1) := by decide +kernel
theorem dL_law_1073 : decode cL_law 1073 = .ok (.iaload, 1) := by decide +kernel
theorem dL_law_1074 : decode cL_law 1074 = .ok (.aload_n 0, 1) := by decide +kernel
theorem dL_law_1075 : decode cL_law 1075 = .ok (.iload_n 3, 1) := by decide +kernel
theorem dL_law_1076 : decode cL_law 1076 = .ok (.iconst 2, 1) := by decide +kernel
theorem dL_law_1077 : decode cL_law 1077 = .ok (.iadd, 1) := by decide +kernel
theorem dL_law_1078 : decode cL_law 1078 = .ok (.iaload, 1) := by decide +kernel
theorem dL_law_1079 : decode cL_law 1079 = .ok (.invokevirtual 130, 3) := by decide +kernel
theorem dL_law_1082 : decode cL_law 1082 = .ok (.aload_n 2, 1) := by decide +kernel
theorem dL_law_1083 : decode cL_law 1083 = .ok (.aload_n 0, 1) := by decide +kernel
theorem dL_law_1084 : decode cL_law 1084 = .ok (.iload_n 3, 1) := by decide +kernel
theorem dL_law_1085 : decode cL_law 1085 = .ok (.iconst 1, 1) := by decide +kernel
theorem dL_law_1086 : decode cL_law 1086 = .ok (.iadd, 1) := by decide +kernel
theorem dL_law_1087 : decode cL_law 1087 = .ok (.iaload, 1) := by decide +kernel
theorem dL_law_1088 : decode cL_law 1088 = .ok (.aload_n 0, 1) := by decide +kernel
theorem dL_law_1089 : decode cL_law 1089 = .ok (.iload_n 3, 1) := by decide +kernel
theorem dL_law_1090 : decode cL_law 1090 = .ok (.iconst 2, 1) := by decide +kernel
theorem dL_law_1091 : decode cL_law 1091 = .ok (.iadd, 1) := by decide +kernel
theorem dL_law_1092 : decode cL_law 1092 = .ok (.iaload, 1) := by decide +kernel
theorem dL_law_1093 : decode cL_law 1093 = .ok (.invokevirtual 133, 3) := by decide +kernel
theorem dL_law_1096 : decode cL_law 1096 = .ok (.if_icmp .eq 363, 3) := by decide +kernel
theorem dL_law_1099 : decode cL_law 1099 = .ok (.iconst 0, 1) := by decide +kernel
theorem dL_law_1100 : decode cL_law 1100 = .ok (.ireturn, 1) := by decide +kernel
theorem dL_law_1101 : decode cL_law 1101 = .ok (.aload_n 1, 1) := by decide +kernel
theorem dL_law_1102 : decode cL_law 1102 = .ok (.aload_n 0, 1) := by decide +kernel
theorem dL_law_1103 : decode cL_law 1103 = .ok (.iload_n 3, 1) := by decide +kernel
theorem dL_law_1104 : decode cL_law 1104 = .ok (.iconst 1, 1) := by decide +kernel
theorem dL_law_1105 : decode cL_law 1105 = .ok (.iadd, 1) := by decide +kernel
theorem dL_law_1106 : decode cL_law 1106 = .ok (.iaload, 1) := by decide +kernel
theorem dL_law_1107 : decode cL_law 1107 = .ok (.aload_n 0, 1) := by decide +kernel
theorem dL_law_1108 : decode cL_law 1108 = .ok (.iload_n 3, 1) := by decide +kernel
theorem dL_law_1109 : decode cL_law 1109 = .ok (.iconst 2, 1) := by decide +kernel
theorem dL_law_1110 : decode cL_law 1110 = .ok (.iadd, 1) := by decide +kernel
theorem dL_law_1111 : decode cL_law 1111 = .ok (.iaload, 1) := by decide +kernel
theorem dL_law_1112 : decode cL_law 1112 = .ok (.invokevirtual 134, 3) := by decide +kernel
theorem dL_law_1115 : decode cL_law 1115 = .ok (.aload_n 2, 1) := by decide +kernel
theorem dL_law_1116 : decode cL_law 1116 = .ok (.aload_n 0, 1) := by decide +kernel
theorem dL_law_1117 : decode cL_law 1117 = .ok (.iload_n 3, 1) := by decide +kernel
theorem dL_law_1118 : decode cL_law 1118 = .ok (.iconst 1, 1) := by decide +kernel
theorem dL_law_1119 : decode cL_law 1119 = .ok (.iadd, 1) := by decide +kernel
theorem dL_law_1120 : decode cL_law 1120 = .ok (.iaload, 1) := by decide +kernel
theorem dL_law_1121 : decode cL_law 1121 = .ok (.aload_n 0, 1) := by decide +kernel
theorem dL_law_1122 : decode cL_law 1122 = .ok (.iload_n 3, 1) := by decide +kernel
theorem dL_law_1123 : decode cL_law 1123 = .ok (.iconst 2, 1) := by decide +kernel
theorem dL_law_1124 : decode cL_law 1124 = .ok (.iadd, 1) := by decide +kernel
theorem dL_law_1125 : decode cL_law 1125 = .ok (.iaload, 1) := by decide +kernel
theorem dL_law_1126 : decode cL_law 1126 = .ok (.invokevirtual 137, 3) := by decide +kernel
theorem dL_law_1129 : decode cL_law 1129 = .ok (.if_icmp .eq 330, 3) := by decide +kernel
theorem dL_law_1132 : decode cL_law 1132 = .ok (.iconst 0, 1) := by decide +kernel
theorem dL_law_1133 : decode cL_law 1133 = .ok (.ireturn, 1) := by decide +kernel
theorem dL_law_1134 : decode cL_law 1134 = .ok (.aload_n 1, 1) := by decide +kernel
theorem dL_law_1135 : decode cL_law 1135 = .ok (.aload_n 0, 1) := by decide +kernel
theorem dL_law_1136 : decode cL_law 1136 = .ok (.iload_n 3, 1) := by decide +kernel
theorem dL_law_1137 : decode cL_law 1137 = .ok (.iconst 1, 1) := by decide +kernel
theorem dL_law_1138 : decode cL_law 1138 = .ok (.iadd, 1) := by decide +kernel
theorem dL_law_1139 : decode cL_law 1139 = .ok (.iaload, 1) := by decide +kernel
theorem dL_law_1140 : decode cL_law 1140 = .ok (.aload_n 0, 1) := by decide +kernel
theorem dL_law_1141 : decode cL_law 1141 = .ok (.iload_n 3, 1) := by decide +kernel
theorem dL_law_1142 : decode cL_law 1142 = .ok (.iconst 2, 1) := by decide +kernel
theorem dL_law_1143 : decode cL_law 1143 = .ok (.iadd, 1) := by decide +kernel
theorem dL_law_1144 : decode cL_law 1144 = .ok (.iaload, 1) := by decide +kernel
theorem dL_law_1145 : decode cL_law 1145 = .ok (.invokevirtual 138, 3) := by decide +kernel
theorem dL_law_1148 : decode cL_law 1148 = .ok (.aload_n 2, 1) := by decide +kernel
theorem dL_law_1149 : decode cL_law 1149 = .ok (.aload_n 0, 1) := by decide +kernel
theorem dL_law_1150 : decode cL_law 1150 = .ok (.iload_n 3, 1) := by decide +kernel
theorem dL_law_1151 : decode cL_law 1151 = .ok (.iconst 1, 1) := by decide +kernel
theorem dL_law_1152 : decode cL_law 1152 = .ok (.iadd, 1) := by decide +kernel
theorem dL_law_1153 : decode cL_law 1153 = .ok (.iaload, 1) := by decide +kernel
theorem dL_law_1154 : decode cL_law 1154 = .ok (.aload_n 0, 1) := by decide +kernel
theorem dL_law_1155 : decode cL_law 1155 = .ok (.iload_n 3, 1) := by decide +kernel
theorem dL_law_1156 : decode cL_law 1156 = .ok (.iconst 2, 1) := by decide +kernel
theorem dL_law_1157 : decode cL_law 1157 = .ok (.iadd, 1) := by decide +kernel
theorem dL_law_1158 : decode cL_law 1158 = .ok (.iaload, 1) := by decide +kernel
theorem dL_law_1159 : decode cL_law 1159 = .ok (.invokevirtual 141, 3) := by decide +kernel
theorem dL_law_1162 : decode cL_law 1162 = .ok (.if_icmp .eq 297, 3) := by decide +kernel
theorem dL_law_1165 : decode cL_law 1165 = .ok (.iconst 0, 1) := by decide +kernel
theorem dL_law_1166 : decode cL_law 1166 = .ok (.ireturn, 1) := by decide +kernel
theorem dL_law_1167 : decode cL_law 1167 = .ok (.aload_n 1, 1) := by decide +kernel
theorem dL_law_1168 : decode cL_law 1168 = .ok (.aload_n 0, 1) := by decide +kernel
theorem dL_law_1169 : decode cL_law 1169 = .ok (.iload_n 3, 1) := by decide +kernel
theorem dL_law_1170 : decode cL_law 1170 = .ok (.iconst 1, 1) := by decide +kernel
theorem dL_law_1171 : decode cL_law 1171 = .ok (.iadd, 1) := by decide +kernel
theorem dL_law_1172 : decode cL_law 1172 = .ok (.iaload, 1) := by decide +kernel
theorem dL_law_1173 : decode cL_law 1173 = .ok (.invokevirtual 142, 3) := by decide +kernel
theorem dL_law_1176 : decode cL_law 1176 = .ok (.aload_n 2, 1) := by decide +kernel
theorem dL_law_1177 : decode cL_law 1177 = .ok (.aload_n 0, 1) := by decide +kernel
theorem dL_law_1178 : decode cL_law 1178 = .ok (.iload_n 3, 1) := by decide +kernel
theorem dL_law_1179 : decode cL_law 1179 = .ok (.iconst 1, 1) := by decide +kernel
theorem dL_law_1180 : decode cL_law 1180 = .ok (.iadd, 1) := by decide +kernel
theorem dL_law_1181 : decode cL_law 1181 = .ok (.iaload, 1) := by decide +kernel
theorem dL_law_1182 : decode cL_law 1182 = .ok (.invokevirtual 145, 3) := by decide +kernel
theorem dL_law_1185 : decode cL_law 1185 = .ok (.if_icmp .eq 274, 3) := by decide +kernel
theorem dL_law_1188 : decode cL_law 1188 = .ok (.iconst 0, 1) := by decide +kernel
theorem dL_law_1189 : decode cL_law 1189 = .ok (.ireturn, 1) := by decide +kernel
theorem dL_law_1190 : decode cL_law 1190 = .ok (.aload_n 1, 1) := by decide +kernel
theorem dL_law_1191 : decode cL_law 1191 = .ok (.aload_n 0, 1) := by decide +kernel
theorem dL_law_1192 : decode cL_law 1192 = .ok (.iload_n 3, 1) := by decide +kernel
theorem dL_law_1193 : decode cL_law 1193 = .ok (.iconst 1, 1) := by decide +kernel
theorem dL_law_1194 : decode cL_law 1194 = .ok (.iadd, 1) := by decide +kernel
theorem dL_law_1195 : decode cL_law 1195 = .ok (.iaload, 1) := by decide +kernel
theorem dL_law_1196 : decode cL_law 1196 = .ok (.invokevirtual 146, 3) := by decide +kernel
theorem dL_law_1199 : decode cL_law 1199 = .ok (.aload_n 2, 1) := by decide +kernel
theorem dL_law_1200 : decode cL_law 1200 = .ok (.aload_n 0, 1) := by decide +kernel
theorem dL_law_1201 : decode cL_law 1201 = .ok (.iload_n 3, 1) := by decide +kernel
theorem dL_law_1202 : decode cL_law 1202 = .ok (.iconst 1, 1) := by decide +kernel
theorem dL_law_1203 : decode cL_law 1203 = .ok (.iadd, 1) := by decide +kernel
theorem dL_law_1204 : decode cL_law 1204 = .ok (.iaload, 1) := by decide +kernel
theorem dL_law_1205 : decode cL_law 1205 = .ok (.invokevirtual 149, 3) := by decide +kernel
theorem dL_law_1208 : decode cL_law 1208 = .ok (.if_icmp .eq 251, 3) := by decide +kernel
theorem dL_law_1211 : decode cL_law 1211 = .ok (.iconst 0, 1) := by decide +kernel
theorem dL_law_1212 : decode cL_law 1212 = .ok (.ireturn, 1) := by decide +kernel
theorem dL_law_1213 : decode cL_law 1213 = .ok (.aload_n 1, 1) := by decide +kernel
theorem dL_law_1214 : decode cL_law 1214 = .ok (.aload_n 0, 1) := by decide +kernel
theorem dL_law_1215 : decode cL_law 1215 = .ok (.iload_n 3, 1) := by decide +kernel
theorem dL_law_1216 : decode cL_law 1216 = .ok (.iconst 1, 1) := by decide +kernel
theorem dL_law_1217 : decode cL_law 1217 = .ok (.iadd, 1) := by decide +kernel
theorem dL_law_1218 : decode cL_law 1218 = .ok (.iaload, 1) := by decide +kernel
theorem dL_law_1219 : decode cL_law 1219 = .ok (.aload_n 0, 1) := by decide +kernel
theorem dL_law_1220 : decode cL_law 1220 = .ok (.iload_n 3, 1) := by decide +kernel
theorem dL_law_1221 : decode cL_law 1221 = .ok (.iconst 2, 1) := by decide +kernel
theorem dL_law_1222 : decode cL_law 1222 = .ok (.iadd, 1) := by decide +kernel
theorem dL_law_1223 : decode cL_law 1223 = .ok (.iaload, 1) := by decide +kernel
theorem dL_law_1224 : decode cL_law 1224 = .ok (.aload_n 0, 1) := by decide +kernel
theorem dL_law_1225 : decode cL_law 1225 = .ok (.iload_n 3, 1) := by decide +kernel
theorem dL_law_1226 : decode cL_law 1226 = .ok (.iconst 3, 1) := by decide +kernel
theorem dL_law_1227 : decode cL_law 1227 = .ok (.iadd, 1) := by decide +kernel
theorem dL_law_1228 : decode cL_law 1228 = .ok (.iaload, 1) := by decide +kernel
theorem dL_law_1229 : decode cL_law 1229 = .ok (.invokevirtual 150, 3) := by decide +kernel
theorem dL_law_1232 : decode cL_law 1232 = .ok (.aload_n 2, 1) := by decide +kernel
theorem dL_law_1233 : decode cL_law 1233 = .ok (.aload_n 0, 1) := by decide +kernel
theorem dL_law_1234 : decode cL_law 1234 = .ok (.iload_n 3, 1) := by decide +kernel
theorem dL_law_1235 : decode cL_law 1235 = .ok (.iconst 1, 1) := by decide +kernel
theorem dL_law_1236 : decode cL_law 1236 = .ok (.iadd, 1) := by decide +kernel
theorem dL_law_1237 : decode cL_law 1237 = .ok (.iaload, 1) := by decide +kernel
theorem dL_law_1238 : decode cL_law 1238 = .ok (.aload_n 0, 1) := by decide +kernel
theorem dL_law_1239 : decode cL_law 1239 = .ok (.iload_n 3, 1) := by decide +kernel
theorem dL_law_1240 : decode cL_law 1240 = .ok (.iconst 2, 1) := by decide +kernel
theorem dL_law_1241 : decode cL_law 1241 = .ok (.iadd, 1) := by decide +kernel
theorem dL_law_1242 : decode cL_law 1242 = .ok (.iaload, 1) := by decide +kernel
theorem dL_law_1243 : decode cL_law 1243 = .ok (.aload_n 0, 1) := by decide +kernel
theorem dL_law_1244 : decode cL_law 1244 = .ok (.iload_n 3, 1) := by decide +kernel
theorem dL_law_1245 : decode cL_law 1245 = .ok (.iconst 3, 1) := by decide +kernel
theorem dL_law_1246 : decode cL_law 1246 = .ok (.iadd, 1) := by decide +kernel
theorem dL_law_1247 : decode cL_law 1247 = .ok (.iaload, 1) := by decide +kernel
theorem dL_law_1248 : decode cL_law 1248 = .ok (.invokevirtual 153, 3) := by decide +kernel
theorem dL_law_1251 : decode cL_law 1251 = .ok (.if_icmp .eq 208, 3) := by decide +kernel
theorem dL_law_1254 : decode cL_law 1254 = .ok (.iconst 0, 1) := by decide +kernel
theorem dL_law_1255 : decode cL_law 1255 = .ok (.ireturn, 1) := by decide +kernel
theorem dL_law_1256 : decode cL_law 1256 = .ok (.aload_n 1, 1) := by decide +kernel
theorem dL_law_1257 : decode cL_law 1257 = .ok (.aload_n 0, 1) := by decide +kernel
theorem dL_law_1258 : decode cL_law 1258 = .ok (.iload_n 3, 1) := by decide +kernel
theorem dL_law_1259 : decode cL_law 1259 = .ok (.iconst 1, 1) := by decide +kernel
theorem dL_law_1260 : decode cL_law 1260 = .ok (.iadd, 1) := by decide +kernel
theorem dL_law_1261 : decode cL_law 1261 = .ok (.iaload, 1) := by decide +kernel
theorem dL_law_1262 : decode cL_law 1262 = .ok (.aload_n 0, 1) := by decide +kernel
theorem dL_law_1263 : decode cL_law 1263 = .ok (.iload_n 3, 1) := by decide +kernel
theorem dL_law_1264 : decode cL_law 1264 = .ok (.iconst 2, 1) := by decide +kernel
theorem dL_law_1265 : decode cL_law 1265 = .ok (.iadd, 1) := by decide +kernel
theorem dL_law_1266 : decode cL_law 1266 = .ok (.iaload, 1) := by decide +kernel
theorem dL_law_1267 : decode cL_law 1267 = .ok (.invokevirtual 154, 3) := by decide +kernel
theorem dL_law_1270 : decode cL_law 1270 = .ok (.aload_n 2, 1) := by decide +kernel
theorem dL_law_1271 : decode cL_law 1271 = .ok (.aload_n 0, 1) := by decide +kernel
theorem dL_law_1272 : decode cL_law 1272 = .ok (.iload_n 3, 1) := by decide +kernel
theorem dL_law_1273 : decode cL_law 1273 = .ok (.iconst 1, 1) := by decide +kernel
theorem dL_law_1274 : decode cL_law 1274 = .ok (.iadd, 1) := by decide +kernel
theorem dL_law_1275 : decode cL_law 1275 = .ok (.iaload, 1) := by decide +kernel
theorem dL_law_1276 : decode cL_law 1276 = .ok (.aload_n 0, 1) := by decide +kernel
theorem dL_law_1277 : decode cL_law 1277 = .ok (.iload_n 3, 1) := by decide +kernel
theorem dL_law_1278 : decode cL_law 1278 = .ok (.iconst 2, 1) := by decide +kernel
theorem dL_law_1279 : decode cL_law 1279 = .ok (.iadd, 1) := by decide +kernel
theorem dL_law_1280 : decode cL_law 1280 = .ok (.iaload, 1) := by decide +kernel
theorem dL_law_1281 : decode cL_law 1281 = .ok (.invokevirtual 157, 3) := by decide +kernel
theorem dL_law_1284 : decode cL_law 1284 = .ok (.if_icmp .eq 175, 3) := by decide +kernel
theorem dL_law_1287 : decode cL_law 1287 = .ok (.iconst 0, 1) := by decide +kernel
theorem dL_law_1288 : decode cL_law 1288 = .ok (.ireturn, 1) := by decide +kernel
theorem dL_law_1289 : decode cL_law 1289 = .ok (.aload_n 1, 1) := by decide +kernel
theorem dL_law_1290 : decode cL_law 1290 = .ok (.aload_n 0, 1) := by decide +kernel
theorem dL_law_1291 : decode cL_law 1291 = .ok (.iload_n 3, 1) := by decide +kernel
theorem dL_law_1292 : decode cL_law 1292 = .ok (.iconst 1, 1) := by decide +kernel
theorem dL_law_1293 : decode cL_law 1293 = .ok (.iadd, 1) := by decide +kernel
theorem dL_law_1294 : decode cL_law 1294 = .ok (.iaload, 1) := by decide +kernel
theorem dL_law_1295 : decode cL_law 1295 = .ok (.invokevirtual 158, 3) := by decide +kernel
theorem dL_law_1298 : decode cL_law 1298 = .ok (.aload_n 2, 1) := by decide +kernel
theorem dL_law_1299 : decode cL_law 1299 = .ok (.aload_n 0, 1) := by decide +kernel
theorem dL_law_1300 : decode cL_law 1300 = .ok (.iload_n 3, 1) := by decide +kernel
theorem dL_law_1301 : decode cL_law 1301 = .ok (.iconst 1, 1) := by decide +kernel
theorem dL_law_1302 : decode cL_law 1302 = .ok (.iadd, 1) := by decide +kernel
theorem dL_law_1303 : decode cL_law 1303 = .ok (.iaload, 1) := by decide +kernel
theorem dL_law_1304 : decode cL_law 1304 = .ok (.invokevirtual 161, 3) := by decide +kernel
theorem dL_law_1307 : decode cL_law 1307 = .ok (.if_icmp .eq 152, 3) := by decide +kernel
theorem dL_law_1310 : decode cL_law 1310 = .ok (.iconst 0, 1) := by decide +kernel
theorem dL_law_1311 : decode cL_law 1311 = .ok (.ireturn, 1) := by decide +kernel
theorem dL_law_1312 : decode cL_law 1312 = .ok (.aload_n 1, 1) := by decide +kernel
theorem dL_law_1313 : decode cL_law 1313 = .ok (.aload_n 0, 1) := by decide +kernel
theorem dL_law_1314 : decode cL_law 1314 = .ok (.iload_n 3, 1) := by decide +kernel
theorem dL_law_1315 : decode cL_law 1315 = .ok (.iconst 1, 1) := by decide +kernel
theorem dL_law_1316 : decode cL_law 1316 = .ok (.iadd, 1) := by decide +kernel
theorem dL_law_1317 : decode cL_law 1317 = .ok (.iaload, 1) := by decide +kernel
theorem dL_law_1318 : decode cL_law 1318 = .ok (.aload_n 0, 1) := by decide +kernel
theorem dL_law_1319 : decode cL_law 1319 = .ok (.iload_n 3, 1) := by decide +kernel
theorem dL_law_1320 : decode cL_law 1320 = .ok (.iconst 2, 1) := by decide +kernel
theorem dL_law_1321 : decode cL_law 1321 = .ok (.iadd, 1) := by decide +kernel
theorem dL_law_1322 : decode cL_law 1322 = .ok (.iaload, 1) := by decide +kernel
theorem dL_law_1323 : decode cL_law 1323 = .ok (.invokevirtual 162, 3) := by decide +kernel
theorem dL_law_1326 : decode cL_law 1326 = .ok (.aload_n 2, 1) := by decide +kernel
theorem dL_law_1327 : decode cL_law 1327 = .ok (.aload_n 0, 1) := by decide +kernel
theorem dL_law_1328 : decode cL_law 1328 = .ok (.iload_n 3, 1) := by decide +kernel
theorem dL_law_1329 : decode cL_law 1329 = .ok (.iconst 1, 1) := by decide +kernel
theorem dL_law_1330 : decode cL_law 1330 = .ok (.iadd, 1) := by decide +kernel
theorem dL_law_1331 : decode cL_law 1331 = .ok (.iaload, 1) := by decide +kernel
theorem dL_law_1332 : decode cL_law 1332 = .ok (.aload_n 0, 1) := by decide +kernel
theorem dL_law_1333 : decode cL_law 1333 = .ok (.iload_n 3, 1) := by decide +kernel
theorem dL_law_1334 : decode cL_law 1334 = .ok (.iconst 2, 1) := by decide +kernel
theorem dL_law_1335 : decode cL_law 1335 = .ok (.iadd, 1) := by decide +kernel
theorem dL_law_1336 : decode cL_law 1336 = .ok (.iaload, 1) := by decide +kernel
theorem dL_law_1337 : decode cL_law 1337 = .ok (.invokevirtual 165, 3) := by decide +kernel
theorem dL_law_1340 : decode cL_law 1340 = .ok (.if_icmp .eq 119, 3) := by decide +kernel
theorem dL_law_1343 : decode cL_law 1343 = .ok (.iconst 0, 1) := by decide +kernel
theorem dL_law_1344 : decode cL_law 1344 = .ok (.ireturn, 1) := by decide +kernel
theorem dL_law_1345 : decode cL_law 1345 = .ok (.aload_n 1, 1) := by decide +kernel
theorem dL_law_1346 : decode cL_law 1346 = .ok (.invokevirtual 166, 3) := by decide +kernel
theorem dL_law_1349 : decode cL_law 1349 = .ok (.aload_n 2, 1) := by decide +kernel
theorem dL_law_1350 : decode cL_law 1350 = .ok (.invokevirtual 169, 3) := by decide +kernel
theorem dL_law_1353 : decode cL_law 1353 = .ok (.if_icmp .eq 106, 3) := by decide +kernel
theorem dL_law_1356 : decode cL_law 1356 = .ok (.iconst 0, 1) := by decide +kernel
theorem dL_law_1357 : decode cL_law 1357 = .ok (.ireturn, 1) := by decide +kernel
theorem dL_law_1358 : decode cL_law 1358 = .ok (.aload_n 1, 1) := by decide +kernel
theorem dL_law_1359 : decode cL_law 1359 = .ok (.invokevirtual 170, 3) := by decide +kernel
theorem dL_law_1362 : decode cL_law 1362 = .ok (.aload_n 2, 1) := by decide +kernel
theorem dL_law_1363 : decode cL_law 1363 = .ok (.invokevirtual 174, 3) := by decide +kernel
theorem dL_law_1366 : decode cL_law 1366 = .ok (.lcmp, 1) := by decide +kernel
theorem dL_law_1367 : decode cL_law 1367 = .ok (.ifCond .eq 92, 3) := by decide +kernel
theorem dL_law_1370 : decode cL_law 1370 = .ok (.iconst 0, 1) := by decide +kernel
theorem dL_law_1371 : decode cL_law 1371 = .ok (.ireturn, 1) := by decide +kernel
theorem dL_law_1372 : decode cL_law 1372 = .ok (.aload_n 1, 1) := by decide +kernel
theorem dL_law_1373 : decode cL_law 1373 = .ok (.invokevirtual 175, 3) := by decide +kernel
theorem dL_law_1376 : decode cL_law 1376 = .ok (.aload_n 2, 1) := by decide +kernel
theorem dL_law_1377 : decode cL_law 1377 = .ok (.invokevirtual 178, 3) := by decide +kernel
theorem dL_law_1380 : decode cL_law 1380 = .ok (.lcmp, 1) := by decide +kernel
theorem dL_law_1381 : decode cL_law 1381 = .ok (.ifCond .eq 78, 3) := by decide +kernel
theorem dL_law_1384 : decode cL_law 1384 = .ok (.iconst 0, 1) := by decide +kernel
theorem dL_law_1385 : decode cL_law 1385 = .ok (.ireturn, 1) := by decide +kernel
theorem dL_law_1386 : decode cL_law 1386 = .ok (.aload_n 1, 1) := by decide +kernel
theorem dL_law_1387 : decode cL_law 1387 = .ok (.aload_n 0, 1) := by decide +kernel
theorem dL_law_1388 : decode cL_law 1388 = .ok (.iload_n 3, 1) := by decide +kernel
theorem dL_law_1389 : decode cL_law 1389 = .ok (.iconst 1, 1) := by decide +kernel
theorem dL_law_1390 : decode cL_law 1390 = .ok (.iadd, 1) := by decide +kernel
theorem dL_law_1391 : decode cL_law 1391 = .ok (.iaload, 1) := by decide +kernel
theorem dL_law_1392 : decode cL_law 1392 = .ok (.invokevirtual 179, 3) := by decide +kernel
theorem dL_law_1395 : decode cL_law 1395 = .ok (.aload_n 2, 1) := by decide +kernel
theorem dL_law_1396 : decode cL_law 1396 = .ok (.aload_n 0, 1) := by decide +kernel
theorem dL_law_1397 : decode cL_law 1397 = .ok (.iload_n 3, 1) := by decide +kernel
theorem dL_law_1398 : decode cL_law 1398 = .ok (.iconst 1, 1) := by decide +kernel
theorem dL_law_1399 : decode cL_law 1399 = .ok (.iadd, 1) := by decide +kernel
theorem dL_law_1400 : decode cL_law 1400 = .ok (.iaload, 1) := by decide +kernel
theorem dL_law_1401 : decode cL_law 1401 = .ok (.invokevirtual 182, 3) := by decide +kernel
theorem dL_law_1404 : decode cL_law 1404 = .ok (.if_icmp .eq 55, 3) := by decide +kernel
theorem dL_law_1407 : decode cL_law 1407 = .ok (.iconst 0, 1) := by decide +kernel
theorem dL_law_1408 : decode cL_law 1408 = .ok (.ireturn, 1) := by decide +kernel
theorem dL_law_1409 : decode cL_law 1409 = .ok (.aload_n 1, 1) := by decide +kernel
theorem dL_law_1410 : decode cL_law 1410 = .ok (.invokevirtual 183, 3) := by decide +kernel
theorem dL_law_1413 : decode cL_law 1413 = .ok (.aload_n 2, 1) := by decide +kernel
theorem dL_law_1414 : decode cL_law 1414 = .ok (.invokevirtual 186, 3) := by decide +kernel
theorem dL_law_1417 : decode cL_law 1417 = .ok (.if_icmp .eq 42, 3) := by decide +kernel
theorem dL_law_1420 : decode cL_law 1420 = .ok (.iconst 0, 1) := by decide +kernel
theorem dL_law_1421 : decode cL_law 1421 = .ok (.ireturn, 1) := by decide +kernel
theorem dL_law_1422 : decode cL_law 1422 = .ok (.aload_n 1, 1) := by decide +kernel
theorem dL_law_1423 : decode cL_law 1423 = .ok (.aload_n 0, 1) := by decide +kernel
theorem dL_law_1424 : decode cL_law 1424 = .ok (.iload_n 3, 1) := by decide +kernel
theorem dL_law_1425 : decode cL_law 1425 = .ok (.iconst 1, 1) := by decide +kernel
theorem dL_law_1426 : decode cL_law 1426 = .ok (.iadd, 1) := by decide +kernel
theorem dL_law_1427 : decode cL_law 1427 = .ok (.iaload, 1) := by decide +kernel
theorem dL_law_1428 : decode cL_law 1428 = .ok (.invokevirtual 187, 3) := by decide +kernel
theorem dL_law_1431 : decode cL_law 1431 = .ok (.aload_n 2, 1) := by decide +kernel
theorem dL_law_1432 : decode cL_law 1432 = .ok (.aload_n 0, 1) := by decide +kernel
theorem dL_law_1433 : decode cL_law 1433 = .ok (.iload_n 3, 1) := by decide +kernel
theorem dL_law_1434 : decode cL_law 1434 = .ok (.iconst 1, 1) := by decide +kernel
theorem dL_law_1435 : decode cL_law 1435 = .ok (.iadd, 1) := by decide +kernel
theorem dL_law_1436 : decode cL_law 1436 = .ok (.iaload, 1) := by decide +kernel
theorem dL_law_1437 : decode cL_law 1437 = .ok (.invokevirtual 190, 3) := by decide +kernel
theorem dL_law_1440 : decode cL_law 1440 = .ok (.if_icmp .eq 19, 3) := by decide +kernel
theorem dL_law_1443 : decode cL_law 1443 = .ok (.iconst 0, 1) := by decide +kernel
theorem dL_law_1444 : decode cL_law 1444 = .ok (.ireturn, 1) := by decide +kernel
theorem dL_law_1445 : decode cL_law 1445 = .ok (.aload_n 1, 1) := by decide +kernel
theorem dL_law_1446 : decode cL_law 1446 = .ok (.invokevirtual 191, 3) := by decide +kernel
theorem dL_law_1449 : decode cL_law 1449 = .ok (.aload_n 2, 1) := by decide +kernel
theorem dL_law_1450 : decode cL_law 1450 = .ok (.invokevirtual 194, 3) := by decide +kernel
theorem dL_law_1453 : decode cL_law 1453 = .ok (.lcmp, 1) := by decide +kernel
theorem dL_law_1454 : decode cL_law 1454 = .ok (.ifCond .eq 5, 3) := by decide +kernel
theorem dL_law_1457 : decode cL_law 1457 = .ok (.iconst 0, 1) := by decide +kernel
theorem dL_law_1458 : decode cL_law 1458 = .ok (.ireturn, 1) := by decide +kernel
theorem dL_law_1459 : decode cL_law 1459 = .ok (.iinc 3 6, 3) := by decide +kernel
theorem dL_law_1462 : decode cL_law 1462 = .ok (.goto (-1444), 3) := by decide +kernel
theorem dL_law_1465 : decode cL_law 1465 = .ok (.iconst 1, 1) := by decide +kernel
theorem dL_law_1466 : decode cL_law 1466 = .ok (.ireturn, 1) := by decide +kernel
