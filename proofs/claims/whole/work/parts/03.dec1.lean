theorem dX0_init_0 : decode cX0_init 0 = .ok (.aload_n 0, 1) := by decide +kernel
theorem dX0_init_1 : decode cX0_init 1 = .ok (.invokespecial 1, 3) := by decide +kernel
theorem dX0_init_4 : decode cX0_init 4 = .ok (.return_, 1) := by decide +kernel
theorem dX0_partOf_0 : decode cX0_partOf 0 = .ok (.bipush 9, 2) := by decide +kernel
theorem dX0_partOf_2 : decode cX0_partOf 2 = .ok (.iload_n 1, 1) := by decide +kernel
theorem dX0_partOf_3 : decode cX0_partOf 3 = .ok (.invokestatic 7, 3) := by decide +kernel
theorem dX0_partOf_6 : decode cX0_partOf 6 = .ok (.ireturn, 1) := by decide +kernel
theorem dX1_init_0 : decode cX1_init 0 = .ok (.aload_n 0, 1) := by decide +kernel
theorem dX1_init_1 : decode cX1_init 1 = .ok (.invokespecial 1, 3) := by decide +kernel
theorem dX1_init_4 : decode cX1_init 4 = .ok (.return_, 1) := by decide +kernel
theorem dX1_leftByRain_0 : decode cX1_leftByRain 0 = .ok (.iload_n 1, 1) := by decide +kernel
theorem dX1_leftByRain_1 : decode cX1_leftByRain 1 = .ok (.ireturn, 1) := by decide +kernel
theorem dX2_init_0 : decode cX2_init 0 = .ok (.aload_n 0, 1) := by decide +kernel
theorem dX2_init_1 : decode cX2_init 1 = .ok (.invokespecial 1, 3) := by decide +kernel
theorem dX2_init_4 : decode cX2_init 4 = .ok (.return_, 1) := by decide +kernel
theorem dX2_breath_0 : decode cX2_breath 0 = .ok (.iconst 3, 1) := by decide +kernel
theorem dX2_breath_1 : decode cX2_breath 1 = .ok (.ireturn, 1) := by decide +kernel
theorem dX3_init_0 : decode cX3_init 0 = .ok (.aload_n 0, 1) := by decide +kernel
theorem dX3_init_1 : decode cX3_init 1 = .ok (.invokespecial 3, 3) := by decide +kernel
theorem dX3_init_4 : decode cX3_init 4 = .ok (.aload_n 0, 1) := by decide +kernel
theorem dX3_init_5 : decode cX3_init 5 = .ok (.bipush 40, 2) := by decide +kernel
theorem dX3_init_7 : decode cX3_init 7 = .ok (.newarray .int, 2) := by decide +kernel
theorem dX3_init_9 : decode cX3_init 9 = .ok (.putfield 9, 3) := by decide +kernel
theorem dX3_init_12 : decode cX3_init 12 = .ok (.aload_n 0, 1) := by decide +kernel
theorem dX3_init_13 : decode cX3_init 13 = .ok (.iload_n 1, 1) := by decide +kernel
theorem dX3_init_14 : decode cX3_init 14 = .ok (.putfield 15, 3) := by decide +kernel
theorem dX3_init_17 : decode cX3_init 17 = .ok (.return_, 1) := by decide +kernel
theorem dX3_isFull_0 : decode cX3_isFull 0 = .ok (.aload_n 0, 1) := by decide +kernel
theorem dX3_isFull_1 : decode cX3_isFull 1 = .ok (.getfield 15, 3) := by decide +kernel
theorem dX3_isFull_4 : decode cX3_isFull 4 = .ok (.bipush 40, 2) := by decide +kernel
theorem dX3_isFull_6 : decode cX3_isFull 6 = .ok (.if_icmp .lt 7, 3) := by decide +kernel
theorem dX3_isFull_9 : decode cX3_isFull 9 = .ok (.iconst 1, 1) := by decide +kernel
theorem dX3_isFull_10 : decode cX3_isFull 10 = .ok (.goto 4, 3) := by decide +kernel
theorem dX3_isFull_13 : decode cX3_isFull 13 = .ok (.iconst 0, 1) := by decide +kernel
theorem dX3_isFull_14 : decode cX3_isFull 14 = .ok (.ireturn, 1) := by decide +kernel
theorem dX3_add_0 : decode cX3_add 0 = .ok (.aload_n 0, 1) := by decide +kernel
theorem dX3_add_1 : decode cX3_add 1 = .ok (.invokevirtual 19, 3) := by decide +kernel
theorem dX3_add_4 : decode cX3_add 4 = .ok (.ifCond .eq 4, 3) := by decide +kernel
theorem dX3_add_7 : decode cX3_add 7 = .ok (.return_, 1) := by decide +kernel
theorem dX3_add_8 : decode cX3_add 8 = .ok (.aload_n 0, 1) := by decide +kernel
theorem dX3_add_9 : decode cX3_add 9 = .ok (.getfield 9, 3) := by decide +kernel
theorem dX3_add_12 : decode cX3_add 12 = .ok (.aload_n 0, 1) := by decide +kernel
theorem dX3_add_13 : decode cX3_add 13 = .ok (.getfield 15, 3) := by decide +kernel
theorem dX3_add_16 : decode cX3_add 16 = .ok (.iload_n 1, 1) := by decide +kernel
theorem dX3_add_17 : decode cX3_add 17 = .ok (.iastore, 1) := by decide +kernel
theorem dX3_add_18 : decode cX3_add 18 = .ok (.aload_n 0, 1) := by decide +kernel
theorem dX3_add_19 : decode cX3_add 19 = .ok (.dup, 1) := by decide +kernel
theorem dX3_add_20 : decode cX3_add 20 = .ok (.getfield 15, 3) := by decide +kernel
theorem dX3_add_23 : decode cX3_add 23 = .ok (.iconst 1, 1) := by decide +kernel
theorem dX3_add_24 : decode cX3_add 24 = .ok (.iadd, 1) := by decide +kernel
theorem dX3_add_25 : decode cX3_add 25 = .ok (.putfield 15, 3) := by decide +kernel
theorem dX3_add_28 : decode cX3_add 28 = .ok (.return_, 1) := by decide +kernel
theorem dX3_become_0 : decode cX3_become 0 = .ok (.aload_n 1, 1) := by decide +kernel
theorem dX3_become_1 : decode cX3_become 1 = .ok (.getfield 9, 3) := by decide +kernel
theorem dX3_become_4 : decode cX3_become 4 = .ok (.iconst 0, 1) := by decide +kernel
theorem dX3_become_5 : decode cX3_become 5 = .ok (.aload_n 0, 1) := by decide +kernel
theorem dX3_become_6 : decode cX3_become 6 = .ok (.getfield 9, 3) := by decide +kernel
theorem dX3_become_9 : decode cX3_become 9 = .ok (.iconst 0, 1) := by decide +kernel
theorem dX3_become_10 : decode cX3_become 10 = .ok (.bipush 40, 2) := by decide +kernel
theorem dX3_become_12 : decode cX3_become 12 = .ok (.invokestatic 23, 3) := by decide +kernel
theorem dX3_become_15 : decode cX3_become 15 = .ok (.aload_n 0, 1) := by decide +kernel
theorem dX3_become_16 : decode cX3_become 16 = .ok (.aload_n 1, 1) := by decide +kernel
theorem dX3_become_17 : decode cX3_become 17 = .ok (.getfield 15, 3) := by decide +kernel
theorem dX3_become_20 : decode cX3_become 20 = .ok (.putfield 15, 3) := by decide +kernel
theorem dX3_become_23 : decode cX3_become 23 = .ok (.return_, 1) := by decide +kernel
theorem dX4_init_0 : decode cX4_init 0 = .ok (.aload_n 0, 1) := by decide +kernel
theorem dX4_init_1 : decode cX4_init 1 = .ok (.invokespecial 3, 3) := by decide +kernel
theorem dX4_init_4 : decode cX4_init 4 = .ok (.aload_n 0, 1) := by decide +kernel
theorem dX4_init_5 : decode cX4_init 5 = .ok (.bipush 6, 2) := by decide +kernel
theorem dX4_init_7 : decode cX4_init 7 = .ok (.newarray .int, 2) := by decide +kernel
theorem dX4_init_9 : decode cX4_init 9 = .ok (.putfield 9, 3) := by decide +kernel
theorem dX4_init_12 : decode cX4_init 12 = .ok (.aload_n 0, 1) := by decide +kernel
theorem dX4_init_13 : decode cX4_init 13 = .ok (.bipush 6, 2) := by decide +kernel
theorem dX4_init_15 : decode cX4_init 15 = .ok (.newarray .int, 2) := by decide +kernel
theorem dX4_init_17 : decode cX4_init 17 = .ok (.putfield 15, 3) := by decide +kernel
theorem dX4_init_20 : decode cX4_init 20 = .ok (.aload_n 0, 1) := by decide +kernel
theorem dX4_init_21 : decode cX4_init 21 = .ok (.bipush 6, 2) := by decide +kernel
theorem dX4_init_23 : decode cX4_init 23 = .ok (.newarray .int, 2) := by decide +kernel
theorem dX4_init_25 : decode cX4_init 25 = .ok (.putfield 18, 3) := by decide +kernel
theorem dX4_init_28 : decode cX4_init 28 = .ok (.aload_n 0, 1) := by decide +kernel
theorem dX4_init_29 : decode cX4_init 29 = .ok (.iconst 0, 1) := by decide +kernel
theorem dX4_init_30 : decode cX4_init 30 = .ok (.putfield 21, 3) := by decide +kernel
theorem dX4_init_33 : decode cX4_init 33 = .ok (.aload_n 0, 1) := by decide +kernel
theorem dX4_init_34 : decode cX4_init 34 = .ok (.iconst 0, 1) := by decide +kernel
theorem dX4_init_35 : decode cX4_init 35 = .ok (.putfield 25, 3) := by decide +kernel
theorem dX4_init_38 : decode cX4_init 38 = .ok (.aload_n 0, 1) := by decide +kernel
theorem dX4_init_39 : decode cX4_init 39 = .ok (.iconst 0, 1) := by decide +kernel
theorem dX4_init_40 : decode cX4_init 40 = .ok (.putfield 28, 3) := by decide +kernel
theorem dX4_init_43 : decode cX4_init 43 = .ok (.aload_n 0, 1) := by decide +kernel
theorem dX4_init_44 : decode cX4_init 44 = .ok (.iconst 0, 1) := by decide +kernel
theorem dX4_init_45 : decode cX4_init 45 = .ok (.putfield 31, 3) := by decide +kernel
theorem dX4_init_48 : decode cX4_init 48 = .ok (.aload_n 0, 1) := by decide +kernel
theorem dX4_init_49 : decode cX4_init 49 = .ok (.iconst 0, 1) := by decide +kernel
theorem dX4_init_50 : decode cX4_init 50 = .ok (.putfield 34, 3) := by decide +kernel
theorem dX4_init_53 : decode cX4_init 53 = .ok (.aload_n 0, 1) := by decide +kernel
theorem dX4_init_54 : decode cX4_init 54 = .ok (.iconst 1, 1) := by decide +kernel
theorem dX4_init_55 : decode cX4_init 55 = .ok (.putfield 37, 3) := by decide +kernel
theorem dX4_init_58 : decode cX4_init 58 = .ok (.aload_n 0, 1) := by decide +kernel
theorem dX4_init_59 : decode cX4_init 59 = .ok (.iconst 0, 1) := by decide +kernel
theorem dX4_init_60 : decode cX4_init 60 = .ok (.putfield 40, 3) := by decide +kernel
theorem dX4_init_63 : decode cX4_init 63 = .ok (.aload_n 0, 1) := by decide +kernel
theorem dX4_init_64 : decode cX4_init 64 = .ok (.iconst 0, 1) := by decide +kernel
theorem dX4_init_65 : decode cX4_init 65 = .ok (.putfield 43, 3) := by decide +kernel
theorem dX4_init_68 : decode cX4_init 68 = .ok (.aload_n 0, 1) := by decide +kernel
theorem dX4_init_69 : decode cX4_init 69 = .ok (.aload_n 1, 1) := by decide +kernel
theorem dX4_init_70 : decode cX4_init 70 = .ok (.putfield 46, 3) := by decide +kernel
theorem dX4_init_73 : decode cX4_init 73 = .ok (.return_, 1) := by decide +kernel
theorem dX4_become_0 : decode cX4_become 0 = .ok (.iconst 0, 1) := by decide +kernel
theorem dX4_become_1 : decode cX4_become 1 = .ok (.istore_n 2, 1) := by decide +kernel
theorem dX4_become_2 : decode cX4_become 2 = .ok (.iload_n 2, 1) := by decide +kernel
theorem dX4_become_3 : decode cX4_become 3 = .ok (.bipush 6, 2) := by decide +kernel
theorem dX4_become_5 : decode cX4_become 5 = .ok (.if_icmp .ge 45, 3) := by decide +kernel
theorem dX4_become_8 : decode cX4_become 8 = .ok (.aload_n 0, 1) := by decide +kernel
theorem dX4_become_9 : decode cX4_become 9 = .ok (.getfield 9, 3) := by decide +kernel
theorem dX4_become_12 : decode cX4_become 12 = .ok (.iload_n 2, 1) := by decide +kernel
theorem dX4_become_13 : decode cX4_become 13 = .ok (.aload_n 1, 1) := by decide +kernel
theorem dX4_become_14 : decode cX4_become 14 = .ok (.getfield 9, 3) := by decide +kernel
theorem dX4_become_17 : decode cX4_become 17 = .ok (.iload_n 2, 1) := by decide +kernel
theorem dX4_become_18 : decode cX4_become 18 = .ok (.iaload, 1) := by decide +kernel
theorem dX4_become_19 : decode cX4_become 19 = .ok (.iastore, 1) := by decide +kernel
theorem dX4_become_20 : decode cX4_become 20 = .ok (.aload_n 0, 1) := by decide +kernel
theorem dX4_become_21 : decode cX4_become 21 = .ok (.getfield 15, 3) := by decide +kernel
theorem dX4_become_24 : decode cX4_become 24 = .ok (.iload_n 2, 1) := by decide +kernel
theorem dX4_become_25 : decode cX4_become 25 = .ok (.aload_n 1, 1) := by decide +kernel
theorem dX4_become_26 : decode cX4_become 26 = .ok (.getfield 15, 3) := by decide +kernel
theorem dX4_become_29 : decode cX4_become 29 = .ok (.iload_n 2, 1) := by decide +kernel
theorem dX4_become_30 : decode cX4_become 30 = .ok (.iaload, 1) := by decide +kernel
theorem dX4_become_31 : decode cX4_become 31 = .ok (.iastore, 1) := by decide +kernel
theorem dX4_become_32 : decode cX4_become 32 = .ok (.aload_n 0, 1) := by decide +kernel
theorem dX4_become_33 : decode cX4_become 33 = .ok (.getfield 18, 3) := by decide +kernel
theorem dX4_become_36 : decode cX4_become 36 = .ok (.iload_n 2, 1) := by decide +kernel
theorem dX4_become_37 : decode cX4_become 37 = .ok (.aload_n 1, 1) := by decide +kernel
theorem dX4_become_38 : decode cX4_become 38 = .ok (.getfield 18, 3) := by decide +kernel
theorem dX4_become_41 : decode cX4_become 41 = .ok (.iload_n 2, 1) := by decide +kernel
theorem dX4_become_42 : decode cX4_become 42 = .ok (.iaload, 1) := by decide +kernel
theorem dX4_become_43 : decode cX4_become 43 = .ok (.iastore, 1) := by decide +kernel
theorem dX4_become_44 : decode cX4_become 44 = .ok (.iinc 2 1, 3) := by decide +kernel
theorem dX4_become_47 : decode cX4_become 47 = .ok (.goto (-45), 3) := by decide +kernel
theorem dX4_become_50 : decode cX4_become 50 = .ok (.aload_n 0, 1) := by decide +kernel
theorem dX4_become_51 : decode cX4_become 51 = .ok (.aload_n 1, 1) := by decide +kernel
theorem dX4_become_52 : decode cX4_become 52 = .ok (.getfield 21, 3) := by decide +kernel
theorem dX4_become_55 : decode cX4_become 55 = .ok (.putfield 21, 3) := by decide +kernel
theorem dX4_become_58 : decode cX4_become 58 = .ok (.aload_n 0, 1) := by decide +kernel
theorem dX4_become_59 : decode cX4_become 59 = .ok (.aload_n 1, 1) := by decide +kernel
theorem dX4_become_60 : decode cX4_become 60 = .ok (.getfield 25, 3) := by decide +kernel
theorem dX4_become_63 : decode cX4_become 63 = .ok (.putfield 25, 3) := by decide +kernel
theorem dX4_become_66 : decode cX4_become 66 = .ok (.aload_n 0, 1) := by decide +kernel
theorem dX4_become_67 : decode cX4_become 67 = .ok (.aload_n 1, 1) := by decide +kernel
theorem dX4_become_68 : decode cX4_become 68 = .ok (.getfield 28, 3) := by decide +kernel
theorem dX4_become_71 : decode cX4_become 71 = .ok (.putfield 28, 3) := by decide +kernel
theorem dX4_become_74 : decode cX4_become 74 = .ok (.aload_n 0, 1) := by decide +kernel
theorem dX4_become_75 : decode cX4_become 75 = .ok (.aload_n 1, 1) := by decide +kernel
theorem dX4_become_76 : decode cX4_become 76 = .ok (.getfield 31, 3) := by decide +kernel
theorem dX4_become_79 : decode cX4_become 79 = .ok (.putfield 31, 3) := by decide +kernel
theorem dX4_become_82 : decode cX4_become 82 = .ok (.aload_n 0, 1) := by decide +kernel
theorem dX4_become_83 : decode cX4_become 83 = .ok (.aload_n 1, 1) := by decide +kernel
theorem dX4_become_84 : decode cX4_become 84 = .ok (.getfield 34, 3) := by decide +kernel
theorem dX4_become_87 : decode cX4_become 87 = .ok (.putfield 34, 3) := by decide +kernel
theorem dX4_become_90 : decode cX4_become 90 = .ok (.aload_n 0, 1) := by decide +kernel
theorem dX4_become_91 : decode cX4_become 91 = .ok (.aload_n 1, 1) := by decide +kernel
theorem dX4_become_92 : decode cX4_become 92 = .ok (.getfield 37, 3) := by decide +kernel
theorem dX4_become_95 : decode cX4_become 95 = .ok (.putfield 37, 3) := by decide +kernel
theorem dX4_become_98 : decode cX4_become 98 = .ok (.aload_n 0, 1) := by decide +kernel
theorem dX4_become_99 : decode cX4_become 99 = .ok (.aload_n 1, 1) := by decide +kernel
theorem dX4_become_100 : decode cX4_become 100 = .ok (.getfield 40, 3) := by decide +kernel
theorem dX4_become_103 : decode cX4_become 103 = .ok (.putfield 40, 3) := by decide +kernel
theorem dX4_become_106 : decode cX4_become 106 = .ok (.aload_n 0, 1) := by decide +kernel
theorem dX4_become_107 : decode cX4_become 107 = .ok (.aload_n 1, 1) := by decide +kernel
theorem dX4_become_108 : decode cX4_become 108 = .ok (.getfield 43, 3) := by decide +kernel
theorem dX4_become_111 : decode cX4_become 111 = .ok (.putfield 43, 3) := by decide +kernel
theorem dX4_become_114 : decode cX4_become 114 = .ok (.return_, 1) := by decide +kernel
theorem dX4_begin_0 : decode cX4_begin 0 = .ok (.aload_n 0, 1) := by decide +kernel
theorem dX4_begin_1 : decode cX4_begin 1 = .ok (.iload_n 1, 1) := by decide +kernel
theorem dX4_begin_2 : decode cX4_begin 2 = .ok (.putfield 21, 3) := by decide +kernel
theorem dX4_begin_5 : decode cX4_begin 5 = .ok (.aload_n 0, 1) := by decide +kernel
theorem dX4_begin_6 : decode cX4_begin 6 = .ok (.iload_n 2, 1) := by decide +kernel
theorem dX4_begin_7 : decode cX4_begin 7 = .ok (.putfield 25, 3) := by decide +kernel
theorem dX4_begin_10 : decode cX4_begin 10 = .ok (.aload_n 0, 1) := by decide +kernel
theorem dX4_begin_11 : decode cX4_begin 11 = .ok (.iconst 0, 1) := by decide +kernel
theorem dX4_begin_12 : decode cX4_begin 12 = .ok (.putfield 28, 3) := by decide +kernel
theorem dX4_begin_15 : decode cX4_begin 15 = .ok (.aload_n 0, 1) := by decide +kernel
theorem dX4_begin_16 : decode cX4_begin 16 = .ok (.iconst 0, 1) := by decide +kernel
theorem dX4_begin_17 : decode cX4_begin 17 = .ok (.putfield 31, 3) := by decide +kernel
theorem dX4_begin_20 : decode cX4_begin 20 = .ok (.aload_n 0, 1) := by decide +kernel
theorem dX4_begin_21 : decode cX4_begin 21 = .ok (.iload_n 1, 1) := by decide +kernel
theorem dX4_begin_22 : decode cX4_begin 22 = .ok (.putfield 34, 3) := by decide +kernel
theorem dX4_begin_25 : decode cX4_begin 25 = .ok (.aload_n 0, 1) := by decide +kernel
theorem dX4_begin_26 : decode cX4_begin 26 = .ok (.iconst 1, 1) := by decide +kernel
theorem dX4_begin_27 : decode cX4_begin 27 = .ok (.putfield 37, 3) := by decide +kernel
theorem dX4_begin_30 : decode cX4_begin 30 = .ok (.aload_n 0, 1) := by decide +kernel
theorem dX4_begin_31 : decode cX4_begin 31 = .ok (.iconst 0, 1) := by decide +kernel
theorem dX4_begin_32 : decode cX4_begin 32 = .ok (.putfield 40, 3) := by decide +kernel
theorem dX4_begin_35 : decode cX4_begin 35 = .ok (.aload_n 0, 1) := by decide +kernel
theorem dX4_begin_36 : decode cX4_begin 36 = .ok (.iconst 0, 1) := by decide +kernel
theorem dX4_begin_37 : decode cX4_begin 37 = .ok (.putfield 43, 3) := by decide +kernel
theorem dX4_begin_40 : decode cX4_begin 40 = .ok (.return_, 1) := by decide +kernel
theorem dX4_join_0 : decode cX4_join 0 = .ok (.aload_n 0, 1) := by decide +kernel
theorem dX4_join_1 : decode cX4_join 1 = .ok (.getfield 28, 3) := by decide +kernel
theorem dX4_join_4 : decode cX4_join 4 = .ok (.bipush 6, 2) := by decide +kernel
theorem dX4_join_6 : decode cX4_join 6 = .ok (.if_icmp .lt 4, 3) := by decide +kernel
theorem dX4_join_9 : decode cX4_join 9 = .ok (.return_, 1) := by decide +kernel
theorem dX4_join_10 : decode cX4_join 10 = .ok (.aload_n 0, 1) := by decide +kernel
theorem dX4_join_11 : decode cX4_join 11 = .ok (.getfield 9, 3) := by decide +kernel
theorem dX4_join_14 : decode cX4_join 14 = .ok (.aload_n 0, 1) := by decide +kernel
theorem dX4_join_15 : decode cX4_join 15 = .ok (.getfield 28, 3) := by decide +kernel
theorem dX4_join_18 : decode cX4_join 18 = .ok (.iload_n 1, 1) := by decide +kernel
theorem dX4_join_19 : decode cX4_join 19 = .ok (.iastore, 1) := by decide +kernel
theorem dX4_join_20 : decode cX4_join 20 = .ok (.aload_n 0, 1) := by decide +kernel
theorem dX4_join_21 : decode cX4_join 21 = .ok (.getfield 15, 3) := by decide +kernel
theorem dX4_join_24 : decode cX4_join 24 = .ok (.aload_n 0, 1) := by decide +kernel
theorem dX4_join_25 : decode cX4_join 25 = .ok (.getfield 28, 3) := by decide +kernel
theorem dX4_join_28 : decode cX4_join 28 = .ok (.iload_n 2, 1) := by decide +kernel
theorem dX4_join_29 : decode cX4_join 29 = .ok (.iastore, 1) := by decide +kernel
theorem dX4_join_30 : decode cX4_join 30 = .ok (.aload_n 0, 1) := by decide +kernel
theorem dX4_join_31 : decode cX4_join 31 = .ok (.getfield 18, 3) := by decide +kernel
theorem dX4_join_34 : decode cX4_join 34 = .ok (.aload_n 0, 1) := by decide +kernel
theorem dX4_join_35 : decode cX4_join 35 = .ok (.getfield 28, 3) := by decide +kernel
theorem dX4_join_38 : decode cX4_join 38 = .ok (.iload_n 3, 1) := by decide +kernel
theorem dX4_join_39 : decode cX4_join 39 = .ok (.iastore, 1) := by decide +kernel
theorem dX4_join_40 : decode cX4_join 40 = .ok (.aload_n 0, 1) := by decide +kernel
theorem dX4_join_41 : decode cX4_join 41 = .ok (.dup, 1) := by decide +kernel
theorem dX4_join_42 : decode cX4_join 42 = .ok (.getfield 28, 3) := by decide +kernel
theorem dX4_join_45 : decode cX4_join 45 = .ok (.iconst 1, 1) := by decide +kernel
theorem dX4_join_46 : decode cX4_join 46 = .ok (.iadd, 1) := by decide +kernel
theorem dX4_join_47 : decode cX4_join 47 = .ok (.putfield 28, 3) := by decide +kernel
theorem dX4_join_50 : decode cX4_join 50 = .ok (.return_, 1) := by decide +kernel
theorem dX4_isOne_0 : decode cX4_isOne 0 = .ok (.iload_n 1, 1) := by decide +kernel
theorem dX4_isOne_1 : decode cX4_isOne 1 = .ok (.ifCond .lt 15, 3) := by decide +kernel
theorem dX4_isOne_4 : decode cX4_isOne 4 = .ok (.iload_n 1, 1) := by decide +kernel
theorem dX4_isOne_5 : decode cX4_isOne 5 = .ok (.aload_n 0, 1) := by decide +kernel
theorem dX4_isOne_6 : decode cX4_isOne 6 = .ok (.getfield 28, 3) := by decide +kernel
theorem dX4_isOne_9 : decode cX4_isOne 9 = .ok (.if_icmp .ge 7, 3) := by decide +kernel
theorem dX4_isOne_12 : decode cX4_isOne 12 = .ok (.iconst 1, 1) := by decide +kernel
theorem dX4_isOne_13 : decode cX4_isOne 13 = .ok (.goto 4, 3) := by decide +kernel
theorem dX4_isOne_16 : decode cX4_isOne 16 = .ok (.iconst 0, 1) := by decide +kernel
theorem dX4_isOne_17 : decode cX4_isOne 17 = .ok (.ireturn, 1) := by decide +kernel
theorem dX4_personOf_0 : decode cX4_personOf 0 = .ok (.aload_n 0, 1) := by decide +kernel
theorem dX4_personOf_1 : decode cX4_personOf 1 = .ok (.getfield 46, 3) := by decide +kernel
theorem dX4_personOf_4 : decode cX4_personOf 4 = .ok (.aload_n 0, 1) := by decide +kernel
theorem dX4_personOf_5 : decode cX4_personOf 5 = .ok (.getfield 9, 3) := by decide +kernel
theorem dX4_personOf_8 : decode cX4_personOf 8 = .ok (.iload_n 1, 1) := by decide +kernel
theorem dX4_personOf_9 : decode cX4_personOf 9 = .ok (.iaload, 1) := by decide +kernel
theorem dX4_personOf_10 : decode cX4_personOf 10 = .ok (.invokevirtual 50, 3) := by decide +kernel
theorem dX4_personOf_13 : decode cX4_personOf 13 = .ok (.areturn, 1) := by decide +kernel
theorem dX4_partFor_0 : decode cX4_partFor 0 = .ok (.aload_n 0, 1) := by decide +kernel
theorem dX4_partFor_1 : decode cX4_partFor 1 = .ok (.iload_n 1, 1) := by decide +kernel
theorem dX4_partFor_2 : decode cX4_partFor 2 = .ok (.invokevirtual 56, 3) := by decide +kernel
theorem dX4_partFor_5 : decode cX4_partFor 5 = .ok (.iload_n 2, 1) := by decide +kernel
theorem dX4_partFor_6 : decode cX4_partFor 6 = .ok (.invokevirtual 59, 3) := by decide +kernel
theorem dX4_partFor_9 : decode cX4_partFor 9 = .ok (.ireturn, 1) := by decide +kernel
theorem dX4_farFromCloud_0 : decode cX4_farFromCloud 0 = .ok (.aload_n 0, 1) := by decide +kernel
theorem dX4_farFromCloud_1 : decode cX4_farFromCloud 1 = .ok (.getfield 15, 3) := by decide +kernel
theorem dX4_farFromCloud_4 : decode cX4_farFromCloud 4 = .ok (.iload_n 1, 1) := by decide +kernel
theorem dX4_farFromCloud_5 : decode cX4_farFromCloud 5 = .ok (.iaload, 1) := by decide +kernel
theorem dX4_farFromCloud_6 : decode cX4_farFromCloud 6 = .ok (.aload_n 0, 1) := by decide +kernel
theorem dX4_farFromCloud_7 : decode cX4_farFromCloud 7 = .ok (.getfield 34, 3) := by decide +kernel
theorem dX4_farFromCloud_10 : decode cX4_farFromCloud 10 = .ok (.isub, 1) := by decide +kernel
theorem dX4_farFromCloud_11 : decode cX4_farFromCloud 11 = .ok (.invokestatic 65, 3) := by decide +kernel
theorem dX4_farFromCloud_14 : decode cX4_farFromCloud 14 = .ok (.istore_n 2, 1) := by decide +kernel
theorem dX4_farFromCloud_15 : decode cX4_farFromCloud 15 = .ok (.iload_n 2, 1) := by decide +kernel
theorem dX4_farFromCloud_16 : decode cX4_farFromCloud 16 = .ok (.bipush 10, 2) := by decide +kernel
theorem dX4_farFromCloud_18 : decode cX4_farFromCloud 18 = .ok (.iload_n 2, 1) := by decide +kernel
theorem dX4_farFromCloud_19 : decode cX4_farFromCloud 19 = .ok (.isub, 1) := by decide +kernel
theorem dX4_farFromCloud_20 : decode cX4_farFromCloud 20 = .ok (.invokestatic 70, 3) := by decide +kernel
theorem dX4_farFromCloud_23 : decode cX4_farFromCloud 23 = .ok (.ireturn, 1) := by decide +kernel
theorem dX4_inAll_0 : decode cX4_inAll 0 = .ok (.iconst 0, 1) := by decide +kernel
theorem dX4_inAll_1 : decode cX4_inAll 1 = .ok (.istore_n 1, 1) := by decide +kernel
theorem dX4_inAll_2 : decode cX4_inAll 2 = .ok (.iconst 0, 1) := by decide +kernel
theorem dX4_inAll_3 : decode cX4_inAll 3 = .ok (.istore_n 2, 1) := by decide +kernel
theorem dX4_inAll_4 : decode cX4_inAll 4 = .ok (.iload_n 2, 1) := by decide +kernel
theorem dX4_inAll_5 : decode cX4_inAll 5 = .ok (.aload_n 0, 1) := by decide +kernel
theorem dX4_inAll_6 : decode cX4_inAll 6 = .ok (.getfield 28, 3) := by decide +kernel
theorem dX4_inAll_9 : decode cX4_inAll 9 = .ok (.if_icmp .ge 18, 3) := by decide +kernel
theorem dX4_inAll_12 : decode cX4_inAll 12 = .ok (.iload_n 1, 1) := by decide +kernel
theorem dX4_inAll_13 : decode cX4_inAll 13 = .ok (.aload_n 0, 1) := by decide +kernel
theorem dX4_inAll_14 : decode cX4_inAll 14 = .ok (.getfield 18, 3) := by decide +kernel
theorem dX4_inAll_17 : decode cX4_inAll 17 = .ok (.iload_n 2, 1) := by decide +kernel
theorem dX4_inAll_18 : decode cX4_inAll 18 = .ok (.iaload, 1) := by decide +kernel
theorem dX4_inAll_19 : decode cX4_inAll 19 = .ok (.iadd, 1) := by decide +kernel
theorem dX4_inAll_20 : decode cX4_inAll 20 = .ok (.istore_n 1, 1) := by decide +kernel
theorem dX4_inAll_21 : decode cX4_inAll 21 = .ok (.iinc 2 1, 3) := by decide +kernel
theorem dX4_inAll_24 : decode cX4_inAll 24 = .ok (.goto (-20), 3) := by decide +kernel
theorem dX4_inAll_27 : decode cX4_inAll 27 = .ok (.iload_n 1, 1) := by decide +kernel
theorem dX4_inAll_28 : decode cX4_inAll 28 = .ok (.ireturn, 1) := by decide +kernel
theorem dX4_inSet_0 : decode cX4_inSet 0 = .ok (.iconst 0, 1) := by decide +kernel
theorem dX4_inSet_1 : decode cX4_inSet 1 = .ok (.istore_n 2, 1) := by decide +kernel
theorem dX4_inSet_2 : decode cX4_inSet 2 = .ok (.iconst 0, 1) := by decide +kernel
theorem dX4_inSet_3 : decode cX4_inSet 3 = .ok (.istore_n 3, 1) := by decide +kernel
theorem dX4_inSet_4 : decode cX4_inSet 4 = .ok (.iload_n 3, 1) := by decide +kernel
theorem dX4_inSet_5 : decode cX4_inSet 5 = .ok (.aload_n 0, 1) := by decide +kernel
theorem dX4_inSet_6 : decode cX4_inSet 6 = .ok (.getfield 28, 3) := by decide +kernel
theorem dX4_inSet_9 : decode cX4_inSet 9 = .ok (.if_icmp .ge 27, 3) := by decide +kernel
theorem dX4_inSet_12 : decode cX4_inSet 12 = .ok (.iload_n 1, 1) := by decide +kernel
theorem dX4_inSet_13 : decode cX4_inSet 13 = .ok (.iload_n 3, 1) := by decide +kernel
theorem dX4_inSet_14 : decode cX4_inSet 14 = .ok (.ishr, 1) := by decide +kernel
theorem dX4_inSet_15 : decode cX4_inSet 15 = .ok (.iconst 1, 1) := by decide +kernel
theorem dX4_inSet_16 : decode cX4_inSet 16 = .ok (.iand, 1) := by decide +kernel
theorem dX4_inSet_17 : decode cX4_inSet 17 = .ok (.iconst 1, 1) := by decide +kernel
theorem dX4_inSet_18 : decode cX4_inSet 18 = .ok (.if_icmp .ne 12, 3) := by decide +kernel
theorem dX4_inSet_21 : decode cX4_inSet 21 = .ok (.iload_n 2, 1) := by decide +kernel
theorem dX4_inSet_22 : decode cX4_inSet 22 = .ok (.aload_n 0, 1) := by decide +kernel
theorem dX4_inSet_23 : decode cX4_inSet 23 = .ok (.getfield 18, 3) := by decide +kernel
theorem dX4_inSet_26 : decode cX4_inSet 26 = .ok (.iload_n 3, 1) := by decide +kernel
theorem dX4_inSet_27 : decode cX4_inSet 27 = .ok (.iaload, 1) := by decide +kernel
theorem dX4_inSet_28 : decode cX4_inSet 28 = .ok (.iadd, 1) := by decide +kernel
theorem dX4_inSet_29 : decode cX4_inSet 29 = .ok (.istore_n 2, 1) := by decide +kernel
theorem dX4_inSet_30 : decode cX4_inSet 30 = .ok (.iinc 3 1, 3) := by decide +kernel
theorem dX4_inSet_33 : decode cX4_inSet 33 = .ok (.goto (-29), 3) := by decide +kernel
theorem dX4_inSet_36 : decode cX4_inSet 36 = .ok (.iload_n 2, 1) := by decide +kernel
theorem dX4_inSet_37 : decode cX4_inSet 37 = .ok (.ireturn, 1) := by decide +kernel
theorem dX4_putIn_0 : decode cX4_putIn 0 = .ok (.aload_n 0, 1) := by decide +kernel
theorem dX4_putIn_1 : decode cX4_putIn 1 = .ok (.bipush 60, 2) := by decide +kernel
theorem dX4_putIn_3 : decode cX4_putIn 3 = .ok (.aload_n 0, 1) := by decide +kernel
theorem dX4_putIn_4 : decode cX4_putIn 4 = .ok (.getfield 31, 3) := by decide +kernel
theorem dX4_putIn_7 : decode cX4_putIn 7 = .ok (.iload_n 1, 1) := by decide +kernel
theorem dX4_putIn_8 : decode cX4_putIn 8 = .ok (.iadd, 1) := by decide +kernel
theorem dX4_putIn_9 : decode cX4_putIn 9 = .ok (.invokestatic 70, 3) := by decide +kernel
theorem dX4_putIn_12 : decode cX4_putIn 12 = .ok (.putfield 31, 3) := by decide +kernel
theorem dX4_putIn_15 : decode cX4_putIn 15 = .ok (.return_, 1) := by decide +kernel
theorem dX4_beOfSize_0 : decode cX4_beOfSize 0 = .ok (.aload_n 0, 1) := by decide +kernel
theorem dX4_beOfSize_1 : decode cX4_beOfSize 1 = .ok (.iload_n 1, 1) := by decide +kernel
theorem dX4_beOfSize_2 : decode cX4_beOfSize 2 = .ok (.putfield 31, 3) := by decide +kernel
theorem dX4_beOfSize_5 : decode cX4_beOfSize 5 = .ok (.aload_n 0, 1) := by decide +kernel
theorem dX4_beOfSize_6 : decode cX4_beOfSize 6 = .ok (.getfield 31, 3) := by decide +kernel
theorem dX4_beOfSize_9 : decode cX4_beOfSize 9 = .ok (.ifCond .ne 11, 3) := by decide +kernel
theorem dX4_beOfSize_12 : decode cX4_beOfSize 12 = .ok (.aload_n 0, 1) := by decide +kernel
theorem dX4_beOfSize_13 : decode cX4_beOfSize 13 = .ok (.aload_n 0, 1) := by decide +kernel
theorem dX4_beOfSize_14 : decode cX4_beOfSize 14 = .ok (.getfield 21, 3) := by decide +kernel
theorem dX4_beOfSize_17 : decode cX4_beOfSize 17 = .ok (.putfield 34, 3) := by decide +kernel
theorem dX4_beOfSize_20 : decode cX4_beOfSize 20 = .ok (.return_, 1) := by decide +kernel
theorem dX4_pass_0 : decode cX4_pass 0 = .ok (.aload_n 0, 1) := by decide +kernel
theorem dX4_pass_1 : decode cX4_pass 1 = .ok (.invokevirtual 74, 3) := by decide +kernel
theorem dX4_pass_4 : decode cX4_pass 4 = .ok (.iconst 0, 1) := by decide +kernel
theorem dX4_pass_5 : decode cX4_pass 5 = .ok (.istore_n 2, 1) := by decide +kernel
theorem dX4_pass_6 : decode cX4_pass 6 = .ok (.iconst 0, 1) := by decide +kernel
theorem dX4_pass_7 : decode cX4_pass 7 = .ok (.istore_n 3, 1) := by decide +kernel
theorem dX4_pass_8 : decode cX4_pass 8 = .ok (.iload_n 3, 1) := by decide +kernel
theorem dX4_pass_9 : decode cX4_pass 9 = .ok (.aload_n 0, 1) := by decide +kernel
theorem dX4_pass_10 : decode cX4_pass 10 = .ok (.getfield 28, 3) := by decide +kernel
theorem dX4_pass_13 : decode cX4_pass 13 = .ok (.if_icmp .ge 31, 3) := by decide +kernel
theorem dX4_pass_16 : decode cX4_pass 16 = .ok (.iload_n 1, 1) := by decide +kernel
theorem dX4_pass_17 : decode cX4_pass 17 = .ok (.iload_n 3, 1) := by decide +kernel
theorem dX4_pass_18 : decode cX4_pass 18 = .ok (.ishr, 1) := by decide +kernel
theorem dX4_pass_19 : decode cX4_pass 19 = .ok (.iconst 1, 1) := by decide +kernel
theorem dX4_pass_20 : decode cX4_pass 20 = .ok (.iand, 1) := by decide +kernel
theorem dX4_pass_21 : decode cX4_pass 21 = .ok (.ifCond .ne 17, 3) := by decide +kernel
theorem dX4_pass_24 : decode cX4_pass 24 = .ok (.aload_n 0, 1) := by decide +kernel
theorem dX4_pass_25 : decode cX4_pass 25 = .ok (.iload_n 3, 1) := by decide +kernel
theorem dX4_pass_26 : decode cX4_pass 26 = .ok (.invokevirtual 77, 3) := by decide +kernel
theorem dX4_pass_29 : decode cX4_pass 29 = .ok (.ifCond .eq 9, 3) := by decide +kernel
theorem dX4_pass_32 : decode cX4_pass 32 = .ok (.iload_n 2, 1) := by decide +kernel
theorem dX4_pass_33 : decode cX4_pass 33 = .ok (.iconst 1, 1) := by decide +kernel
theorem dX4_pass_34 : decode cX4_pass 34 = .ok (.iload_n 3, 1) := by decide +kernel
theorem dX4_pass_35 : decode cX4_pass 35 = .ok (.ishl, 1) := by decide +kernel
theorem dX4_pass_36 : decode cX4_pass 36 = .ok (.ior, 1) := by decide +kernel
theorem dX4_pass_37 : decode cX4_pass 37 = .ok (.istore_n 2, 1) := by decide +kernel
theorem dX4_pass_38 : decode cX4_pass 38 = .ok (.iinc 3 1, 3) := by decide +kernel
theorem dX4_pass_41 : decode cX4_pass 41 = .ok (.goto (-33), 3) := by decide +kernel
theorem dX4_pass_44 : decode cX4_pass 44 = .ok (.aload_n 0, 1) := by decide +kernel
theorem dX4_pass_45 : decode cX4_pass 45 = .ok (.getfield 40, 3) := by decide +kernel
theorem dX4_pass_48 : decode cX4_pass 48 = .ok (.iconst 1, 1) := by decide +kernel
theorem dX4_pass_49 : decode cX4_pass 49 = .ok (.if_icmp .ne 7, 3) := by decide +kernel
theorem dX4_pass_52 : decode cX4_pass 52 = .ok (.aload_n 0, 1) := by decide +kernel
theorem dX4_pass_53 : decode cX4_pass 53 = .ok (.invokevirtual 81, 3) := by decide +kernel
theorem dX4_pass_56 : decode cX4_pass 56 = .ok (.aload_n 0, 1) := by decide +kernel
theorem dX4_pass_57 : decode cX4_pass 57 = .ok (.getfield 31, 3) := by decide +kernel
theorem dX4_pass_60 : decode cX4_pass 60 = .ok (.ifCond .ne 11, 3) := by decide +kernel
theorem dX4_pass_63 : decode cX4_pass 63 = .ok (.aload_n 0, 1) := by decide +kernel
theorem dX4_pass_64 : decode cX4_pass 64 = .ok (.aload_n 0, 1) := by decide +kernel
theorem dX4_pass_65 : decode cX4_pass 65 = .ok (.getfield 21, 3) := by decide +kernel
theorem dX4_pass_68 : decode cX4_pass 68 = .ok (.putfield 34, 3) := by decide +kernel
theorem dX4_pass_71 : decode cX4_pass 71 = .ok (.aload_n 0, 1) := by decide +kernel
theorem dX4_pass_72 : decode cX4_pass 72 = .ok (.dup, 1) := by decide +kernel
theorem dX4_pass_73 : decode cX4_pass 73 = .ok (.getfield 43, 3) := by decide +kernel
theorem dX4_pass_76 : decode cX4_pass 76 = .ok (.iconst 1, 1) := by decide +kernel
theorem dX4_pass_77 : decode cX4_pass 77 = .ok (.iadd, 1) := by decide +kernel
theorem dX4_pass_78 : decode cX4_pass 78 = .ok (.putfield 43, 3) := by decide +kernel
theorem dX4_pass_81 : decode cX4_pass 81 = .ok (.iload_n 2, 1) := by decide +kernel
theorem dX4_pass_82 : decode cX4_pass 82 = .ok (.ireturn, 1) := by decide +kernel
theorem dX4_passAll_0 : decode cX4_passAll 0 = .ok (.iconst 0, 1) := by decide +kernel
theorem dX4_passAll_1 : decode cX4_passAll 1 = .ok (.istore_n 2, 1) := by decide +kernel
theorem dX4_passAll_2 : decode cX4_passAll 2 = .ok (.iload_n 2, 1) := by decide +kernel
theorem dX4_passAll_3 : decode cX4_passAll 3 = .ok (.iload_n 1, 1) := by decide +kernel
theorem dX4_passAll_4 : decode cX4_passAll 4 = .ok (.if_icmp .ge 15, 3) := by decide +kernel
theorem dX4_passAll_7 : decode cX4_passAll 7 = .ok (.aload_n 0, 1) := by decide +kernel
theorem dX4_passAll_8 : decode cX4_passAll 8 = .ok (.iconst 0, 1) := by decide +kernel
theorem dX4_passAll_9 : decode cX4_passAll 9 = .ok (.invokevirtual 84, 3) := by decide +kernel
theorem dX4_passAll_12 : decode cX4_passAll 12 = .ok (.pop, 1) := by decide +kernel
theorem dX4_passAll_13 : decode cX4_passAll 13 = .ok (.iinc 2 1, 3) := by decide +kernel
theorem dX4_passAll_16 : decode cX4_passAll 16 = .ok (.goto (-14), 3) := by decide +kernel
theorem dX4_passAll_19 : decode cX4_passAll 19 = .ok (.return_, 1) := by decide +kernel
theorem dX4_drift_0 : decode cX4_drift 0 = .ok (.aload_n 0, 1) := by decide +kernel
theorem dX4_drift_1 : decode cX4_drift 1 = .ok (.getfield 31, 3) := by decide +kernel
theorem dX4_drift_4 : decode cX4_drift 4 = .ok (.ifCond .ne 4, 3) := by decide +kernel
theorem dX4_drift_7 : decode cX4_drift 7 = .ok (.return_, 1) := by decide +kernel
theorem dX4_drift_8 : decode cX4_drift 8 = .ok (.aload_n 0, 1) := by decide +kernel
theorem dX4_drift_9 : decode cX4_drift 9 = .ok (.aload_n 0, 1) := by decide +kernel
theorem dX4_drift_10 : decode cX4_drift 10 = .ok (.getfield 40, 3) := by decide +kernel
theorem dX4_drift_13 : decode cX4_drift 13 = .ok (.iconst 1, 1) := by decide +kernel
theorem dX4_drift_14 : decode cX4_drift 14 = .ok (.if_icmp .ne 12, 3) := by decide +kernel
theorem dX4_drift_17 : decode cX4_drift 17 = .ok (.aload_n 0, 1) := by decide +kernel
theorem dX4_drift_18 : decode cX4_drift 18 = .ok (.getfield 31, 3) := by decide +kernel
theorem dX4_drift_21 : decode cX4_drift 21 = .ok (.iconst 2, 1) := by decide +kernel
theorem dX4_drift_22 : decode cX4_drift 22 = .ok (.idiv, 1) := by decide +kernel
theorem dX4_drift_23 : decode cX4_drift 23 = .ok (.goto 17, 3) := by decide +kernel
theorem dX4_drift_26 : decode cX4_drift 26 = .ok (.bipush 60, 2) := by decide +kernel
theorem dX4_drift_28 : decode cX4_drift 28 = .ok (.aload_n 0, 1) := by decide +kernel
theorem dX4_drift_29 : decode cX4_drift 29 = .ok (.getfield 31, 3) := by decide +kernel
theorem dX4_drift_32 : decode cX4_drift 32 = .ok (.aload_n 0, 1) := by decide +kernel
theorem dX4_drift_33 : decode cX4_drift 33 = .ok (.getfield 25, 3) := by decide +kernel
theorem dX4_drift_36 : decode cX4_drift 36 = .ok (.iadd, 1) := by decide +kernel
theorem dX4_drift_37 : decode cX4_drift 37 = .ok (.invokestatic 70, 3) := by decide +kernel
theorem dX4_drift_40 : decode cX4_drift 40 = .ok (.putfield 31, 3) := by decide +kernel
theorem dX4_drift_43 : decode cX4_drift 43 = .ok (.aload_n 0, 1) := by decide +kernel
theorem dX4_drift_44 : decode cX4_drift 44 = .ok (.aload_n 0, 1) := by decide +kernel
theorem dX4_drift_45 : decode cX4_drift 45 = .ok (.getfield 34, 3) := by decide +kernel
theorem dX4_drift_48 : decode cX4_drift 48 = .ok (.aload_n 0, 1) := by decide +kernel
theorem dX4_drift_49 : decode cX4_drift 49 = .ok (.getfield 37, 3) := by decide +kernel
theorem dX4_drift_52 : decode cX4_drift 52 = .ok (.iadd, 1) := by decide +kernel
theorem dX4_drift_53 : decode cX4_drift 53 = .ok (.iconst 1, 1) := by decide +kernel
theorem dX4_drift_54 : decode cX4_drift 54 = .ok (.isub, 1) := by decide +kernel
theorem dX4_drift_55 : decode cX4_drift 55 = .ok (.bipush 10, 2) := by decide +kernel
theorem dX4_drift_57 : decode cX4_drift 57 = .ok (.invokestatic 87, 3) := by decide +kernel
theorem dX4_drift_60 : decode cX4_drift 60 = .ok (.putfield 34, 3) := by decide +kernel
theorem dX4_drift_63 : decode cX4_drift 63 = .ok (.return_, 1) := by decide +kernel
theorem dX4_gatherFor_0 : decode cX4_gatherFor 0 = .ok (.aload_n 0, 1) := by decide +kernel
theorem dX4_gatherFor_1 : decode cX4_gatherFor 1 = .ok (.getfield 15, 3) := by decide +kernel
theorem dX4_gatherFor_4 : decode cX4_gatherFor 4 = .ok (.iload_n 1, 1) := by decide +kernel
theorem dX4_gatherFor_5 : decode cX4_gatherFor 5 = .ok (.iaload, 1) := by decide +kernel
theorem dX4_gatherFor_6 : decode cX4_gatherFor 6 = .ok (.aload_n 0, 1) := by decide +kernel
theorem dX4_gatherFor_7 : decode cX4_gatherFor 7 = .ok (.getfield 34, 3) := by decide +kernel
theorem dX4_gatherFor_10 : decode cX4_gatherFor 10 = .ok (.if_icmp .eq 5, 3) := by decide +kernel
theorem dX4_gatherFor_13 : decode cX4_gatherFor 13 = .ok (.iconst 0, 1) := by decide +kernel
theorem dX4_gatherFor_14 : decode cX4_gatherFor 14 = .ok (.ireturn, 1) := by decide +kernel
theorem dX4_gatherFor_15 : decode cX4_gatherFor 15 = .ok (.aload_n 0, 1) := by decide +kernel
theorem dX4_gatherFor_16 : decode cX4_gatherFor 16 = .ok (.getfield 46, 3) := by decide +kernel
theorem dX4_gatherFor_19 : decode cX4_gatherFor 19 = .ok (.aload_n 0, 1) := by decide +kernel
theorem dX4_gatherFor_20 : decode cX4_gatherFor 20 = .ok (.getfield 9, 3) := by decide +kernel
theorem dX4_gatherFor_23 : decode cX4_gatherFor 23 = .ok (.iload_n 1, 1) := by decide +kernel
theorem dX4_gatherFor_24 : decode cX4_gatherFor 24 = .ok (.iaload, 1) := by decide +kernel
theorem dX4_gatherFor_25 : decode cX4_gatherFor 25 = .ok (.invokevirtual 50, 3) := by decide +kernel
theorem dX4_gatherFor_28 : decode cX4_gatherFor 28 = .ok (.astore_n 2, 1) := by decide +kernel
theorem dX4_gatherFor_29 : decode cX4_gatherFor 29 = .ok (.aload_n 2, 1) := by decide +kernel
theorem dX4_gatherFor_30 : decode cX4_gatherFor 30 = .ok (.aload_n 0, 1) := by decide +kernel
theorem dX4_gatherFor_31 : decode cX4_gatherFor 31 = .ok (.getfield 31, 3) := by decide +kernel
theorem dX4_gatherFor_34 : decode cX4_gatherFor 34 = .ok (.invokevirtual 59, 3) := by decide +kernel
theorem dX4_gatherFor_37 : decode cX4_gatherFor 37 = .ok (.istore_n 3, 1) := by decide +kernel
theorem dX4_gatherFor_38 : decode cX4_gatherFor 38 = .ok (.iload_n 3, 1) := by decide +kernel
theorem dX4_gatherFor_39 : decode cX4_gatherFor 39 = .ok (.ifCond .gt 5, 3) := by decide +kernel
theorem dX4_gatherFor_42 : decode cX4_gatherFor 42 = .ok (.iconst 0, 1) := by decide +kernel
theorem dX4_gatherFor_43 : decode cX4_gatherFor 43 = .ok (.ireturn, 1) := by decide +kernel
theorem dX4_gatherFor_44 : decode cX4_gatherFor 44 = .ok (.aload_n 0, 1) := by decide +kernel
theorem dX4_gatherFor_45 : decode cX4_gatherFor 45 = .ok (.getfield 18, 3) := by decide +kernel
theorem dX4_gatherFor_48 : decode cX4_gatherFor 48 = .ok (.iload_n 1, 1) := by decide +kernel
theorem dX4_gatherFor_49 : decode cX4_gatherFor 49 = .ok (.bipush 30, 2) := by decide +kernel
theorem dX4_gatherFor_51 : decode cX4_gatherFor 51 = .ok (.aload_n 0, 1) := by decide +kernel
theorem dX4_gatherFor_52 : decode cX4_gatherFor 52 = .ok (.getfield 18, 3) := by decide +kernel
theorem dX4_gatherFor_55 : decode cX4_gatherFor 55 = .ok (.iload_n 1, 1) := by decide +kernel
theorem dX4_gatherFor_56 : decode cX4_gatherFor 56 = .ok (.iaload, 1) := by decide +kernel
theorem dX4_gatherFor_57 : decode cX4_gatherFor 57 = .ok (.iload_n 3, 1) := by decide +kernel
theorem dX4_gatherFor_58 : decode cX4_gatherFor 58 = .ok (.iadd, 1) := by decide +kernel
theorem dX4_gatherFor_59 : decode cX4_gatherFor 59 = .ok (.invokestatic 70, 3) := by decide +kernel
theorem dX4_gatherFor_62 : decode cX4_gatherFor 62 = .ok (.iastore, 1) := by decide +kernel
theorem dX4_gatherFor_63 : decode cX4_gatherFor 63 = .ok (.aload_n 0, 1) := by decide +kernel
theorem dX4_gatherFor_64 : decode cX4_gatherFor 64 = .ok (.bipush 60, 2) := by decide +kernel
theorem dX4_gatherFor_66 : decode cX4_gatherFor 66 = .ok (.aload_n 0, 1) := by decide +kernel
theorem dX4_gatherFor_67 : decode cX4_gatherFor 67 = .ok (.getfield 31, 3) := by decide +kernel
theorem dX4_gatherFor_70 : decode cX4_gatherFor 70 = .ok (.iload_n 3, 1) := by decide +kernel
theorem dX4_gatherFor_71 : decode cX4_gatherFor 71 = .ok (.isub, 1) := by decide +kernel
theorem dX4_gatherFor_72 : decode cX4_gatherFor 72 = .ok (.aload_n 2, 1) := by decide +kernel
theorem dX4_gatherFor_73 : decode cX4_gatherFor 73 = .ok (.invokevirtual 90, 3) := by decide +kernel
theorem dX4_gatherFor_76 : decode cX4_gatherFor 76 = .ok (.iadd, 1) := by decide +kernel
theorem dX4_gatherFor_77 : decode cX4_gatherFor 77 = .ok (.invokestatic 70, 3) := by decide +kernel
theorem dX4_gatherFor_80 : decode cX4_gatherFor 80 = .ok (.putfield 31, 3) := by decide +kernel
theorem dX4_gatherFor_83 : decode cX4_gatherFor 83 = .ok (.iconst 1, 1) := by decide +kernel
theorem dX4_gatherFor_84 : decode cX4_gatherFor 84 = .ok (.ireturn, 1) := by decide +kernel
theorem dX4_loseInRain_0 : decode cX4_loseInRain 0 = .ok (.iconst 0, 1) := by decide +kernel
theorem dX4_loseInRain_1 : decode cX4_loseInRain 1 = .ok (.istore_n 1, 1) := by decide +kernel
theorem dX4_loseInRain_2 : decode cX4_loseInRain 2 = .ok (.iload_n 1, 1) := by decide +kernel
theorem dX4_loseInRain_3 : decode cX4_loseInRain 3 = .ok (.aload_n 0, 1) := by decide +kernel
theorem dX4_loseInRain_4 : decode cX4_loseInRain 4 = .ok (.getfield 28, 3) := by decide +kernel
theorem dX4_loseInRain_7 : decode cX4_loseInRain 7 = .ok (.if_icmp .ge 29, 3) := by decide +kernel
theorem dX4_loseInRain_10 : decode cX4_loseInRain 10 = .ok (.aload_n 0, 1) := by decide +kernel
theorem dX4_loseInRain_11 : decode cX4_loseInRain 11 = .ok (.getfield 18, 3) := by decide +kernel
theorem dX4_loseInRain_14 : decode cX4_loseInRain 14 = .ok (.iload_n 1, 1) := by decide +kernel
theorem dX4_loseInRain_15 : decode cX4_loseInRain 15 = .ok (.aload_n 0, 1) := by decide +kernel
theorem dX4_loseInRain_16 : decode cX4_loseInRain 16 = .ok (.iload_n 1, 1) := by decide +kernel
theorem dX4_loseInRain_17 : decode cX4_loseInRain 17 = .ok (.invokevirtual 56, 3) := by decide +kernel
theorem dX4_loseInRain_20 : decode cX4_loseInRain 20 = .ok (.aload_n 0, 1) := by decide +kernel
theorem dX4_loseInRain_21 : decode cX4_loseInRain 21 = .ok (.getfield 18, 3) := by decide +kernel
theorem dX4_loseInRain_24 : decode cX4_loseInRain 24 = .ok (.iload_n 1, 1) := by decide +kernel
theorem dX4_loseInRain_25 : decode cX4_loseInRain 25 = .ok (.iaload, 1) := by decide +kernel
theorem dX4_loseInRain_26 : decode cX4_loseInRain 26 = .ok (.invokevirtual 94, 3) := by decide +kernel
theorem dX4_loseInRain_29 : decode cX4_loseInRain 29 = .ok (.iastore, 1) := by decide +kernel
theorem dX4_loseInRain_30 : decode cX4_loseInRain 30 = .ok (.iinc 1 1, 3) := by decide +kernel
theorem dX4_loseInRain_33 : decode cX4_loseInRain 33 = .ok (.goto (-31), 3) := by decide +kernel
theorem dX4_loseInRain_36 : decode cX4_loseInRain 36 = .ok (.return_, 1) := by decide +kernel
theorem dX4_undergo_0 : decode cX4_undergo 0 = .ok (.iload_n 1, 1) := by decide +kernel
theorem dX4_undergo_1 : decode cX4_undergo 1 = .ok (.bipush 100, 2) := by decide +kernel
theorem dX4_undergo_3 : decode cX4_undergo 3 = .ok (.irem, 1) := by decide +kernel
theorem dX4_undergo_4 : decode cX4_undergo 4 = .ok (.istore_n 2, 1) := by decide +kernel
theorem dX4_undergo_5 : decode cX4_undergo 5 = .ok (.iload_n 1, 1) := by decide +kernel
theorem dX4_undergo_6 : decode cX4_undergo 6 = .ok (.bipush 100, 2) := by decide +kernel
theorem dX4_undergo_8 : decode cX4_undergo 8 = .ok (.idiv, 1) := by decide +kernel
theorem dX4_undergo_9 : decode cX4_undergo 9 = .ok (.tableswitch 61 0 3 #[31, 37, 45, 53], 31) := by decide +kernel
theorem dX4_undergo_40 : decode cX4_undergo 40 = .ok (.aload_n 0, 1) := by decide +kernel
theorem dX4_undergo_41 : decode cX4_undergo 41 = .ok (.iconst 0, 1) := by decide +kernel
theorem dX4_undergo_42 : decode cX4_undergo 42 = .ok (.invokevirtual 84, 3) := by decide +kernel
theorem dX4_undergo_45 : decode cX4_undergo 45 = .ok (.ireturn, 1) := by decide +kernel
theorem dX4_undergo_46 : decode cX4_undergo 46 = .ok (.aload_n 0, 1) := by decide +kernel
theorem dX4_undergo_47 : decode cX4_undergo 47 = .ok (.iload_n 2, 1) := by decide +kernel
theorem dX4_undergo_48 : decode cX4_undergo 48 = .ok (.invokevirtual 97, 3) := by decide +kernel
theorem dX4_undergo_51 : decode cX4_undergo 51 = .ok (.goto 31, 3) := by decide +kernel
theorem dX4_undergo_54 : decode cX4_undergo 54 = .ok (.aload_n 0, 1) := by decide +kernel
theorem dX4_undergo_55 : decode cX4_undergo 55 = .ok (.iload_n 2, 1) := by decide +kernel
theorem dX4_undergo_56 : decode cX4_undergo 56 = .ok (.putfield 37, 3) := by decide +kernel
theorem dX4_undergo_59 : decode cX4_undergo 59 = .ok (.goto 23, 3) := by decide +kernel
theorem dX4_undergo_62 : decode cX4_undergo 62 = .ok (.aload_n 0, 1) := by decide +kernel
theorem dX4_undergo_63 : decode cX4_undergo 63 = .ok (.iload_n 2, 1) := by decide +kernel
theorem dX4_undergo_64 : decode cX4_undergo 64 = .ok (.putfield 40, 3) := by decide +kernel
theorem dX4_undergo_67 : decode cX4_undergo 67 = .ok (.goto 15, 3) := by decide +kernel
theorem dX4_undergo_70 : decode cX4_undergo 70 = .ok (.aload_n 0, 1) := by decide +kernel
theorem dX4_undergo_71 : decode cX4_undergo 71 = .ok (.iload_n 2, 1) := by decide +kernel
theorem dX4_undergo_72 : decode cX4_undergo 72 = .ok (.bipush 10, 2) := by decide +kernel
theorem dX4_undergo_74 : decode cX4_undergo 74 = .ok (.idiv, 1) := by decide +kernel
theorem dX4_undergo_75 : decode cX4_undergo 75 = .ok (.iload_n 2, 1) := by decide +kernel
theorem dX4_undergo_76 : decode cX4_undergo 76 = .ok (.bipush 10, 2) := by decide +kernel
theorem dX4_undergo_78 : decode cX4_undergo 78 = .ok (.irem, 1) := by decide +kernel
theorem dX4_undergo_79 : decode cX4_undergo 79 = .ok (.invokevirtual 101, 3) := by decide +kernel
theorem dX4_undergo_82 : decode cX4_undergo 82 = .ok (.iconst 0, 1) := by decide +kernel
theorem dX4_undergo_83 : decode cX4_undergo 83 = .ok (.ireturn, 1) := by decide +kernel
theorem dX4_moveTo_0 : decode cX4_moveTo 0 = .ok (.aload_n 0, 1) := by decide +kernel
theorem dX4_moveTo_1 : decode cX4_moveTo 1 = .ok (.iload_n 1, 1) := by decide +kernel
theorem dX4_moveTo_2 : decode cX4_moveTo 2 = .ok (.invokevirtual 105, 3) := by decide +kernel
theorem dX4_moveTo_5 : decode cX4_moveTo 5 = .ok (.ifCond .eq 10, 3) := by decide +kernel
theorem dX4_moveTo_8 : decode cX4_moveTo 8 = .ok (.aload_n 0, 1) := by decide +kernel
theorem dX4_moveTo_9 : decode cX4_moveTo 9 = .ok (.getfield 15, 3) := by decide +kernel
theorem dX4_moveTo_12 : decode cX4_moveTo 12 = .ok (.iload_n 1, 1) := by decide +kernel
theorem dX4_moveTo_13 : decode cX4_moveTo 13 = .ok (.iload_n 2, 1) := by decide +kernel
theorem dX4_moveTo_14 : decode cX4_moveTo 14 = .ok (.iastore, 1) := by decide +kernel
theorem dX4_moveTo_15 : decode cX4_moveTo 15 = .ok (.return_, 1) := by decide +kernel
theorem dX5_init_0 : decode cX5_init 0 = .ok (.aload_n 0, 1) := by decide +kernel
theorem dX5_init_1 : decode cX5_init 1 = .ok (.invokespecial 3, 3) := by decide +kernel
theorem dX5_init_4 : decode cX5_init 4 = .ok (.return_, 1) := by decide +kernel
theorem dX5_partOf_0 : decode cX5_partOf 0 = .ok (.iload_n 1, 1) := by decide +kernel
theorem dX5_partOf_1 : decode cX5_partOf 1 = .ok (.bipush 20, 2) := by decide +kernel
theorem dX5_partOf_3 : decode cX5_partOf 3 = .ok (.if_icmp .lt 7, 3) := by decide +kernel
theorem dX5_partOf_6 : decode cX5_partOf 6 = .ok (.iload_n 1, 1) := by decide +kernel
theorem dX5_partOf_7 : decode cX5_partOf 7 = .ok (.goto 8, 3) := by decide +kernel
theorem dX5_partOf_10 : decode cX5_partOf 10 = .ok (.aload_n 0, 1) := by decide +kernel
theorem dX5_partOf_11 : decode cX5_partOf 11 = .ok (.iload_n 1, 1) := by decide +kernel
theorem dX5_partOf_12 : decode cX5_partOf 12 = .ok (.invokespecial 9, 3) := by decide +kernel
theorem dX5_partOf_15 : decode cX5_partOf 15 = .ok (.ireturn, 1) := by decide +kernel
theorem dX6_init_0 : decode cX6_init 0 = .ok (.aload_n 0, 1) := by decide +kernel
theorem dX6_init_1 : decode cX6_init 1 = .ok (.invokespecial 1, 3) := by decide +kernel
theorem dX6_init_4 : decode cX6_init 4 = .ok (.aload_n 0, 1) := by decide +kernel
theorem dX6_init_5 : decode cX6_init 5 = .ok (.new 7, 3) := by decide +kernel
theorem dX6_init_8 : decode cX6_init 8 = .ok (.dup, 1) := by decide +kernel
theorem dX6_init_9 : decode cX6_init 9 = .ok (.invokespecial 9, 3) := by decide +kernel
theorem dX6_init_12 : decode cX6_init 12 = .ok (.putfield 10, 3) := by decide +kernel
theorem dX6_init_15 : decode cX6_init 15 = .ok (.aload_n 0, 1) := by decide +kernel
theorem dX6_init_16 : decode cX6_init 16 = .ok (.new 16, 3) := by decide +kernel
theorem dX6_init_19 : decode cX6_init 19 = .ok (.dup, 1) := by decide +kernel
theorem dX6_init_20 : decode cX6_init 20 = .ok (.invokespecial 18, 3) := by decide +kernel
theorem dX6_init_23 : decode cX6_init 23 = .ok (.putfield 19, 3) := by decide +kernel
theorem dX6_init_26 : decode cX6_init 26 = .ok (.aload_n 0, 1) := by decide +kernel
theorem dX6_init_27 : decode cX6_init 27 = .ok (.new 23, 3) := by decide +kernel
theorem dX6_init_30 : decode cX6_init 30 = .ok (.dup, 1) := by decide +kernel
theorem dX6_init_31 : decode cX6_init 31 = .ok (.invokespecial 25, 3) := by decide +kernel
theorem dX6_init_34 : decode cX6_init 34 = .ok (.putfield 26, 3) := by decide +kernel
theorem dX6_init_37 : decode cX6_init 37 = .ok (.aload_n 0, 1) := by decide +kernel
theorem dX6_init_38 : decode cX6_init 38 = .ok (.new 30, 3) := by decide +kernel
theorem dX6_init_41 : decode cX6_init 41 = .ok (.dup, 1) := by decide +kernel
theorem dX6_init_42 : decode cX6_init 42 = .ok (.invokespecial 32, 3) := by decide +kernel
theorem dX6_init_45 : decode cX6_init 45 = .ok (.putfield 33, 3) := by decide +kernel
theorem dX6_init_48 : decode cX6_init 48 = .ok (.aload_n 0, 1) := by decide +kernel
theorem dX6_init_49 : decode cX6_init 49 = .ok (.new 37, 3) := by decide +kernel
theorem dX6_init_52 : decode cX6_init 52 = .ok (.dup, 1) := by decide +kernel
theorem dX6_init_53 : decode cX6_init 53 = .ok (.invokespecial 39, 3) := by decide +kernel
theorem dX6_init_56 : decode cX6_init 56 = .ok (.putfield 40, 3) := by decide +kernel
theorem dX6_init_59 : decode cX6_init 59 = .ok (.aload_n 0, 1) := by decide +kernel
theorem dX6_init_60 : decode cX6_init 60 = .ok (.new 44, 3) := by decide +kernel
theorem dX6_init_63 : decode cX6_init 63 = .ok (.dup, 1) := by decide +kernel
theorem dX6_init_64 : decode cX6_init 64 = .ok (.invokespecial 46, 3) := by decide +kernel
theorem dX6_init_67 : decode cX6_init 67 = .ok (.putfield 47, 3) := by decide +kernel
theorem dX6_init_70 : decode cX6_init 70 = .ok (.return_, 1) := by decide +kernel
theorem dX6_ofNumber_0 : decode cX6_ofNumber 0 = .ok (.iload_n 1, 1) := by decide +kernel
theorem dX6_ofNumber_1 : decode cX6_ofNumber 1 = .ok (.tableswitch 60 1 5 #[35, 40, 45, 50, 55], 35) := by decide +kernel
theorem dX6_ofNumber_36 : decode cX6_ofNumber 36 = .ok (.aload_n 0, 1) := by decide +kernel
theorem dX6_ofNumber_37 : decode cX6_ofNumber 37 = .ok (.getfield 19, 3) := by decide +kernel
theorem dX6_ofNumber_40 : decode cX6_ofNumber 40 = .ok (.areturn, 1) := by decide +kernel
theorem dX6_ofNumber_41 : decode cX6_ofNumber 41 = .ok (.aload_n 0, 1) := by decide +kernel
theorem dX6_ofNumber_42 : decode cX6_ofNumber 42 = .ok (.getfield 26, 3) := by decide +kernel
theorem dX6_ofNumber_45 : decode cX6_ofNumber 45 = .ok (.areturn, 1) := by decide +kernel
theorem dX6_ofNumber_46 : decode cX6_ofNumber 46 = .ok (.aload_n 0, 1) := by decide +kernel
theorem dX6_ofNumber_47 : decode cX6_ofNumber 47 = .ok (.getfield 33, 3) := by decide +kernel
theorem dX6_ofNumber_50 : decode cX6_ofNumber 50 = .ok (.areturn, 1) := by decide +kernel
theorem dX6_ofNumber_51 : decode cX6_ofNumber 51 = .ok (.aload_n 0, 1) := by decide +kernel
theorem dX6_ofNumber_52 : decode cX6_ofNumber 52 = .ok (.getfield 40, 3) := by decide +kernel
theorem dX6_ofNumber_55 : decode cX6_ofNumber 55 = .ok (.areturn, 1) := by decide +kernel
theorem dX6_ofNumber_56 : decode cX6_ofNumber 56 = .ok (.aload_n 0, 1) := by decide +kernel
theorem dX6_ofNumber_57 : decode cX6_ofNumber 57 = .ok (.getfield 47, 3) := by decide +kernel
theorem dX6_ofNumber_60 : decode cX6_ofNumber 60 = .ok (.areturn, 1) := by decide +kernel
theorem dX6_ofNumber_61 : decode cX6_ofNumber 61 = .ok (.aload_n 0, 1) := by decide +kernel
theorem dX6_ofNumber_62 : decode cX6_ofNumber 62 = .ok (.getfield 10, 3) := by decide +kernel
theorem dX6_ofNumber_65 : decode cX6_ofNumber 65 = .ok (.areturn, 1) := by decide +kernel
theorem dX7_init_0 : decode cX7_init 0 = .ok (.aload_n 0, 1) := by decide +kernel
theorem dX7_init_1 : decode cX7_init 1 = .ok (.invokespecial 1, 3) := by decide +kernel
theorem dX7_init_4 : decode cX7_init 4 = .ok (.return_, 1) := by decide +kernel
theorem dX7_partOf_0 : decode cX7_partOf 0 = .ok (.iconst 2, 1) := by decide +kernel
theorem dX7_partOf_1 : decode cX7_partOf 1 = .ok (.iload_n 1, 1) := by decide +kernel
theorem dX7_partOf_2 : decode cX7_partOf 2 = .ok (.invokestatic 7, 3) := by decide +kernel
theorem dX7_partOf_5 : decode cX7_partOf 5 = .ok (.ireturn, 1) := by decide +kernel
theorem dX7_leftByRain_0 : decode cX7_leftByRain 0 = .ok (.iload_n 1, 1) := by decide +kernel
theorem dX7_leftByRain_1 : decode cX7_leftByRain 1 = .ok (.iconst 2, 1) := by decide +kernel
theorem dX7_leftByRain_2 : decode cX7_leftByRain 2 = .ok (.idiv, 1) := by decide +kernel
theorem dX7_leftByRain_3 : decode cX7_leftByRain 3 = .ok (.ireturn, 1) := by decide +kernel
theorem dX7_breath_0 : decode cX7_breath 0 = .ok (.iconst 0, 1) := by decide +kernel
theorem dX7_breath_1 : decode cX7_breath 1 = .ok (.ireturn, 1) := by decide +kernel
theorem dX8_init_0 : decode cX8_init 0 = .ok (.aload_n 0, 1) := by decide +kernel
theorem dX8_init_1 : decode cX8_init 1 = .ok (.invokespecial 1, 3) := by decide +kernel
theorem dX8_init_4 : decode cX8_init 4 = .ok (.return_, 1) := by decide +kernel
theorem dX8_partOf_0 : decode cX8_partOf 0 = .ok (.iload_n 1, 1) := by decide +kernel
theorem dX8_partOf_1 : decode cX8_partOf 1 = .ok (.iconst 2, 1) := by decide +kernel
theorem dX8_partOf_2 : decode cX8_partOf 2 = .ok (.idiv, 1) := by decide +kernel
theorem dX8_partOf_3 : decode cX8_partOf 3 = .ok (.ireturn, 1) := by decide +kernel
theorem dX9_init_0 : decode cX9_init 0 = .ok (.aload_n 0, 1) := by decide +kernel
theorem dX9_init_1 : decode cX9_init 1 = .ok (.invokespecial 3, 3) := by decide +kernel
theorem dX9_init_4 : decode cX9_init 4 = .ok (.aload_n 0, 1) := by decide +kernel
theorem dX9_init_5 : decode cX9_init 5 = .ok (.bipush 6, 2) := by decide +kernel
theorem dX9_init_7 : decode cX9_init 7 = .ok (.bipush 40, 2) := by decide +kernel
theorem dX9_init_9 : decode cX9_init 9 = .ok (.multianewarray 9 2, 4) := by decide +kernel
theorem dX9_init_13 : decode cX9_init 13 = .ok (.putfield 11, 3) := by decide +kernel
theorem dX9_init_16 : decode cX9_init 16 = .ok (.aload_n 0, 1) := by decide +kernel
theorem dX9_init_17 : decode cX9_init 17 = .ok (.bipush 6, 2) := by decide +kernel
theorem dX9_init_19 : decode cX9_init 19 = .ok (.newarray .int, 2) := by decide +kernel
theorem dX9_init_21 : decode cX9_init 21 = .ok (.putfield 14, 3) := by decide +kernel
theorem dX9_init_24 : decode cX9_init 24 = .ok (.aload_n 0, 1) := by decide +kernel
theorem dX9_init_25 : decode cX9_init 25 = .ok (.iconst 4, 1) := by decide +kernel
theorem dX9_init_26 : decode cX9_init 26 = .ok (.bipush 60, 2) := by decide +kernel
theorem dX9_init_28 : decode cX9_init 28 = .ok (.multianewarray 18 2, 4) := by decide +kernel
theorem dX9_init_32 : decode cX9_init 32 = .ok (.putfield 20, 3) := by decide +kernel
theorem dX9_init_35 : decode cX9_init 35 = .ok (.aload_n 0, 1) := by decide +kernel
theorem dX9_init_36 : decode cX9_init 36 = .ok (.iconst 4, 1) := by decide +kernel
theorem dX9_init_37 : decode cX9_init 37 = .ok (.newarray .int, 2) := by decide +kernel
theorem dX9_init_39 : decode cX9_init 39 = .ok (.putfield 23, 3) := by decide +kernel
theorem dX9_init_42 : decode cX9_init 42 = .ok (.aload_n 0, 1) := by decide +kernel
theorem dX9_init_43 : decode cX9_init 43 = .ok (.new 26, 3) := by decide +kernel
theorem dX9_init_46 : decode cX9_init 46 = .ok (.dup, 1) := by decide +kernel
theorem dX9_init_47 : decode cX9_init 47 = .ok (.iconst 0, 1) := by decide +kernel
theorem dX9_init_48 : decode cX9_init 48 = .ok (.invokespecial 28, 3) := by decide +kernel
theorem dX9_init_51 : decode cX9_init 51 = .ok (.putfield 31, 3) := by decide +kernel
theorem dX9_init_54 : decode cX9_init 54 = .ok (.aload_n 0, 1) := by decide +kernel
theorem dX9_init_55 : decode cX9_init 55 = .ok (.iconst 3, 1) := by decide +kernel
theorem dX9_init_56 : decode cX9_init 56 = .ok (.anewarray 26, 3) := by decide +kernel
theorem dX9_init_59 : decode cX9_init 59 = .ok (.putfield 35, 3) := by decide +kernel
theorem dX9_init_62 : decode cX9_init 62 = .ok (.aload_n 0, 1) := by decide +kernel
theorem dX9_init_63 : decode cX9_init 63 = .ok (.bipush 6, 2) := by decide +kernel
theorem dX9_init_65 : decode cX9_init 65 = .ok (.bipush 31, 2) := by decide +kernel
theorem dX9_init_67 : decode cX9_init 67 = .ok (.multianewarray 9 2, 4) := by decide +kernel
theorem dX9_init_71 : decode cX9_init 71 = .ok (.putfield 39, 3) := by decide +kernel
theorem dX9_init_74 : decode cX9_init 74 = .ok (.aload_n 0, 1) := by decide +kernel
theorem dX9_init_75 : decode cX9_init 75 = .ok (.bipush 6, 2) := by decide +kernel
theorem dX9_init_77 : decode cX9_init 77 = .ok (.newarray .int, 2) := by decide +kernel
theorem dX9_init_79 : decode cX9_init 79 = .ok (.putfield 42, 3) := by decide +kernel
theorem dX9_init_82 : decode cX9_init 82 = .ok (.aload_n 0, 1) := by decide +kernel
theorem dX9_init_83 : decode cX9_init 83 = .ok (.iconst 0, 1) := by decide +kernel
theorem dX9_init_84 : decode cX9_init 84 = .ok (.putfield 45, 3) := by decide +kernel
theorem dX9_init_87 : decode cX9_init 87 = .ok (.aload_n 0, 1) := by decide +kernel
theorem dX9_init_88 : decode cX9_init 88 = .ok (.iconst 0, 1) := by decide +kernel
theorem dX9_init_89 : decode cX9_init 89 = .ok (.putfield 49, 3) := by decide +kernel
theorem dX9_init_92 : decode cX9_init 92 = .ok (.aload_n 0, 1) := by decide +kernel
theorem dX9_init_93 : decode cX9_init 93 = .ok (.lconst 0, 1) := by decide +kernel
theorem dX9_init_94 : decode cX9_init 94 = .ok (.putfield 52, 3) := by decide +kernel
theorem dX9_init_97 : decode cX9_init 97 = .ok (.aload_n 0, 1) := by decide +kernel
theorem dX9_init_98 : decode cX9_init 98 = .ok (.lconst 1, 1) := by decide +kernel
theorem dX9_init_99 : decode cX9_init 99 = .ok (.putfield 56, 3) := by decide +kernel
theorem dX9_init_102 : decode cX9_init 102 = .ok (.new 59, 3) := by decide +kernel
theorem dX9_init_105 : decode cX9_init 105 = .ok (.dup, 1) := by decide +kernel
theorem dX9_init_106 : decode cX9_init 106 = .ok (.invokespecial 61, 3) := by decide +kernel
theorem dX9_init_109 : decode cX9_init 109 = .ok (.astore_n 1, 1) := by decide +kernel
theorem dX9_init_110 : decode cX9_init 110 = .ok (.aload_n 0, 1) := by decide +kernel
theorem dX9_init_111 : decode cX9_init 111 = .ok (.new 62, 3) := by decide +kernel
theorem dX9_init_114 : decode cX9_init 114 = .ok (.dup, 1) := by decide +kernel
theorem dX9_init_115 : decode cX9_init 115 = .ok (.aload_n 1, 1) := by decide +kernel
theorem dX9_init_116 : decode cX9_init 116 = .ok (.invokespecial 64, 3) := by decide +kernel
theorem dX9_init_119 : decode cX9_init 119 = .ok (.putfield 67, 3) := by decide +kernel
theorem dX9_init_122 : decode cX9_init 122 = .ok (.aload_n 0, 1) := by decide +kernel
theorem dX9_init_123 : decode cX9_init 123 = .ok (.new 62, 3) := by decide +kernel
theorem dX9_init_126 : decode cX9_init 126 = .ok (.dup, 1) := by decide +kernel
theorem dX9_init_127 : decode cX9_init 127 = .ok (.aload_n 1, 1) := by decide +kernel
theorem dX9_init_128 : decode cX9_init 128 = .ok (.invokespecial 64, 3) := by decide +kernel
theorem dX9_init_131 : decode cX9_init 131 = .ok (.putfield 71, 3) := by decide +kernel
theorem dX9_init_134 : decode cX9_init 134 = .ok (.aload_n 0, 1) := by decide +kernel
theorem dX9_init_135 : decode cX9_init 135 = .ok (.new 62, 3) := by decide +kernel
theorem dX9_init_138 : decode cX9_init 138 = .ok (.dup, 1) := by decide +kernel
theorem dX9_init_139 : decode cX9_init 139 = .ok (.aload_n 1, 1) := by decide +kernel
theorem dX9_init_140 : decode cX9_init 140 = .ok (.invokespecial 64, 3) := by decide +kernel
theorem dX9_init_143 : decode cX9_init 143 = .ok (.putfield 74, 3) := by decide +kernel
theorem dX9_init_146 : decode cX9_init 146 = .ok (.iconst 0, 1) := by decide +kernel
theorem dX9_init_147 : decode cX9_init 147 = .ok (.istore_n 2, 1) := by decide +kernel
theorem dX9_init_148 : decode cX9_init 148 = .ok (.iload_n 2, 1) := by decide +kernel
theorem dX9_init_149 : decode cX9_init 149 = .ok (.iconst 3, 1) := by decide +kernel
theorem dX9_init_150 : decode cX9_init 150 = .ok (.if_icmp .ge 23, 3) := by decide +kernel
theorem dX9_init_153 : decode cX9_init 153 = .ok (.aload_n 0, 1) := by decide +kernel
theorem dX9_init_154 : decode cX9_init 154 = .ok (.getfield 35, 3) := by decide +kernel
theorem dX9_init_157 : decode cX9_init 157 = .ok (.iload_n 2, 1) := by decide +kernel
theorem dX9_init_158 : decode cX9_init 158 = .ok (.new 26, 3) := by decide +kernel
theorem dX9_init_161 : decode cX9_init 161 = .ok (.dup, 1) := by decide +kernel
theorem dX9_init_162 : decode cX9_init 162 = .ok (.iconst (-1), 1) := by decide +kernel
theorem dX9_init_163 : decode cX9_init 163 = .ok (.invokespecial 28, 3) := by decide +kernel
theorem dX9_init_166 : decode cX9_init 166 = .ok (.aastore, 1) := by decide +kernel
theorem dX9_init_167 : decode cX9_init 167 = .ok (.iinc 2 1, 3) := by decide +kernel
theorem dX9_init_170 : decode cX9_init 170 = .ok (.goto (-22), 3) := by decide +kernel
theorem dX9_init_173 : decode cX9_init 173 = .ok (.aload_n 0, 1) := by decide +kernel
theorem dX9_init_174 : decode cX9_init 174 = .ok (.getfield 14, 3) := by decide +kernel
theorem dX9_init_177 : decode cX9_init 177 = .ok (.iconst (-1), 1) := by decide +kernel
theorem dX9_init_178 : decode cX9_init 178 = .ok (.invokestatic 77, 3) := by decide +kernel
theorem dX9_init_181 : decode cX9_init 181 = .ok (.aload_n 0, 1) := by decide +kernel
theorem dX9_init_182 : decode cX9_init 182 = .ok (.getfield 23, 3) := by decide +kernel
theorem dX9_init_185 : decode cX9_init 185 = .ok (.iconst (-1), 1) := by decide +kernel
theorem dX9_init_186 : decode cX9_init 186 = .ok (.invokestatic 77, 3) := by decide +kernel
theorem dX9_init_189 : decode cX9_init 189 = .ok (.return_, 1) := by decide +kernel
theorem dX9_row_0 : decode cX9_row 0 = .ok (.iload_n 1, 1) := by decide +kernel
theorem dX9_row_1 : decode cX9_row 1 = .ok (.invokestatic 83, 3) := by decide +kernel
theorem dX9_row_4 : decode cX9_row 4 = .ok (.ifCond .eq 9, 3) := by decide +kernel
theorem dX9_row_7 : decode cX9_row 7 = .ok (.iload_n 2, 1) := by decide +kernel
theorem dX9_row_8 : decode cX9_row 8 = .ok (.bipush 40, 2) := by decide +kernel
theorem dX9_row_10 : decode cX9_row 10 = .ok (.if_icmp .le 5, 3) := by decide +kernel
theorem dX9_row_13 : decode cX9_row 13 = .ok (.iconst (-1), 1) := by decide +kernel
theorem dX9_row_14 : decode cX9_row 14 = .ok (.ireturn, 1) := by decide +kernel
theorem dX9_row_15 : decode cX9_row 15 = .ok (.iload_n 2, 1) := by decide +kernel
theorem dX9_row_16 : decode cX9_row 16 = .ok (.ifCond .ge 9, 3) := by decide +kernel
theorem dX9_row_19 : decode cX9_row 19 = .ok (.aload_n 0, 1) := by decide +kernel
theorem dX9_row_20 : decode cX9_row 20 = .ok (.iconst 5, 1) := by decide +kernel
theorem dX9_row_21 : decode cX9_row 21 = .ok (.invokevirtual 87, 3) := by decide +kernel
theorem dX9_row_24 : decode cX9_row 24 = .ok (.ireturn, 1) := by decide +kernel
theorem dX9_row_25 : decode cX9_row 25 = .ok (.aload_n 0, 1) := by decide +kernel
theorem dX9_row_26 : decode cX9_row 26 = .ok (.getfield 11, 3) := by decide +kernel
theorem dX9_row_29 : decode cX9_row 29 = .ok (.iload_n 1, 1) := by decide +kernel
theorem dX9_row_30 : decode cX9_row 30 = .ok (.aaload, 1) := by decide +kernel
theorem dX9_row_31 : decode cX9_row 31 = .ok (.iconst 0, 1) := by decide +kernel
theorem dX9_row_32 : decode cX9_row 32 = .ok (.invokestatic 77, 3) := by decide +kernel
theorem dX9_row_35 : decode cX9_row 35 = .ok (.aload_n 0, 1) := by decide +kernel
theorem dX9_row_36 : decode cX9_row 36 = .ok (.getfield 14, 3) := by decide +kernel
theorem dX9_row_39 : decode cX9_row 39 = .ok (.iload_n 1, 1) := by decide +kernel
theorem dX9_row_40 : decode cX9_row 40 = .ok (.iload_n 2, 1) := by decide +kernel
theorem dX9_row_41 : decode cX9_row 41 = .ok (.iastore, 1) := by decide +kernel
theorem dX9_row_42 : decode cX9_row 42 = .ok (.iload_n 2, 1) := by decide +kernel
theorem dX9_row_43 : decode cX9_row 43 = .ok (.ireturn, 1) := by decide +kernel
theorem dX9_lay_0 : decode cX9_lay 0 = .ok (.aload_n 0, 1) := by decide +kernel
theorem dX9_lay_1 : decode cX9_lay 1 = .ok (.iload_n 1, 1) := by decide +kernel
theorem dX9_lay_2 : decode cX9_lay 2 = .ok (.iload_n 2, 1) := by decide +kernel
theorem dX9_lay_3 : decode cX9_lay 3 = .ok (.invokevirtual 91, 3) := by decide +kernel
theorem dX9_lay_6 : decode cX9_lay 6 = .ok (.istore 4, 2) := by decide +kernel
theorem dX9_lay_8 : decode cX9_lay 8 = .ok (.iload 4, 2) := by decide +kernel
theorem dX9_lay_10 : decode cX9_lay 10 = .ok (.ifCond .eq 6, 3) := by decide +kernel
theorem dX9_lay_13 : decode cX9_lay 13 = .ok (.iload 4, 2) := by decide +kernel
theorem dX9_lay_15 : decode cX9_lay 15 = .ok (.ireturn, 1) := by decide +kernel
theorem dX9_lay_16 : decode cX9_lay 16 = .ok (.aload_n 0, 1) := by decide +kernel
theorem dX9_lay_17 : decode cX9_lay 17 = .ok (.aload_n 0, 1) := by decide +kernel
theorem dX9_lay_18 : decode cX9_lay 18 = .ok (.getfield 11, 3) := by decide +kernel
theorem dX9_lay_21 : decode cX9_lay 21 = .ok (.iload_n 1, 1) := by decide +kernel
theorem dX9_lay_22 : decode cX9_lay 22 = .ok (.aaload, 1) := by decide +kernel
theorem dX9_lay_23 : decode cX9_lay 23 = .ok (.iload_n 2, 1) := by decide +kernel
theorem dX9_lay_24 : decode cX9_lay 24 = .ok (.iaload, 1) := by decide +kernel
theorem dX9_lay_25 : decode cX9_lay 25 = .ok (.putfield 49, 3) := by decide +kernel
theorem dX9_lay_28 : decode cX9_lay 28 = .ok (.aload_n 0, 1) := by decide +kernel
theorem dX9_lay_29 : decode cX9_lay 29 = .ok (.getfield 11, 3) := by decide +kernel
theorem dX9_lay_32 : decode cX9_lay 32 = .ok (.iload_n 1, 1) := by decide +kernel
theorem dX9_lay_33 : decode cX9_lay 33 = .ok (.aaload, 1) := by decide +kernel
theorem dX9_lay_34 : decode cX9_lay 34 = .ok (.iload_n 2, 1) := by decide +kernel
theorem dX9_lay_35 : decode cX9_lay 35 = .ok (.iload_n 3, 1) := by decide +kernel
theorem dX9_lay_36 : decode cX9_lay 36 = .ok (.iastore, 1) := by decide +kernel
theorem dX9_lay_37 : decode cX9_lay 37 = .ok (.iconst 1, 1) := by decide +kernel
theorem dX9_lay_38 : decode cX9_lay 38 = .ok (.ireturn, 1) := by decide +kernel
theorem dX9_at_0 : decode cX9_at 0 = .ok (.aload_n 0, 1) := by decide +kernel
theorem dX9_at_1 : decode cX9_at 1 = .ok (.iload_n 1, 1) := by decide +kernel
theorem dX9_at_2 : decode cX9_at 2 = .ok (.iload_n 2, 1) := by decide +kernel
theorem dX9_at_3 : decode cX9_at 3 = .ok (.invokevirtual 91, 3) := by decide +kernel
theorem dX9_at_6 : decode cX9_at 6 = .ok (.istore_n 3, 1) := by decide +kernel
theorem dX9_at_7 : decode cX9_at 7 = .ok (.iload_n 3, 1) := by decide +kernel
theorem dX9_at_8 : decode cX9_at 8 = .ok (.ifCond .eq 5, 3) := by decide +kernel
theorem dX9_at_11 : decode cX9_at 11 = .ok (.iload_n 3, 1) := by decide +kernel
theorem dX9_at_12 : decode cX9_at 12 = .ok (.ireturn, 1) := by decide +kernel
theorem dX9_at_13 : decode cX9_at 13 = .ok (.aload_n 0, 1) := by decide +kernel
theorem dX9_at_14 : decode cX9_at 14 = .ok (.aload_n 0, 1) := by decide +kernel
theorem dX9_at_15 : decode cX9_at 15 = .ok (.getfield 11, 3) := by decide +kernel
theorem dX9_at_18 : decode cX9_at 18 = .ok (.iload_n 1, 1) := by decide +kernel
theorem dX9_at_19 : decode cX9_at 19 = .ok (.aaload, 1) := by decide +kernel
theorem dX9_at_20 : decode cX9_at 20 = .ok (.iload_n 2, 1) := by decide +kernel
theorem dX9_at_21 : decode cX9_at 21 = .ok (.iaload, 1) := by decide +kernel
theorem dX9_at_22 : decode cX9_at 22 = .ok (.putfield 49, 3) := by decide +kernel
theorem dX9_at_25 : decode cX9_at 25 = .ok (.iconst 1, 1) := by decide +kernel
theorem dX9_at_26 : decode cX9_at 26 = .ok (.ireturn, 1) := by decide +kernel
theorem dX9_tear_0 : decode cX9_tear 0 = .ok (.aload_n 0, 1) := by decide +kernel
theorem dX9_tear_1 : decode cX9_tear 1 = .ok (.iload_n 1, 1) := by decide +kernel
theorem dX9_tear_2 : decode cX9_tear 2 = .ok (.invokevirtual 95, 3) := by decide +kernel
theorem dX9_tear_5 : decode cX9_tear 5 = .ok (.istore_n 2, 1) := by decide +kernel
theorem dX9_tear_6 : decode cX9_tear 6 = .ok (.iload_n 2, 1) := by decide +kernel
theorem dX9_tear_7 : decode cX9_tear 7 = .ok (.ifCond .eq 5, 3) := by decide +kernel
theorem dX9_tear_10 : decode cX9_tear 10 = .ok (.iload_n 2, 1) := by decide +kernel
theorem dX9_tear_11 : decode cX9_tear 11 = .ok (.ireturn, 1) := by decide +kernel
theorem dX9_tear_12 : decode cX9_tear 12 = .ok (.aload_n 0, 1) := by decide +kernel
theorem dX9_tear_13 : decode cX9_tear 13 = .ok (.getfield 14, 3) := by decide +kernel
theorem dX9_tear_16 : decode cX9_tear 16 = .ok (.iload_n 1, 1) := by decide +kernel
theorem dX9_tear_17 : decode cX9_tear 17 = .ok (.iconst (-1), 1) := by decide +kernel
theorem dX9_tear_18 : decode cX9_tear 18 = .ok (.iastore, 1) := by decide +kernel
theorem dX9_tear_19 : decode cX9_tear 19 = .ok (.iconst 1, 1) := by decide +kernel
theorem dX9_tear_20 : decode cX9_tear 20 = .ok (.ireturn, 1) := by decide +kernel
theorem dX9_copy_0 : decode cX9_copy 0 = .ok (.iload_n 1, 1) := by decide +kernel
theorem dX9_copy_1 : decode cX9_copy 1 = .ok (.invokestatic 83, 3) := by decide +kernel
theorem dX9_copy_4 : decode cX9_copy 4 = .ok (.ifCond .eq 10, 3) := by decide +kernel
theorem dX9_copy_7 : decode cX9_copy 7 = .ok (.iload_n 3, 1) := by decide +kernel
theorem dX9_copy_8 : decode cX9_copy 8 = .ok (.invokestatic 83, 3) := by decide +kernel
theorem dX9_copy_11 : decode cX9_copy 11 = .ok (.ifCond .ne 5, 3) := by decide +kernel
theorem dX9_copy_14 : decode cX9_copy 14 = .ok (.iconst (-1), 1) := by decide +kernel
theorem dX9_copy_15 : decode cX9_copy 15 = .ok (.ireturn, 1) := by decide +kernel
theorem dX9_copy_16 : decode cX9_copy 16 = .ok (.iload 5, 2) := by decide +kernel
theorem dX9_copy_18 : decode cX9_copy 18 = .ok (.ifCond .ge 9, 3) := by decide +kernel
theorem dX9_copy_21 : decode cX9_copy 21 = .ok (.aload_n 0, 1) := by decide +kernel
theorem dX9_copy_22 : decode cX9_copy 22 = .ok (.iconst 5, 1) := by decide +kernel
theorem dX9_copy_23 : decode cX9_copy 23 = .ok (.invokevirtual 87, 3) := by decide +kernel
theorem dX9_copy_26 : decode cX9_copy 26 = .ok (.ireturn, 1) := by decide +kernel
theorem dX9_copy_27 : decode cX9_copy 27 = .ok (.aload_n 0, 1) := by decide +kernel
theorem dX9_copy_28 : decode cX9_copy 28 = .ok (.getfield 14, 3) := by decide +kernel
theorem dX9_copy_31 : decode cX9_copy 31 = .ok (.iload_n 1, 1) := by decide +kernel
theorem dX9_copy_32 : decode cX9_copy 32 = .ok (.iaload, 1) := by decide +kernel
theorem dX9_copy_33 : decode cX9_copy 33 = .ok (.iconst (-1), 1) := by decide +kernel
theorem dX9_copy_34 : decode cX9_copy 34 = .ok (.if_icmp .eq 13, 3) := by decide +kernel
theorem dX9_copy_37 : decode cX9_copy 37 = .ok (.aload_n 0, 1) := by decide +kernel
theorem dX9_copy_38 : decode cX9_copy 38 = .ok (.getfield 14, 3) := by decide +kernel
theorem dX9_copy_41 : decode cX9_copy 41 = .ok (.iload_n 3, 1) := by decide +kernel
theorem dX9_copy_42 : decode cX9_copy 42 = .ok (.iaload, 1) := by decide +kernel
theorem dX9_copy_43 : decode cX9_copy 43 = .ok (.iconst (-1), 1) := by decide +kernel
theorem dX9_copy_44 : decode cX9_copy 44 = .ok (.if_icmp .ne 9, 3) := by decide +kernel
theorem dX9_copy_47 : decode cX9_copy 47 = .ok (.aload_n 0, 1) := by decide +kernel
theorem dX9_copy_48 : decode cX9_copy 48 = .ok (.iconst 1, 1) := by decide +kernel
theorem dX9_copy_49 : decode cX9_copy 49 = .ok (.invokevirtual 87, 3) := by decide +kernel
theorem dX9_copy_52 : decode cX9_copy 52 = .ok (.ireturn, 1) := by decide +kernel
theorem dX9_copy_53 : decode cX9_copy 53 = .ok (.aload_n 0, 1) := by decide +kernel
theorem dX9_copy_54 : decode cX9_copy 54 = .ok (.iload_n 1, 1) := by decide +kernel
theorem dX9_copy_55 : decode cX9_copy 55 = .ok (.iload_n 2, 1) := by decide +kernel
theorem dX9_copy_56 : decode cX9_copy 56 = .ok (.iload 5, 2) := by decide +kernel
theorem dX9_copy_58 : decode cX9_copy 58 = .ok (.invokevirtual 98, 3) := by decide +kernel
theorem dX9_copy_61 : decode cX9_copy 61 = .ok (.ifCond .eq 15, 3) := by decide +kernel
theorem dX9_copy_64 : decode cX9_copy 64 = .ok (.aload_n 0, 1) := by decide +kernel
theorem dX9_copy_65 : decode cX9_copy 65 = .ok (.iload_n 3, 1) := by decide +kernel
theorem dX9_copy_66 : decode cX9_copy 66 = .ok (.iload 4, 2) := by decide +kernel
theorem dX9_copy_68 : decode cX9_copy 68 = .ok (.iload 5, 2) := by decide +kernel
theorem dX9_copy_70 : decode cX9_copy 70 = .ok (.invokevirtual 98, 3) := by decide +kernel
theorem dX9_copy_73 : decode cX9_copy 73 = .ok (.ifCond .ne 9, 3) := by decide +kernel
theorem dX9_copy_76 : decode cX9_copy 76 = .ok (.aload_n 0, 1) := by decide +kernel
theorem dX9_copy_77 : decode cX9_copy 77 = .ok (.iconst 2, 1) := by decide +kernel
theorem dX9_copy_78 : decode cX9_copy 78 = .ok (.invokevirtual 87, 3) := by decide +kernel
theorem dX9_copy_81 : decode cX9_copy 81 = .ok (.ireturn, 1) := by decide +kernel
theorem dX9_copy_82 : decode cX9_copy 82 = .ok (.aload_n 0, 1) := by decide +kernel
theorem dX9_copy_83 : decode cX9_copy 83 = .ok (.getfield 11, 3) := by decide +kernel
theorem dX9_copy_86 : decode cX9_copy 86 = .ok (.iload_n 1, 1) := by decide +kernel
theorem dX9_copy_87 : decode cX9_copy 87 = .ok (.aaload, 1) := by decide +kernel
theorem dX9_copy_88 : decode cX9_copy 88 = .ok (.iload_n 2, 1) := by decide +kernel
theorem dX9_copy_89 : decode cX9_copy 89 = .ok (.aload_n 0, 1) := by decide +kernel
theorem dX9_copy_90 : decode cX9_copy 90 = .ok (.getfield 11, 3) := by decide +kernel
theorem dX9_copy_93 : decode cX9_copy 93 = .ok (.iload_n 3, 1) := by decide +kernel
theorem dX9_copy_94 : decode cX9_copy 94 = .ok (.aaload, 1) := by decide +kernel
theorem dX9_copy_95 : decode cX9_copy 95 = .ok (.iload 4, 2) := by decide +kernel
theorem dX9_copy_97 : decode cX9_copy 97 = .ok (.iload 5, 2) := by decide +kernel
theorem dX9_copy_99 : decode cX9_copy 99 = .ok (.invokestatic 102, 3) := by decide +kernel
theorem dX9_copy_102 : decode cX9_copy 102 = .ok (.iconst 1, 1) := by decide +kernel
theorem dX9_copy_103 : decode cX9_copy 103 = .ok (.ireturn, 1) := by decide +kernel
theorem dX9_mean_0 : decode cX9_mean 0 = .ok (.aload_n 0, 1) := by decide +kernel
theorem dX9_mean_1 : decode cX9_mean 1 = .ok (.iload_n 1, 1) := by decide +kernel
theorem dX9_mean_2 : decode cX9_mean 2 = .ok (.invokevirtual 95, 3) := by decide +kernel
theorem dX9_mean_5 : decode cX9_mean 5 = .ok (.istore_n 2, 1) := by decide +kernel
theorem dX9_mean_6 : decode cX9_mean 6 = .ok (.iload_n 2, 1) := by decide +kernel
theorem dX9_mean_7 : decode cX9_mean 7 = .ok (.ifCond .eq 5, 3) := by decide +kernel
theorem dX9_mean_10 : decode cX9_mean 10 = .ok (.iload_n 2, 1) := by decide +kernel
theorem dX9_mean_11 : decode cX9_mean 11 = .ok (.ireturn, 1) := by decide +kernel
theorem dX9_mean_12 : decode cX9_mean 12 = .ok (.aload_n 0, 1) := by decide +kernel
theorem dX9_mean_13 : decode cX9_mean 13 = .ok (.getfield 14, 3) := by decide +kernel
theorem dX9_mean_16 : decode cX9_mean 16 = .ok (.iload_n 1, 1) := by decide +kernel
theorem dX9_mean_17 : decode cX9_mean 17 = .ok (.iaload, 1) := by decide +kernel
theorem dX9_mean_18 : decode cX9_mean 18 = .ok (.istore_n 3, 1) := by decide +kernel
theorem dX9_mean_19 : decode cX9_mean 19 = .ok (.iload_n 3, 1) := by decide +kernel
theorem dX9_mean_20 : decode cX9_mean 20 = .ok (.ifCond .ne 9, 3) := by decide +kernel
theorem dX9_mean_23 : decode cX9_mean 23 = .ok (.aload_n 0, 1) := by decide +kernel
theorem dX9_mean_24 : decode cX9_mean 24 = .ok (.iconst 4, 1) := by decide +kernel
theorem dX9_mean_25 : decode cX9_mean 25 = .ok (.invokevirtual 87, 3) := by decide +kernel
theorem dX9_mean_28 : decode cX9_mean 28 = .ok (.ireturn, 1) := by decide +kernel
theorem dX9_mean_29 : decode cX9_mean 29 = .ok (.lconst 0, 1) := by decide +kernel
theorem dX9_mean_30 : decode cX9_mean 30 = .ok (.lstore 4, 2) := by decide +kernel
theorem dX9_mean_32 : decode cX9_mean 32 = .ok (.iconst 0, 1) := by decide +kernel
theorem dX9_mean_33 : decode cX9_mean 33 = .ok (.istore 6, 2) := by decide +kernel
theorem dX9_mean_35 : decode cX9_mean 35 = .ok (.iload 6, 2) := by decide +kernel
theorem dX9_mean_37 : decode cX9_mean 37 = .ok (.iload_n 3, 1) := by decide +kernel
theorem dX9_mean_38 : decode cX9_mean 38 = .ok (.if_icmp .ge 24, 3) := by decide +kernel
theorem dX9_mean_41 : decode cX9_mean 41 = .ok (.lload 4, 2) := by decide +kernel
theorem dX9_mean_43 : decode cX9_mean 43 = .ok (.aload_n 0, 1) := by decide +kernel
theorem dX9_mean_44 : decode cX9_mean 44 = .ok (.getfield 11, 3) := by decide +kernel
theorem dX9_mean_47 : decode cX9_mean 47 = .ok (.iload_n 1, 1) := by decide +kernel
theorem dX9_mean_48 : decode cX9_mean 48 = .ok (.aaload, 1) := by decide +kernel
theorem dX9_mean_49 : decode cX9_mean 49 = .ok (.iload 6, 2) := by decide +kernel
theorem dX9_mean_51 : decode cX9_mean 51 = .ok (.iaload, 1) := by decide +kernel
theorem dX9_mean_52 : decode cX9_mean 52 = .ok (.i2l, 1) := by decide +kernel
theorem dX9_mean_53 : decode cX9_mean 53 = .ok (.ladd, 1) := by decide +kernel
theorem dX9_mean_54 : decode cX9_mean 54 = .ok (.lstore 4, 2) := by decide +kernel
theorem dX9_mean_56 : decode cX9_mean 56 = .ok (.iinc 6 1, 3) := by decide +kernel
theorem dX9_mean_59 : decode cX9_mean 59 = .ok (.goto (-24), 3) := by decide +kernel
theorem dX9_mean_62 : decode cX9_mean 62 = .ok (.aload_n 0, 1) := by decide +kernel
theorem dX9_mean_63 : decode cX9_mean 63 = .ok (.lload 4, 2) := by decide +kernel
theorem dX9_mean_65 : decode cX9_mean 65 = .ok (.iload_n 3, 1) := by decide +kernel
theorem dX9_mean_66 : decode cX9_mean 66 = .ok (.i2l, 1) := by decide +kernel
theorem dX9_mean_67 : decode cX9_mean 67 = .ok (.ldiv, 1) := by decide +kernel
theorem dX9_mean_68 : decode cX9_mean 68 = .ok (.l2i, 1) := by decide +kernel
theorem dX9_mean_69 : decode cX9_mean 69 = .ok (.putfield 49, 3) := by decide +kernel
theorem dX9_mean_72 : decode cX9_mean 72 = .ok (.iconst 1, 1) := by decide +kernel
theorem dX9_mean_73 : decode cX9_mean 73 = .ok (.ireturn, 1) := by decide +kernel
theorem dX9_text_0 : decode cX9_text 0 = .ok (.iload_n 1, 1) := by decide +kernel
theorem dX9_text_1 : decode cX9_text 1 = .ok (.invokestatic 108, 3) := by decide +kernel
theorem dX9_text_4 : decode cX9_text 4 = .ok (.ifCond .eq 9, 3) := by decide +kernel
theorem dX9_text_7 : decode cX9_text 7 = .ok (.iload_n 2, 1) := by decide +kernel
theorem dX9_text_8 : decode cX9_text 8 = .ok (.bipush 60, 2) := by decide +kernel
theorem dX9_text_10 : decode cX9_text 10 = .ok (.if_icmp .le 5, 3) := by decide +kernel
theorem dX9_text_13 : decode cX9_text 13 = .ok (.iconst (-1), 1) := by decide +kernel
theorem dX9_text_14 : decode cX9_text 14 = .ok (.ireturn, 1) := by decide +kernel
theorem dX9_text_15 : decode cX9_text 15 = .ok (.iload_n 2, 1) := by decide +kernel
theorem dX9_text_16 : decode cX9_text 16 = .ok (.ifCond .ge 9, 3) := by decide +kernel
theorem dX9_text_19 : decode cX9_text 19 = .ok (.aload_n 0, 1) := by decide +kernel
theorem dX9_text_20 : decode cX9_text 20 = .ok (.iconst 5, 1) := by decide +kernel
theorem dX9_text_21 : decode cX9_text 21 = .ok (.invokevirtual 87, 3) := by decide +kernel
theorem dX9_text_24 : decode cX9_text 24 = .ok (.ireturn, 1) := by decide +kernel
theorem dX9_text_25 : decode cX9_text 25 = .ok (.aload_n 0, 1) := by decide +kernel
theorem dX9_text_26 : decode cX9_text 26 = .ok (.getfield 20, 3) := by decide +kernel
theorem dX9_text_29 : decode cX9_text 29 = .ok (.iload_n 1, 1) := by decide +kernel
theorem dX9_text_30 : decode cX9_text 30 = .ok (.aaload, 1) := by decide +kernel
theorem dX9_text_31 : decode cX9_text 31 = .ok (.bipush 32, 2) := by decide +kernel
theorem dX9_text_33 : decode cX9_text 33 = .ok (.invokestatic 111, 3) := by decide +kernel
theorem dX9_text_36 : decode cX9_text 36 = .ok (.aload_n 0, 1) := by decide +kernel
theorem dX9_text_37 : decode cX9_text 37 = .ok (.getfield 23, 3) := by decide +kernel
theorem dX9_text_40 : decode cX9_text 40 = .ok (.iload_n 1, 1) := by decide +kernel
theorem dX9_text_41 : decode cX9_text 41 = .ok (.iload_n 2, 1) := by decide +kernel
theorem dX9_text_42 : decode cX9_text 42 = .ok (.iastore, 1) := by decide +kernel
theorem dX9_text_43 : decode cX9_text 43 = .ok (.iload_n 2, 1) := by decide +kernel
theorem dX9_text_44 : decode cX9_text 44 = .ok (.ireturn, 1) := by decide +kernel
theorem dX9_put_0 : decode cX9_put 0 = .ok (.aload_n 0, 1) := by decide +kernel
theorem dX9_put_1 : decode cX9_put 1 = .ok (.iload_n 1, 1) := by decide +kernel
theorem dX9_put_2 : decode cX9_put 2 = .ok (.invokevirtual 114, 3) := by decide +kernel
theorem dX9_put_5 : decode cX9_put 5 = .ok (.istore 4, 2) := by decide +kernel
theorem dX9_put_7 : decode cX9_put 7 = .ok (.iload 4, 2) := by decide +kernel
theorem dX9_put_9 : decode cX9_put 9 = .ok (.ifCond .eq 6, 3) := by decide +kernel
theorem dX9_put_12 : decode cX9_put 12 = .ok (.iload 4, 2) := by decide +kernel
theorem dX9_put_14 : decode cX9_put 14 = .ok (.ireturn, 1) := by decide +kernel
theorem dX9_put_15 : decode cX9_put 15 = .ok (.iload_n 2, 1) := by decide +kernel
theorem dX9_put_16 : decode cX9_put 16 = .ok (.ifCond .lt 13, 3) := by decide +kernel
theorem dX9_put_19 : decode cX9_put 19 = .ok (.iload_n 2, 1) := by decide +kernel
theorem dX9_put_20 : decode cX9_put 20 = .ok (.aload_n 0, 1) := by decide +kernel
theorem dX9_put_21 : decode cX9_put 21 = .ok (.getfield 23, 3) := by decide +kernel
theorem dX9_put_24 : decode cX9_put 24 = .ok (.iload_n 1, 1) := by decide +kernel
theorem dX9_put_25 : decode cX9_put 25 = .ok (.iaload, 1) := by decide +kernel
theorem dX9_put_26 : decode cX9_put 26 = .ok (.if_icmp .lt 9, 3) := by decide +kernel
theorem dX9_put_29 : decode cX9_put 29 = .ok (.aload_n 0, 1) := by decide +kernel
theorem dX9_put_30 : decode cX9_put 30 = .ok (.iconst 2, 1) := by decide +kernel
theorem dX9_put_31 : decode cX9_put 31 = .ok (.invokevirtual 87, 3) := by decide +kernel
theorem dX9_put_34 : decode cX9_put 34 = .ok (.ireturn, 1) := by decide +kernel
theorem dX9_put_35 : decode cX9_put 35 = .ok (.aload_n 0, 1) := by decide +kernel
theorem dX9_put_36 : decode cX9_put 36 = .ok (.getfield 20, 3) := by decide +kernel
theorem dX9_put_39 : decode cX9_put 39 = .ok (.iload_n 1, 1) := by decide +kernel
theorem dX9_put_40 : decode cX9_put 40 = .ok (.aaload, 1) := by decide +kernel
theorem dX9_put_41 : decode cX9_put 41 = .ok (.iload_n 2, 1) := by decide +kernel
theorem dX9_put_42 : decode cX9_put 42 = .ok (.baload, 1) := by decide +kernel
theorem dX9_put_43 : decode cX9_put 43 = .ok (.istore 5, 2) := by decide +kernel
theorem dX9_put_45 : decode cX9_put 45 = .ok (.aload_n 0, 1) := by decide +kernel
theorem dX9_put_46 : decode cX9_put 46 = .ok (.getfield 20, 3) := by decide +kernel
theorem dX9_put_49 : decode cX9_put 49 = .ok (.iload_n 1, 1) := by decide +kernel
theorem dX9_put_50 : decode cX9_put 50 = .ok (.aaload, 1) := by decide +kernel
theorem dX9_put_51 : decode cX9_put 51 = .ok (.iload_n 2, 1) := by decide +kernel
theorem dX9_put_52 : decode cX9_put 52 = .ok (.iload_n 3, 1) := by decide +kernel
theorem dX9_put_53 : decode cX9_put 53 = .ok (.i2b, 1) := by decide +kernel
theorem dX9_put_54 : decode cX9_put 54 = .ok (.bastore, 1) := by decide +kernel
theorem dX9_put_55 : decode cX9_put 55 = .ok (.iload 5, 2) := by decide +kernel
theorem dX9_put_57 : decode cX9_put 57 = .ok (.sipush 1000, 3) := by decide +kernel
theorem dX9_put_60 : decode cX9_put 60 = .ok (.iadd, 1) := by decide +kernel
theorem dX9_put_61 : decode cX9_put 61 = .ok (.ireturn, 1) := by decide +kernel
theorem dX9_fault_0 : decode cX9_fault 0 = .ok (.aload_n 0, 1) := by decide +kernel
theorem dX9_fault_1 : decode cX9_fault 1 = .ok (.iload_n 1, 1) := by decide +kernel
theorem dX9_fault_2 : decode cX9_fault 2 = .ok (.invokevirtual 114, 3) := by decide +kernel
theorem dX9_fault_5 : decode cX9_fault 5 = .ok (.istore_n 2, 1) := by decide +kernel
theorem dX9_fault_6 : decode cX9_fault 6 = .ok (.iload_n 2, 1) := by decide +kernel
theorem dX9_fault_7 : decode cX9_fault 7 = .ok (.ifCond .eq 5, 3) := by decide +kernel
theorem dX9_fault_10 : decode cX9_fault 10 = .ok (.iload_n 2, 1) := by decide +kernel
theorem dX9_fault_11 : decode cX9_fault 11 = .ok (.ireturn, 1) := by decide +kernel
theorem dX9_fault_12 : decode cX9_fault 12 = .ok (.aload_n 0, 1) := by decide +kernel
theorem dX9_fault_13 : decode cX9_fault 13 = .ok (.iload_n 1, 1) := by decide +kernel
theorem dX9_fault_14 : decode cX9_fault 14 = .ok (.invokevirtual 117, 3) := by decide +kernel
theorem dX9_fault_17 : decode cX9_fault 17 = .ok (.ireturn, 1) := by decide +kernel
theorem dX9_front_0 : decode cX9_front 0 = .ok (.aload_n 0, 1) := by decide +kernel
theorem dX9_front_1 : decode cX9_front 1 = .ok (.iload_n 1, 1) := by decide +kernel
theorem dX9_front_2 : decode cX9_front 2 = .ok (.invokevirtual 114, 3) := by decide +kernel
theorem dX9_front_5 : decode cX9_front 5 = .ok (.istore_n 2, 1) := by decide +kernel
theorem dX9_front_6 : decode cX9_front 6 = .ok (.iload_n 2, 1) := by decide +kernel
theorem dX9_front_7 : decode cX9_front 7 = .ok (.ifCond .eq 5, 3) := by decide +kernel
theorem dX9_front_10 : decode cX9_front 10 = .ok (.iload_n 2, 1) := by decide +kernel
theorem dX9_front_11 : decode cX9_front 11 = .ok (.ireturn, 1) := by decide +kernel
theorem dX9_front_12 : decode cX9_front 12 = .ok (.aload_n 0, 1) := by decide +kernel
theorem dX9_front_13 : decode cX9_front 13 = .ok (.iload_n 1, 1) := by decide +kernel
theorem dX9_front_14 : decode cX9_front 14 = .ok (.invokevirtual 117, 3) := by decide +kernel
theorem dX9_front_17 : decode cX9_front 17 = .ok (.bipush (-9), 2) := by decide +kernel
theorem dX9_front_19 : decode cX9_front 19 = .ok (.if_icmp .eq 6, 3) := by decide +kernel
theorem dX9_front_22 : decode cX9_front 22 = .ok (.bipush (-4), 2) := by decide +kernel
theorem dX9_front_24 : decode cX9_front 24 = .ok (.ireturn, 1) := by decide +kernel
theorem dX9_front_25 : decode cX9_front 25 = .ok (.aload_n 0, 1) := by decide +kernel
theorem dX9_front_26 : decode cX9_front 26 = .ok (.getfield 67, 3) := by decide +kernel
theorem dX9_front_29 : decode cX9_front 29 = .ok (.aload_n 0, 1) := by decide +kernel
theorem dX9_front_30 : decode cX9_front 30 = .ok (.getfield 74, 3) := by decide +kernel
theorem dX9_front_33 : decode cX9_front 33 = .ok (.invokevirtual 120, 3) := by decide +kernel
theorem dX9_front_36 : decode cX9_front 36 = .ok (.aload_n 0, 1) := by decide +kernel
theorem dX9_front_37 : decode cX9_front 37 = .ok (.getfield 71, 3) := by decide +kernel
theorem dX9_front_40 : decode cX9_front 40 = .ok (.aload_n 0, 1) := by decide +kernel
theorem dX9_front_41 : decode cX9_front 41 = .ok (.getfield 74, 3) := by decide +kernel
theorem dX9_front_44 : decode cX9_front 44 = .ok (.invokevirtual 120, 3) := by decide +kernel
theorem dX9_front_47 : decode cX9_front 47 = .ok (.aload_n 0, 1) := by decide +kernel
theorem dX9_front_48 : decode cX9_front 48 = .ok (.getfield 31, 3) := by decide +kernel
theorem dX9_front_51 : decode cX9_front 51 = .ok (.iconst 0, 1) := by decide +kernel
theorem dX9_front_52 : decode cX9_front 52 = .ok (.putfield 124, 3) := by decide +kernel
theorem dX9_front_55 : decode cX9_front 55 = .ok (.iconst 0, 1) := by decide +kernel
theorem dX9_front_56 : decode cX9_front 56 = .ok (.istore_n 3, 1) := by decide +kernel
theorem dX9_front_57 : decode cX9_front 57 = .ok (.iload_n 3, 1) := by decide +kernel
theorem dX9_front_58 : decode cX9_front 58 = .ok (.iconst 3, 1) := by decide +kernel
theorem dX9_front_59 : decode cX9_front 59 = .ok (.if_icmp .ge 19, 3) := by decide +kernel
theorem dX9_front_62 : decode cX9_front 62 = .ok (.aload_n 0, 1) := by decide +kernel
theorem dX9_front_63 : decode cX9_front 63 = .ok (.getfield 35, 3) := by decide +kernel
theorem dX9_front_66 : decode cX9_front 66 = .ok (.iload_n 3, 1) := by decide +kernel
theorem dX9_front_67 : decode cX9_front 67 = .ok (.aaload, 1) := by decide +kernel
theorem dX9_front_68 : decode cX9_front 68 = .ok (.iconst (-1), 1) := by decide +kernel
theorem dX9_front_69 : decode cX9_front 69 = .ok (.putfield 124, 3) := by decide +kernel
theorem dX9_front_72 : decode cX9_front 72 = .ok (.iinc 3 1, 3) := by decide +kernel
theorem dX9_front_75 : decode cX9_front 75 = .ok (.goto (-18), 3) := by decide +kernel
theorem dX9_front_78 : decode cX9_front 78 = .ok (.aload_n 0, 1) := by decide +kernel
theorem dX9_front_79 : decode cX9_front 79 = .ok (.getfield 71, 3) := by decide +kernel
theorem dX9_front_82 : decode cX9_front 82 = .ok (.getfield 127, 3) := by decide +kernel
theorem dX9_front_85 : decode cX9_front 85 = .ok (.ireturn, 1) := by decide +kernel
theorem dX9_one_0 : decode cX9_one 0 = .ok (.aload_n 0, 1) := by decide +kernel
theorem dX9_one_1 : decode cX9_one 1 = .ok (.getfield 71, 3) := by decide +kernel
theorem dX9_one_4 : decode cX9_one 4 = .ok (.iload_n 1, 1) := by decide +kernel
theorem dX9_one_5 : decode cX9_one 5 = .ok (.invokevirtual 130, 3) := by decide +kernel
theorem dX9_one_8 : decode cX9_one 8 = .ok (.ifCond .eq 12, 3) := by decide +kernel
theorem dX9_one_11 : decode cX9_one 11 = .ok (.iload_n 2, 1) := by decide +kernel
theorem dX9_one_12 : decode cX9_one 12 = .ok (.ifCond .lt 8, 3) := by decide +kernel
theorem dX9_one_15 : decode cX9_one 15 = .ok (.iload_n 2, 1) := by decide +kernel
theorem dX9_one_16 : decode cX9_one 16 = .ok (.iconst 5, 1) := by decide +kernel
theorem dX9_one_17 : decode cX9_one 17 = .ok (.if_icmp .lt 5, 3) := by decide +kernel
theorem dX9_one_20 : decode cX9_one 20 = .ok (.iconst (-1), 1) := by decide +kernel
theorem dX9_one_21 : decode cX9_one 21 = .ok (.ireturn, 1) := by decide +kernel
theorem dX9_one_22 : decode cX9_one 22 = .ok (.aload_n 0, 1) := by decide +kernel
theorem dX9_one_23 : decode cX9_one 23 = .ok (.aload_n 0, 1) := by decide +kernel
theorem dX9_one_24 : decode cX9_one 24 = .ok (.iload_n 1, 1) := by decide +kernel
theorem dX9_one_25 : decode cX9_one 25 = .ok (.iload_n 2, 1) := by decide +kernel
theorem dX9_one_26 : decode cX9_one 26 = .ok (.invokevirtual 133, 3) := by decide +kernel
theorem dX9_one_29 : decode cX9_one 29 = .ok (.putfield 49, 3) := by decide +kernel
theorem dX9_one_32 : decode cX9_one 32 = .ok (.iconst 1, 1) := by decide +kernel
theorem dX9_one_33 : decode cX9_one 33 = .ok (.ireturn, 1) := by decide +kernel
theorem dX9_mark_0 : decode cX9_mark 0 = .ok (.aload_n 0, 1) := by decide +kernel
theorem dX9_mark_1 : decode cX9_mark 1 = .ok (.getfield 71, 3) := by decide +kernel
theorem dX9_mark_4 : decode cX9_mark 4 = .ok (.iload_n 1, 1) := by decide +kernel
theorem dX9_mark_5 : decode cX9_mark 5 = .ok (.invokevirtual 130, 3) := by decide +kernel
theorem dX9_mark_8 : decode cX9_mark 8 = .ok (.ifCond .eq 13, 3) := by decide +kernel
theorem dX9_mark_11 : decode cX9_mark 11 = .ok (.iload_n 2, 1) := by decide +kernel
theorem dX9_mark_12 : decode cX9_mark 12 = .ok (.ifCond .le 9, 3) := by decide +kernel
theorem dX9_mark_15 : decode cX9_mark 15 = .ok (.iload_n 2, 1) := by decide +kernel
theorem dX9_mark_16 : decode cX9_mark 16 = .ok (.bipush 6, 2) := by decide +kernel
theorem dX9_mark_18 : decode cX9_mark 18 = .ok (.if_icmp .lt 5, 3) := by decide +kernel
theorem dX9_mark_21 : decode cX9_mark 21 = .ok (.iconst (-1), 1) := by decide +kernel
theorem dX9_mark_22 : decode cX9_mark 22 = .ok (.ireturn, 1) := by decide +kernel
theorem dX9_mark_23 : decode cX9_mark 23 = .ok (.aload_n 0, 1) := by decide +kernel
theorem dX9_mark_24 : decode cX9_mark 24 = .ok (.getfield 71, 3) := by decide +kernel
theorem dX9_mark_27 : decode cX9_mark 27 = .ok (.iload_n 1, 1) := by decide +kernel
theorem dX9_mark_28 : decode cX9_mark 28 = .ok (.invokevirtual 136, 3) := by decide +kernel
theorem dX9_mark_31 : decode cX9_mark 31 = .ok (.astore_n 3, 1) := by decide +kernel
theorem dX9_mark_32 : decode cX9_mark 32 = .ok (.iload_n 2, 1) := by decide +kernel
theorem dX9_mark_33 : decode cX9_mark 33 = .ok (.tableswitch 139 1 4 #[31, 64, 92, 113], 31) := by decide +kernel
theorem dX9_mark_64 : decode cX9_mark 64 = .ok (.aload_n 3, 1) := by decide +kernel
theorem dX9_mark_65 : decode cX9_mark 65 = .ok (.instanceof 140, 3) := by decide +kernel
theorem dX9_mark_68 : decode cX9_mark 68 = .ok (.ifCond .eq 23, 3) := by decide +kernel
theorem dX9_mark_71 : decode cX9_mark 71 = .ok (.aload_n 0, 1) := by decide +kernel
theorem dX9_mark_72 : decode cX9_mark 72 = .ok (.getfield 71, 3) := by decide +kernel
theorem dX9_mark_75 : decode cX9_mark 75 = .ok (.invokevirtual 142, 3) := by decide +kernel
theorem dX9_mark_78 : decode cX9_mark 78 = .ok (.aload_n 0, 1) := by decide +kernel
theorem dX9_mark_79 : decode cX9_mark 79 = .ok (.getfield 71, 3) := by decide +kernel
theorem dX9_mark_82 : decode cX9_mark 82 = .ok (.getfield 146, 3) := by decide +kernel
theorem dX9_mark_85 : decode cX9_mark 85 = .ok (.iload_n 1, 1) := by decide +kernel
theorem dX9_mark_86 : decode cX9_mark 86 = .ok (.iaload, 1) := by decide +kernel
theorem dX9_mark_87 : decode cX9_mark 87 = .ok (.isub, 1) := by decide +kernel
theorem dX9_mark_88 : decode cX9_mark 88 = .ok (.goto 8, 3) := by decide +kernel
theorem dX9_mark_91 : decode cX9_mark 91 = .ok (.aload_n 0, 1) := by decide +kernel
theorem dX9_mark_92 : decode cX9_mark 92 = .ok (.iconst 3, 1) := by decide +kernel
theorem dX9_mark_93 : decode cX9_mark 93 = .ok (.invokevirtual 87, 3) := by decide +kernel
theorem dX9_mark_96 : decode cX9_mark 96 = .ok (.ireturn, 1) := by decide +kernel
theorem dX9_mark_97 : decode cX9_mark 97 = .ok (.aload_n 3, 1) := by decide +kernel
theorem dX9_mark_98 : decode cX9_mark 98 = .ok (.instanceof 149, 3) := by decide +kernel
theorem dX9_mark_101 : decode cX9_mark 101 = .ok (.ifCond .eq 18, 3) := by decide +kernel
theorem dX9_mark_104 : decode cX9_mark 104 = .ok (.bipush 30, 2) := by decide +kernel
theorem dX9_mark_106 : decode cX9_mark 106 = .ok (.aload_n 0, 1) := by decide +kernel
theorem dX9_mark_107 : decode cX9_mark 107 = .ok (.getfield 71, 3) := by decide +kernel
theorem dX9_mark_110 : decode cX9_mark 110 = .ok (.getfield 146, 3) := by decide +kernel
theorem dX9_mark_113 : decode cX9_mark 113 = .ok (.iload_n 1, 1) := by decide +kernel
theorem dX9_mark_114 : decode cX9_mark 114 = .ok (.iaload, 1) := by decide +kernel
theorem dX9_mark_115 : decode cX9_mark 115 = .ok (.isub, 1) := by decide +kernel
theorem dX9_mark_116 : decode cX9_mark 116 = .ok (.goto 8, 3) := by decide +kernel
theorem dX9_mark_119 : decode cX9_mark 119 = .ok (.aload_n 0, 1) := by decide +kernel
theorem dX9_mark_120 : decode cX9_mark 120 = .ok (.iconst 3, 1) := by decide +kernel
theorem dX9_mark_121 : decode cX9_mark 121 = .ok (.invokevirtual 87, 3) := by decide +kernel
theorem dX9_mark_124 : decode cX9_mark 124 = .ok (.ireturn, 1) := by decide +kernel
theorem dX9_mark_125 : decode cX9_mark 125 = .ok (.aload_n 3, 1) := by decide +kernel
theorem dX9_mark_126 : decode cX9_mark 126 = .ok (.instanceof 151, 3) := by decide +kernel
theorem dX9_mark_129 : decode cX9_mark 129 = .ok (.ifCond .eq 11, 3) := by decide +kernel
theorem dX9_mark_132 : decode cX9_mark 132 = .ok (.aload_n 0, 1) := by decide +kernel
theorem dX9_mark_133 : decode cX9_mark 133 = .ok (.aload_n 3, 1) := by decide +kernel
theorem dX9_mark_134 : decode cX9_mark 134 = .ok (.invokevirtual 153, 3) := by decide +kernel
theorem dX9_mark_137 : decode cX9_mark 137 = .ok (.goto 8, 3) := by decide +kernel
theorem dX9_mark_140 : decode cX9_mark 140 = .ok (.aload_n 0, 1) := by decide +kernel
theorem dX9_mark_141 : decode cX9_mark 141 = .ok (.iconst 3, 1) := by decide +kernel
theorem dX9_mark_142 : decode cX9_mark 142 = .ok (.invokevirtual 87, 3) := by decide +kernel
theorem dX9_mark_145 : decode cX9_mark 145 = .ok (.ireturn, 1) := by decide +kernel
theorem dX9_mark_146 : decode cX9_mark 146 = .ok (.aload_n 3, 1) := by decide +kernel
theorem dX9_mark_147 : decode cX9_mark 147 = .ok (.instanceof 157, 3) := by decide +kernel
theorem dX9_mark_150 : decode cX9_mark 150 = .ok (.ifCond .eq 16, 3) := by decide +kernel
theorem dX9_mark_153 : decode cX9_mark 153 = .ok (.bipush 60, 2) := by decide +kernel
theorem dX9_mark_155 : decode cX9_mark 155 = .ok (.aload_n 0, 1) := by decide +kernel
theorem dX9_mark_156 : decode cX9_mark 156 = .ok (.getfield 71, 3) := by decide +kernel
theorem dX9_mark_159 : decode cX9_mark 159 = .ok (.getfield 159, 3) := by decide +kernel
theorem dX9_mark_162 : decode cX9_mark 162 = .ok (.isub, 1) := by decide +kernel
theorem dX9_mark_163 : decode cX9_mark 163 = .ok (.goto 8, 3) := by decide +kernel
theorem dX9_mark_166 : decode cX9_mark 166 = .ok (.aload_n 0, 1) := by decide +kernel
theorem dX9_mark_167 : decode cX9_mark 167 = .ok (.iconst 3, 1) := by decide +kernel
theorem dX9_mark_168 : decode cX9_mark 168 = .ok (.invokevirtual 87, 3) := by decide +kernel
theorem dX9_mark_171 : decode cX9_mark 171 = .ok (.ireturn, 1) := by decide +kernel
theorem dX9_mark_172 : decode cX9_mark 172 = .ok (.aload_n 3, 1) := by decide +kernel
theorem dX9_mark_173 : decode cX9_mark 173 = .ok (.instanceof 162, 3) := by decide +kernel
theorem dX9_mark_176 : decode cX9_mark 176 = .ok (.ifCond .eq 20, 3) := by decide +kernel
theorem dX9_mark_179 : decode cX9_mark 179 = .ok (.iconst 0, 1) := by decide +kernel
theorem dX9_mark_180 : decode cX9_mark 180 = .ok (.bipush 20, 2) := by decide +kernel
theorem dX9_mark_182 : decode cX9_mark 182 = .ok (.aload_n 0, 1) := by decide +kernel
theorem dX9_mark_183 : decode cX9_mark 183 = .ok (.getfield 71, 3) := by decide +kernel
theorem dX9_mark_186 : decode cX9_mark 186 = .ok (.getfield 159, 3) := by decide +kernel
theorem dX9_mark_189 : decode cX9_mark 189 = .ok (.isub, 1) := by decide +kernel
theorem dX9_mark_190 : decode cX9_mark 190 = .ok (.invokestatic 164, 3) := by decide +kernel
theorem dX9_mark_193 : decode cX9_mark 193 = .ok (.goto 8, 3) := by decide +kernel
theorem dX9_mark_196 : decode cX9_mark 196 = .ok (.aload_n 0, 1) := by decide +kernel
theorem dX9_mark_197 : decode cX9_mark 197 = .ok (.iconst 3, 1) := by decide +kernel
theorem dX9_mark_198 : decode cX9_mark 198 = .ok (.invokevirtual 87, 3) := by decide +kernel
theorem dX9_mark_201 : decode cX9_mark 201 = .ok (.ireturn, 1) := by decide +kernel
theorem dX9_turn_0 : decode cX9_turn 0 = .ok (.aload_n 0, 1) := by decide +kernel
theorem dX9_turn_1 : decode cX9_turn 1 = .ok (.getfield 71, 3) := by decide +kernel
theorem dX9_turn_4 : decode cX9_turn 4 = .ok (.getfield 127, 3) := by decide +kernel
theorem dX9_turn_7 : decode cX9_turn 7 = .ok (.ifCond .ne 6, 3) := by decide +kernel
theorem dX9_turn_10 : decode cX9_turn 10 = .ok (.bipush (-4), 2) := by decide +kernel
theorem dX9_turn_12 : decode cX9_turn 12 = .ok (.ireturn, 1) := by decide +kernel
theorem dX9_turn_13 : decode cX9_turn 13 = .ok (.aload_n 0, 1) := by decide +kernel
theorem dX9_turn_14 : decode cX9_turn 14 = .ok (.getfield 31, 3) := by decide +kernel
theorem dX9_turn_17 : decode cX9_turn 17 = .ok (.invokevirtual 169, 3) := by decide +kernel
theorem dX9_turn_20 : decode cX9_turn 20 = .ok (.ifCond .eq 6, 3) := by decide +kernel
theorem dX9_turn_23 : decode cX9_turn 23 = .ok (.bipush (-2), 2) := by decide +kernel
theorem dX9_turn_25 : decode cX9_turn 25 = .ok (.ireturn, 1) := by decide +kernel
theorem dX9_turn_26 : decode cX9_turn 26 = .ok (.aload_n 0, 1) := by decide +kernel
theorem dX9_turn_27 : decode cX9_turn 27 = .ok (.iconst 0, 1) := by decide +kernel
theorem dX9_turn_28 : decode cX9_turn 28 = .ok (.iconst 0, 1) := by decide +kernel
theorem dX9_turn_29 : decode cX9_turn 29 = .ok (.invokevirtual 173, 3) := by decide +kernel
theorem dX9_turn_32 : decode cX9_turn 32 = .ok (.ireturn, 1) := by decide +kernel
theorem dX9_spoon_0 : decode cX9_spoon 0 = .ok (.iload_n 1, 1) := by decide +kernel
theorem dX9_spoon_1 : decode cX9_spoon 1 = .ok (.iconst 1, 1) := by decide +kernel
theorem dX9_spoon_2 : decode cX9_spoon 2 = .ok (.if_icmp .lt 9, 3) := by decide +kernel
theorem dX9_spoon_5 : decode cX9_spoon 5 = .ok (.iload_n 1, 1) := by decide +kernel
theorem dX9_spoon_6 : decode cX9_spoon 6 = .ok (.bipush 9, 2) := by decide +kernel
theorem dX9_spoon_8 : decode cX9_spoon 8 = .ok (.if_icmp .le 5, 3) := by decide +kernel
theorem dX9_spoon_11 : decode cX9_spoon 11 = .ok (.iconst (-1), 1) := by decide +kernel
theorem dX9_spoon_12 : decode cX9_spoon 12 = .ok (.ireturn, 1) := by decide +kernel
theorem dX9_spoon_13 : decode cX9_spoon 13 = .ok (.aload_n 0, 1) := by decide +kernel
theorem dX9_spoon_14 : decode cX9_spoon 14 = .ok (.getfield 71, 3) := by decide +kernel
theorem dX9_spoon_17 : decode cX9_spoon 17 = .ok (.getfield 127, 3) := by decide +kernel
theorem dX9_spoon_20 : decode cX9_spoon 20 = .ok (.ifCond .eq 15, 3) := by decide +kernel
theorem dX9_spoon_23 : decode cX9_spoon 23 = .ok (.aload_n 0, 1) := by decide +kernel
theorem dX9_spoon_24 : decode cX9_spoon 24 = .ok (.getfield 71, 3) := by decide +kernel
theorem dX9_spoon_27 : decode cX9_spoon 27 = .ok (.getfield 159, 3) := by decide +kernel
theorem dX9_spoon_30 : decode cX9_spoon 30 = .ok (.bipush 60, 2) := by decide +kernel
theorem dX9_spoon_32 : decode cX9_spoon 32 = .ok (.if_icmp .lt 6, 3) := by decide +kernel
theorem dX9_spoon_35 : decode cX9_spoon 35 = .ok (.bipush (-4), 2) := by decide +kernel
theorem dX9_spoon_37 : decode cX9_spoon 37 = .ok (.ireturn, 1) := by decide +kernel
theorem dX9_spoon_38 : decode cX9_spoon 38 = .ok (.aload_n 0, 1) := by decide +kernel
theorem dX9_spoon_39 : decode cX9_spoon 39 = .ok (.getfield 31, 3) := by decide +kernel
theorem dX9_spoon_42 : decode cX9_spoon 42 = .ok (.invokevirtual 169, 3) := by decide +kernel
theorem dX9_spoon_45 : decode cX9_spoon 45 = .ok (.ifCond .eq 6, 3) := by decide +kernel
theorem dX9_spoon_48 : decode cX9_spoon 48 = .ok (.bipush (-2), 2) := by decide +kernel
theorem dX9_spoon_50 : decode cX9_spoon 50 = .ok (.ireturn, 1) := by decide +kernel
theorem dX9_spoon_51 : decode cX9_spoon 51 = .ok (.aload_n 0, 1) := by decide +kernel
theorem dX9_spoon_52 : decode cX9_spoon 52 = .ok (.iconst 1, 1) := by decide +kernel
theorem dX9_spoon_53 : decode cX9_spoon 53 = .ok (.iload_n 1, 1) := by decide +kernel
theorem dX9_spoon_54 : decode cX9_spoon 54 = .ok (.invokevirtual 173, 3) := by decide +kernel
theorem dX9_spoon_57 : decode cX9_spoon 57 = .ok (.pop, 1) := by decide +kernel
theorem dX9_spoon_58 : decode cX9_spoon 58 = .ok (.aload_n 0, 1) := by decide +kernel
theorem dX9_spoon_59 : decode cX9_spoon 59 = .ok (.getfield 71, 3) := by decide +kernel
theorem dX9_spoon_62 : decode cX9_spoon 62 = .ok (.getfield 159, 3) := by decide +kernel
theorem dX9_spoon_65 : decode cX9_spoon 65 = .ok (.ireturn, 1) := by decide +kernel
theorem dX9_wind_0 : decode cX9_wind 0 = .ok (.iload_n 1, 1) := by decide +kernel
theorem dX9_wind_1 : decode cX9_wind 1 = .ok (.ifCond .lt 8, 3) := by decide +kernel
theorem dX9_wind_4 : decode cX9_wind 4 = .ok (.iload_n 1, 1) := by decide +kernel
theorem dX9_wind_5 : decode cX9_wind 5 = .ok (.iconst 2, 1) := by decide +kernel
theorem dX9_wind_6 : decode cX9_wind 6 = .ok (.if_icmp .le 5, 3) := by decide +kernel
theorem dX9_wind_9 : decode cX9_wind 9 = .ok (.iconst (-1), 1) := by decide +kernel
theorem dX9_wind_10 : decode cX9_wind 10 = .ok (.ireturn, 1) := by decide +kernel
theorem dX9_wind_11 : decode cX9_wind 11 = .ok (.aload_n 0, 1) := by decide +kernel
theorem dX9_wind_12 : decode cX9_wind 12 = .ok (.getfield 71, 3) := by decide +kernel
theorem dX9_wind_15 : decode cX9_wind 15 = .ok (.getfield 127, 3) := by decide +kernel
theorem dX9_wind_18 : decode cX9_wind 18 = .ok (.ifCond .eq 14, 3) := by decide +kernel
theorem dX9_wind_21 : decode cX9_wind 21 = .ok (.aload_n 0, 1) := by decide +kernel
theorem dX9_wind_22 : decode cX9_wind 22 = .ok (.getfield 71, 3) := by decide +kernel
theorem dX9_wind_25 : decode cX9_wind 25 = .ok (.getfield 176, 3) := by decide +kernel
theorem dX9_wind_28 : decode cX9_wind 28 = .ok (.iload_n 1, 1) := by decide +kernel
theorem dX9_wind_29 : decode cX9_wind 29 = .ok (.if_icmp .ne 6, 3) := by decide +kernel
theorem dX9_wind_32 : decode cX9_wind 32 = .ok (.bipush (-4), 2) := by decide +kernel
theorem dX9_wind_34 : decode cX9_wind 34 = .ok (.ireturn, 1) := by decide +kernel
theorem dX9_wind_35 : decode cX9_wind 35 = .ok (.aload_n 0, 1) := by decide +kernel
theorem dX9_wind_36 : decode cX9_wind 36 = .ok (.getfield 31, 3) := by decide +kernel
theorem dX9_wind_39 : decode cX9_wind 39 = .ok (.invokevirtual 169, 3) := by decide +kernel
theorem dX9_wind_42 : decode cX9_wind 42 = .ok (.ifCond .eq 6, 3) := by decide +kernel
theorem dX9_wind_45 : decode cX9_wind 45 = .ok (.bipush (-2), 2) := by decide +kernel
theorem dX9_wind_47 : decode cX9_wind 47 = .ok (.ireturn, 1) := by decide +kernel
theorem dX9_wind_48 : decode cX9_wind 48 = .ok (.aload_n 0, 1) := by decide +kernel
theorem dX9_wind_49 : decode cX9_wind 49 = .ok (.getfield 71, 3) := by decide +kernel
theorem dX9_wind_52 : decode cX9_wind 52 = .ok (.getfield 176, 3) := by decide +kernel
theorem dX9_wind_55 : decode cX9_wind 55 = .ok (.istore_n 2, 1) := by decide +kernel
theorem dX9_wind_56 : decode cX9_wind 56 = .ok (.aload_n 0, 1) := by decide +kernel
theorem dX9_wind_57 : decode cX9_wind 57 = .ok (.iconst 2, 1) := by decide +kernel
theorem dX9_wind_58 : decode cX9_wind 58 = .ok (.iload_n 1, 1) := by decide +kernel
theorem dX9_wind_59 : decode cX9_wind 59 = .ok (.invokevirtual 173, 3) := by decide +kernel
theorem dX9_wind_62 : decode cX9_wind 62 = .ok (.pop, 1) := by decide +kernel
theorem dX9_wind_63 : decode cX9_wind 63 = .ok (.iload_n 2, 1) := by decide +kernel
theorem dX9_wind_64 : decode cX9_wind 64 = .ok (.ireturn, 1) := by decide +kernel
theorem dX9_rain_0 : decode cX9_rain 0 = .ok (.iload_n 1, 1) := by decide +kernel
theorem dX9_rain_1 : decode cX9_rain 1 = .ok (.ifCond .lt 8, 3) := by decide +kernel
theorem dX9_rain_4 : decode cX9_rain 4 = .ok (.iload_n 1, 1) := by decide +kernel
theorem dX9_rain_5 : decode cX9_rain 5 = .ok (.iconst 1, 1) := by decide +kernel
theorem dX9_rain_6 : decode cX9_rain 6 = .ok (.if_icmp .le 5, 3) := by decide +kernel
theorem dX9_rain_9 : decode cX9_rain 9 = .ok (.iconst (-1), 1) := by decide +kernel
theorem dX9_rain_10 : decode cX9_rain 10 = .ok (.ireturn, 1) := by decide +kernel
theorem dX9_rain_11 : decode cX9_rain 11 = .ok (.aload_n 0, 1) := by decide +kernel
theorem dX9_rain_12 : decode cX9_rain 12 = .ok (.getfield 71, 3) := by decide +kernel
theorem dX9_rain_15 : decode cX9_rain 15 = .ok (.getfield 127, 3) := by decide +kernel
theorem dX9_rain_18 : decode cX9_rain 18 = .ok (.ifCond .eq 14, 3) := by decide +kernel
theorem dX9_rain_21 : decode cX9_rain 21 = .ok (.aload_n 0, 1) := by decide +kernel
theorem dX9_rain_22 : decode cX9_rain 22 = .ok (.getfield 71, 3) := by decide +kernel
theorem dX9_rain_25 : decode cX9_rain 25 = .ok (.getfield 179, 3) := by decide +kernel
theorem dX9_rain_28 : decode cX9_rain 28 = .ok (.iload_n 1, 1) := by decide +kernel
theorem dX9_rain_29 : decode cX9_rain 29 = .ok (.if_icmp .ne 6, 3) := by decide +kernel
theorem dX9_rain_32 : decode cX9_rain 32 = .ok (.bipush (-4), 2) := by decide +kernel
theorem dX9_rain_34 : decode cX9_rain 34 = .ok (.ireturn, 1) := by decide +kernel
theorem dX9_rain_35 : decode cX9_rain 35 = .ok (.aload_n 0, 1) := by decide +kernel
theorem dX9_rain_36 : decode cX9_rain 36 = .ok (.getfield 31, 3) := by decide +kernel
theorem dX9_rain_39 : decode cX9_rain 39 = .ok (.invokevirtual 169, 3) := by decide +kernel
theorem dX9_rain_42 : decode cX9_rain 42 = .ok (.ifCond .eq 6, 3) := by decide +kernel
theorem dX9_rain_45 : decode cX9_rain 45 = .ok (.bipush (-2), 2) := by decide +kernel
theorem dX9_rain_47 : decode cX9_rain 47 = .ok (.ireturn, 1) := by decide +kernel
theorem dX9_rain_48 : decode cX9_rain 48 = .ok (.aload_n 0, 1) := by decide +kernel
theorem dX9_rain_49 : decode cX9_rain 49 = .ok (.iconst 3, 1) := by decide +kernel
theorem dX9_rain_50 : decode cX9_rain 50 = .ok (.iload_n 1, 1) := by decide +kernel
theorem dX9_rain_51 : decode cX9_rain 51 = .ok (.invokevirtual 173, 3) := by decide +kernel
theorem dX9_rain_54 : decode cX9_rain 54 = .ok (.pop, 1) := by decide +kernel
theorem dX9_rain_55 : decode cX9_rain 55 = .ok (.aload_n 0, 1) := by decide +kernel
theorem dX9_rain_56 : decode cX9_rain 56 = .ok (.getfield 71, 3) := by decide +kernel
theorem dX9_rain_59 : decode cX9_rain 59 = .ok (.getfield 179, 3) := by decide +kernel
theorem dX9_rain_62 : decode cX9_rain 62 = .ok (.ireturn, 1) := by decide +kernel
theorem dX9_stand_0 : decode cX9_stand 0 = .ok (.aload_n 0, 1) := by decide +kernel
theorem dX9_stand_1 : decode cX9_stand 1 = .ok (.getfield 71, 3) := by decide +kernel
theorem dX9_stand_4 : decode cX9_stand 4 = .ok (.iload_n 1, 1) := by decide +kernel
theorem dX9_stand_5 : decode cX9_stand 5 = .ok (.invokevirtual 130, 3) := by decide +kernel
theorem dX9_stand_8 : decode cX9_stand 8 = .ok (.ifCond .eq 13, 3) := by decide +kernel
theorem dX9_stand_11 : decode cX9_stand 11 = .ok (.iload_n 2, 1) := by decide +kernel
theorem dX9_stand_12 : decode cX9_stand 12 = .ok (.ifCond .lt 9, 3) := by decide +kernel
theorem dX9_stand_15 : decode cX9_stand 15 = .ok (.iload_n 2, 1) := by decide +kernel
theorem dX9_stand_16 : decode cX9_stand 16 = .ok (.bipush 10, 2) := by decide +kernel
theorem dX9_stand_18 : decode cX9_stand 18 = .ok (.if_icmp .lt 5, 3) := by decide +kernel
theorem dX9_stand_21 : decode cX9_stand 21 = .ok (.iconst (-1), 1) := by decide +kernel
theorem dX9_stand_22 : decode cX9_stand 22 = .ok (.ireturn, 1) := by decide +kernel
theorem dX9_stand_23 : decode cX9_stand 23 = .ok (.aload_n 0, 1) := by decide +kernel
theorem dX9_stand_24 : decode cX9_stand 24 = .ok (.getfield 71, 3) := by decide +kernel
theorem dX9_stand_27 : decode cX9_stand 27 = .ok (.getfield 182, 3) := by decide +kernel
theorem dX9_stand_30 : decode cX9_stand 30 = .ok (.iload_n 1, 1) := by decide +kernel
theorem dX9_stand_31 : decode cX9_stand 31 = .ok (.iaload, 1) := by decide +kernel
theorem dX9_stand_32 : decode cX9_stand 32 = .ok (.istore_n 3, 1) := by decide +kernel
theorem dX9_stand_33 : decode cX9_stand 33 = .ok (.iload_n 3, 1) := by decide +kernel
theorem dX9_stand_34 : decode cX9_stand 34 = .ok (.iload_n 2, 1) := by decide +kernel
theorem dX9_stand_35 : decode cX9_stand 35 = .ok (.if_icmp .ne 6, 3) := by decide +kernel
theorem dX9_stand_38 : decode cX9_stand 38 = .ok (.bipush (-4), 2) := by decide +kernel
theorem dX9_stand_40 : decode cX9_stand 40 = .ok (.ireturn, 1) := by decide +kernel
theorem dX9_stand_41 : decode cX9_stand 41 = .ok (.aload_n 0, 1) := by decide +kernel
theorem dX9_stand_42 : decode cX9_stand 42 = .ok (.getfield 31, 3) := by decide +kernel
theorem dX9_stand_45 : decode cX9_stand 45 = .ok (.invokevirtual 169, 3) := by decide +kernel
theorem dX9_stand_48 : decode cX9_stand 48 = .ok (.ifCond .eq 6, 3) := by decide +kernel
theorem dX9_stand_51 : decode cX9_stand 51 = .ok (.bipush (-2), 2) := by decide +kernel
theorem dX9_stand_53 : decode cX9_stand 53 = .ok (.ireturn, 1) := by decide +kernel
theorem dX9_stand_54 : decode cX9_stand 54 = .ok (.aload_n 0, 1) := by decide +kernel
theorem dX9_stand_55 : decode cX9_stand 55 = .ok (.iconst 4, 1) := by decide +kernel
theorem dX9_stand_56 : decode cX9_stand 56 = .ok (.iload_n 1, 1) := by decide +kernel
theorem dX9_stand_57 : decode cX9_stand 57 = .ok (.bipush 10, 2) := by decide +kernel
theorem dX9_stand_59 : decode cX9_stand 59 = .ok (.imul, 1) := by decide +kernel
theorem dX9_stand_60 : decode cX9_stand 60 = .ok (.iload_n 2, 1) := by decide +kernel
theorem dX9_stand_61 : decode cX9_stand 61 = .ok (.iadd, 1) := by decide +kernel
theorem dX9_stand_62 : decode cX9_stand 62 = .ok (.invokevirtual 173, 3) := by decide +kernel
theorem dX9_stand_65 : decode cX9_stand 65 = .ok (.pop, 1) := by decide +kernel
theorem dX9_stand_66 : decode cX9_stand 66 = .ok (.iload_n 3, 1) := by decide +kernel
theorem dX9_stand_67 : decode cX9_stand 67 = .ok (.ireturn, 1) := by decide +kernel
theorem dX9_undo_0 : decode cX9_undo 0 = .ok (.iload_n 1, 1) := by decide +kernel
theorem dX9_undo_1 : decode cX9_undo 1 = .ok (.ifCond .lt 14, 3) := by decide +kernel
theorem dX9_undo_4 : decode cX9_undo 4 = .ok (.iload_n 1, 1) := by decide +kernel
theorem dX9_undo_5 : decode cX9_undo 5 = .ok (.aload_n 0, 1) := by decide +kernel
theorem dX9_undo_6 : decode cX9_undo 6 = .ok (.getfield 31, 3) := by decide +kernel
theorem dX9_undo_9 : decode cX9_undo 9 = .ok (.getfield 124, 3) := by decide +kernel
theorem dX9_undo_12 : decode cX9_undo 12 = .ok (.if_icmp .le 5, 3) := by decide +kernel
theorem dX9_undo_15 : decode cX9_undo 15 = .ok (.iconst (-1), 1) := by decide +kernel
theorem dX9_undo_16 : decode cX9_undo 16 = .ok (.ireturn, 1) := by decide +kernel
theorem dX9_undo_17 : decode cX9_undo 17 = .ok (.aload_n 0, 1) := by decide +kernel
theorem dX9_undo_18 : decode cX9_undo 18 = .ok (.getfield 31, 3) := by decide +kernel
theorem dX9_undo_21 : decode cX9_undo 21 = .ok (.getfield 124, 3) := by decide +kernel
theorem dX9_undo_24 : decode cX9_undo 24 = .ok (.iload_n 1, 1) := by decide +kernel
theorem dX9_undo_25 : decode cX9_undo 25 = .ok (.isub, 1) := by decide +kernel
theorem dX9_undo_26 : decode cX9_undo 26 = .ok (.istore_n 2, 1) := by decide +kernel
theorem dX9_undo_27 : decode cX9_undo 27 = .ok (.aload_n 0, 1) := by decide +kernel
theorem dX9_undo_28 : decode cX9_undo 28 = .ok (.getfield 31, 3) := by decide +kernel
theorem dX9_undo_31 : decode cX9_undo 31 = .ok (.iload_n 1, 1) := by decide +kernel
theorem dX9_undo_32 : decode cX9_undo 32 = .ok (.putfield 124, 3) := by decide +kernel
theorem dX9_undo_35 : decode cX9_undo 35 = .ok (.aload_n 0, 1) := by decide +kernel
theorem dX9_undo_36 : decode cX9_undo 36 = .ok (.invokevirtual 185, 3) := by decide +kernel
theorem dX9_undo_39 : decode cX9_undo 39 = .ok (.iload_n 2, 1) := by decide +kernel
theorem dX9_undo_40 : decode cX9_undo 40 = .ok (.ireturn, 1) := by decide +kernel
theorem dX9_keep_0 : decode cX9_keep 0 = .ok (.iload_n 1, 1) := by decide +kernel
theorem dX9_keep_1 : decode cX9_keep 1 = .ok (.invokestatic 188, 3) := by decide +kernel
theorem dX9_keep_4 : decode cX9_keep 4 = .ok (.ifCond .ne 5, 3) := by decide +kernel
theorem dX9_keep_7 : decode cX9_keep 7 = .ok (.iconst (-1), 1) := by decide +kernel
theorem dX9_keep_8 : decode cX9_keep 8 = .ok (.ireturn, 1) := by decide +kernel
theorem dX9_keep_9 : decode cX9_keep 9 = .ok (.aload_n 0, 1) := by decide +kernel
theorem dX9_keep_10 : decode cX9_keep 10 = .ok (.getfield 71, 3) := by decide +kernel
theorem dX9_keep_13 : decode cX9_keep 13 = .ok (.getfield 127, 3) := by decide +kernel
theorem dX9_keep_16 : decode cX9_keep 16 = .ok (.ifCond .ne 6, 3) := by decide +kernel
theorem dX9_keep_19 : decode cX9_keep 19 = .ok (.bipush (-4), 2) := by decide +kernel
theorem dX9_keep_21 : decode cX9_keep 21 = .ok (.ireturn, 1) := by decide +kernel
theorem dX9_keep_22 : decode cX9_keep 22 = .ok (.aload_n 0, 1) := by decide +kernel
theorem dX9_keep_23 : decode cX9_keep 23 = .ok (.getfield 35, 3) := by decide +kernel
theorem dX9_keep_26 : decode cX9_keep 26 = .ok (.iload_n 1, 1) := by decide +kernel
theorem dX9_keep_27 : decode cX9_keep 27 = .ok (.aaload, 1) := by decide +kernel
theorem dX9_keep_28 : decode cX9_keep 28 = .ok (.aload_n 0, 1) := by decide +kernel
theorem dX9_keep_29 : decode cX9_keep 29 = .ok (.getfield 31, 3) := by decide +kernel
theorem dX9_keep_32 : decode cX9_keep 32 = .ok (.invokevirtual 191, 3) := by decide +kernel
theorem dX9_keep_35 : decode cX9_keep 35 = .ok (.aload_n 0, 1) := by decide +kernel
theorem dX9_keep_36 : decode cX9_keep 36 = .ok (.getfield 31, 3) := by decide +kernel
theorem dX9_keep_39 : decode cX9_keep 39 = .ok (.getfield 124, 3) := by decide +kernel
theorem dX9_keep_42 : decode cX9_keep 42 = .ok (.ireturn, 1) := by decide +kernel
theorem dX9_on_0 : decode cX9_on 0 = .ok (.iload_n 1, 1) := by decide +kernel
theorem dX9_on_1 : decode cX9_on 1 = .ok (.invokestatic 188, 3) := by decide +kernel
theorem dX9_on_4 : decode cX9_on 4 = .ok (.ifCond .ne 5, 3) := by decide +kernel
theorem dX9_on_7 : decode cX9_on 7 = .ok (.iconst (-1), 1) := by decide +kernel
theorem dX9_on_8 : decode cX9_on 8 = .ok (.ireturn, 1) := by decide +kernel
theorem dX9_on_9 : decode cX9_on 9 = .ok (.aload_n 0, 1) := by decide +kernel
theorem dX9_on_10 : decode cX9_on 10 = .ok (.getfield 35, 3) := by decide +kernel
theorem dX9_on_13 : decode cX9_on 13 = .ok (.iload_n 1, 1) := by decide +kernel
theorem dX9_on_14 : decode cX9_on 14 = .ok (.aaload, 1) := by decide +kernel
theorem dX9_on_15 : decode cX9_on 15 = .ok (.getfield 124, 3) := by decide +kernel
theorem dX9_on_18 : decode cX9_on 18 = .ok (.iconst (-1), 1) := by decide +kernel
theorem dX9_on_19 : decode cX9_on 19 = .ok (.if_icmp .ne 9, 3) := by decide +kernel
theorem dX9_on_22 : decode cX9_on 22 = .ok (.aload_n 0, 1) := by decide +kernel
theorem dX9_on_23 : decode cX9_on 23 = .ok (.iconst 1, 1) := by decide +kernel
theorem dX9_on_24 : decode cX9_on 24 = .ok (.invokevirtual 87, 3) := by decide +kernel
theorem dX9_on_27 : decode cX9_on 27 = .ok (.ireturn, 1) := by decide +kernel
theorem dX9_on_28 : decode cX9_on 28 = .ok (.aload_n 0, 1) := by decide +kernel
theorem dX9_on_29 : decode cX9_on 29 = .ok (.getfield 31, 3) := by decide +kernel
theorem dX9_on_32 : decode cX9_on 32 = .ok (.aload_n 0, 1) := by decide +kernel
theorem dX9_on_33 : decode cX9_on 33 = .ok (.getfield 35, 3) := by decide +kernel
theorem dX9_on_36 : decode cX9_on 36 = .ok (.iload_n 1, 1) := by decide +kernel
theorem dX9_on_37 : decode cX9_on 37 = .ok (.aaload, 1) := by decide +kernel
theorem dX9_on_38 : decode cX9_on 38 = .ok (.invokevirtual 191, 3) := by decide +kernel
theorem dX9_on_41 : decode cX9_on 41 = .ok (.aload_n 0, 1) := by decide +kernel
theorem dX9_on_42 : decode cX9_on 42 = .ok (.invokevirtual 185, 3) := by decide +kernel
theorem dX9_on_45 : decode cX9_on 45 = .ok (.aload_n 0, 1) := by decide +kernel
theorem dX9_on_46 : decode cX9_on 46 = .ok (.getfield 31, 3) := by decide +kernel
theorem dX9_on_49 : decode cX9_on 49 = .ok (.getfield 124, 3) := by decide +kernel
theorem dX9_on_52 : decode cX9_on 52 = .ok (.ireturn, 1) := by decide +kernel
theorem dX9_gathers_0 : decode cX9_gathers 0 = .ok (.aload_n 0, 1) := by decide +kernel
theorem dX9_gathers_1 : decode cX9_gathers 1 = .ok (.getfield 71, 3) := by decide +kernel
theorem dX9_gathers_4 : decode cX9_gathers 4 = .ok (.iload_n 1, 1) := by decide +kernel
theorem dX9_gathers_5 : decode cX9_gathers 5 = .ok (.invokevirtual 130, 3) := by decide +kernel
theorem dX9_gathers_8 : decode cX9_gathers 8 = .ok (.ifCond .eq 13, 3) := by decide +kernel
theorem dX9_gathers_11 : decode cX9_gathers 11 = .ok (.iload_n 2, 1) := by decide +kernel
theorem dX9_gathers_12 : decode cX9_gathers 12 = .ok (.ifCond .lt 9, 3) := by decide +kernel
theorem dX9_gathers_15 : decode cX9_gathers 15 = .ok (.iload_n 2, 1) := by decide +kernel
theorem dX9_gathers_16 : decode cX9_gathers 16 = .ok (.bipush 60, 2) := by decide +kernel
theorem dX9_gathers_18 : decode cX9_gathers 18 = .ok (.if_icmp .le 5, 3) := by decide +kernel
theorem dX9_gathers_21 : decode cX9_gathers 21 = .ok (.iconst (-1), 1) := by decide +kernel
theorem dX9_gathers_22 : decode cX9_gathers 22 = .ok (.ireturn, 1) := by decide +kernel
theorem dX9_gathers_23 : decode cX9_gathers 23 = .ok (.aload_n 0, 1) := by decide +kernel
theorem dX9_gathers_24 : decode cX9_gathers 24 = .ok (.getfield 71, 3) := by decide +kernel
theorem dX9_gathers_27 : decode cX9_gathers 27 = .ok (.iload_n 1, 1) := by decide +kernel
theorem dX9_gathers_28 : decode cX9_gathers 28 = .ok (.iload_n 2, 1) := by decide +kernel
theorem dX9_gathers_29 : decode cX9_gathers 29 = .ok (.invokevirtual 194, 3) := by decide +kernel
theorem dX9_gathers_32 : decode cX9_gathers 32 = .ok (.ireturn, 1) := by decide +kernel
theorem dX9_cloud_0 : decode cX9_cloud 0 = .ok (.iload_n 1, 1) := by decide +kernel
theorem dX9_cloud_1 : decode cX9_cloud 1 = .ok (.ifCond .lt 9, 3) := by decide +kernel
theorem dX9_cloud_4 : decode cX9_cloud 4 = .ok (.iload_n 1, 1) := by decide +kernel
theorem dX9_cloud_5 : decode cX9_cloud 5 = .ok (.bipush 40, 2) := by decide +kernel
theorem dX9_cloud_7 : decode cX9_cloud 7 = .ok (.if_icmp .le 5, 3) := by decide +kernel
theorem dX9_cloud_10 : decode cX9_cloud 10 = .ok (.iconst (-1), 1) := by decide +kernel
theorem dX9_cloud_11 : decode cX9_cloud 11 = .ok (.ireturn, 1) := by decide +kernel
theorem dX9_cloud_12 : decode cX9_cloud 12 = .ok (.aload_n 0, 1) := by decide +kernel
theorem dX9_cloud_13 : decode cX9_cloud 13 = .ok (.getfield 71, 3) := by decide +kernel
theorem dX9_cloud_16 : decode cX9_cloud 16 = .ok (.getfield 127, 3) := by decide +kernel
theorem dX9_cloud_19 : decode cX9_cloud 19 = .ok (.ifCond .ne 6, 3) := by decide +kernel
theorem dX9_cloud_22 : decode cX9_cloud 22 = .ok (.bipush (-4), 2) := by decide +kernel
theorem dX9_cloud_24 : decode cX9_cloud 24 = .ok (.ireturn, 1) := by decide +kernel
theorem dX9_cloud_25 : decode cX9_cloud 25 = .ok (.aload_n 0, 1) := by decide +kernel
theorem dX9_cloud_26 : decode cX9_cloud 26 = .ok (.getfield 74, 3) := by decide +kernel
theorem dX9_cloud_29 : decode cX9_cloud 29 = .ok (.aload_n 0, 1) := by decide +kernel
theorem dX9_cloud_30 : decode cX9_cloud 30 = .ok (.getfield 71, 3) := by decide +kernel
theorem dX9_cloud_33 : decode cX9_cloud 33 = .ok (.invokevirtual 120, 3) := by decide +kernel
theorem dX9_cloud_36 : decode cX9_cloud 36 = .ok (.aload_n 0, 1) := by decide +kernel
theorem dX9_cloud_37 : decode cX9_cloud 37 = .ok (.getfield 74, 3) := by decide +kernel
theorem dX9_cloud_40 : decode cX9_cloud 40 = .ok (.iload_n 1, 1) := by decide +kernel
theorem dX9_cloud_41 : decode cX9_cloud 41 = .ok (.invokevirtual 197, 3) := by decide +kernel
theorem dX9_cloud_44 : decode cX9_cloud 44 = .ok (.aload_n 0, 1) := by decide +kernel
theorem dX9_cloud_45 : decode cX9_cloud 45 = .ok (.aload_n 0, 1) := by decide +kernel
theorem dX9_cloud_46 : decode cX9_cloud 46 = .ok (.getfield 74, 3) := by decide +kernel
theorem dX9_cloud_49 : decode cX9_cloud 49 = .ok (.getfield 200, 3) := by decide +kernel
theorem dX9_cloud_52 : decode cX9_cloud 52 = .ok (.putfield 49, 3) := by decide +kernel
theorem dX9_cloud_55 : decode cX9_cloud 55 = .ok (.aload_n 0, 1) := by decide +kernel
theorem dX9_cloud_56 : decode cX9_cloud 56 = .ok (.getfield 74, 3) := by decide +kernel
theorem dX9_cloud_59 : decode cX9_cloud 59 = .ok (.getfield 159, 3) := by decide +kernel
theorem dX9_cloud_62 : decode cX9_cloud 62 = .ok (.ireturn, 1) := by decide +kernel
theorem dX9_share_0 : decode cX9_share 0 = .ok (.aload_n 0, 1) := by decide +kernel
theorem dX9_share_1 : decode cX9_share 1 = .ok (.getfield 71, 3) := by decide +kernel
theorem dX9_share_4 : decode cX9_share 4 = .ok (.iload_n 1, 1) := by decide +kernel
theorem dX9_share_5 : decode cX9_share 5 = .ok (.invokevirtual 130, 3) := by decide +kernel
theorem dX9_share_8 : decode cX9_share 8 = .ok (.ifCond .eq 13, 3) := by decide +kernel
theorem dX9_share_11 : decode cX9_share 11 = .ok (.iload_n 2, 1) := by decide +kernel
theorem dX9_share_12 : decode cX9_share 12 = .ok (.ifCond .lt 9, 3) := by decide +kernel
theorem dX9_share_15 : decode cX9_share 15 = .ok (.iload_n 2, 1) := by decide +kernel
theorem dX9_share_16 : decode cX9_share 16 = .ok (.bipush 40, 2) := by decide +kernel
theorem dX9_share_18 : decode cX9_share 18 = .ok (.if_icmp .le 5, 3) := by decide +kernel
theorem dX9_share_21 : decode cX9_share 21 = .ok (.iconst (-1), 1) := by decide +kernel
theorem dX9_share_22 : decode cX9_share 22 = .ok (.ireturn, 1) := by decide +kernel
theorem dX9_share_23 : decode cX9_share 23 = .ok (.aload_n 0, 1) := by decide +kernel
theorem dX9_share_24 : decode cX9_share 24 = .ok (.getfield 74, 3) := by decide +kernel
theorem dX9_share_27 : decode cX9_share 27 = .ok (.aload_n 0, 1) := by decide +kernel
theorem dX9_share_28 : decode cX9_share 28 = .ok (.getfield 71, 3) := by decide +kernel
theorem dX9_share_31 : decode cX9_share 31 = .ok (.invokevirtual 120, 3) := by decide +kernel
theorem dX9_share_34 : decode cX9_share 34 = .ok (.aload_n 0, 1) := by decide +kernel
theorem dX9_share_35 : decode cX9_share 35 = .ok (.getfield 74, 3) := by decide +kernel
theorem dX9_share_38 : decode cX9_share 38 = .ok (.iload_n 2, 1) := by decide +kernel
theorem dX9_share_39 : decode cX9_share 39 = .ok (.invokevirtual 197, 3) := by decide +kernel
theorem dX9_share_42 : decode cX9_share 42 = .ok (.aload_n 0, 1) := by decide +kernel
theorem dX9_share_43 : decode cX9_share 43 = .ok (.getfield 74, 3) := by decide +kernel
theorem dX9_share_46 : decode cX9_share 46 = .ok (.getfield 146, 3) := by decide +kernel
theorem dX9_share_49 : decode cX9_share 49 = .ok (.iload_n 1, 1) := by decide +kernel
theorem dX9_share_50 : decode cX9_share 50 = .ok (.iaload, 1) := by decide +kernel
theorem dX9_share_51 : decode cX9_share 51 = .ok (.ireturn, 1) := by decide +kernel
theorem dX9_first_0 : decode cX9_first 0 = .ok (.aload_n 0, 1) := by decide +kernel
theorem dX9_first_1 : decode cX9_first 1 = .ok (.getfield 71, 3) := by decide +kernel
theorem dX9_first_4 : decode cX9_first 4 = .ok (.iload_n 1, 1) := by decide +kernel
theorem dX9_first_5 : decode cX9_first 5 = .ok (.invokevirtual 130, 3) := by decide +kernel
theorem dX9_first_8 : decode cX9_first 8 = .ok (.ifCond .ne 5, 3) := by decide +kernel
theorem dX9_first_11 : decode cX9_first 11 = .ok (.iconst (-1), 1) := by decide +kernel
theorem dX9_first_12 : decode cX9_first 12 = .ok (.ireturn, 1) := by decide +kernel
theorem dX9_first_13 : decode cX9_first 13 = .ok (.aload_n 0, 1) := by decide +kernel
theorem dX9_first_14 : decode cX9_first 14 = .ok (.getfield 74, 3) := by decide +kernel
theorem dX9_first_17 : decode cX9_first 17 = .ok (.aload_n 0, 1) := by decide +kernel
theorem dX9_first_18 : decode cX9_first 18 = .ok (.getfield 71, 3) := by decide +kernel
theorem dX9_first_21 : decode cX9_first 21 = .ok (.invokevirtual 120, 3) := by decide +kernel
theorem dX9_first_24 : decode cX9_first 24 = .ok (.iconst 1, 1) := by decide +kernel
theorem dX9_first_25 : decode cX9_first 25 = .ok (.istore_n 2, 1) := by decide +kernel
theorem dX9_first_26 : decode cX9_first 26 = .ok (.iload_n 2, 1) := by decide +kernel
theorem dX9_first_27 : decode cX9_first 27 = .ok (.bipush 40, 2) := by decide +kernel
theorem dX9_first_29 : decode cX9_first 29 = .ok (.if_icmp .gt 27, 3) := by decide +kernel
theorem dX9_first_32 : decode cX9_first 32 = .ok (.aload_n 0, 1) := by decide +kernel
theorem dX9_first_33 : decode cX9_first 33 = .ok (.getfield 74, 3) := by decide +kernel
theorem dX9_first_36 : decode cX9_first 36 = .ok (.iconst 0, 1) := by decide +kernel
theorem dX9_first_37 : decode cX9_first 37 = .ok (.invokevirtual 203, 3) := by decide +kernel
theorem dX9_first_40 : decode cX9_first 40 = .ok (.iload_n 1, 1) := by decide +kernel
theorem dX9_first_41 : decode cX9_first 41 = .ok (.ishr, 1) := by decide +kernel
theorem dX9_first_42 : decode cX9_first 42 = .ok (.iconst 1, 1) := by decide +kernel
theorem dX9_first_43 : decode cX9_first 43 = .ok (.iand, 1) := by decide +kernel
theorem dX9_first_44 : decode cX9_first 44 = .ok (.iconst 1, 1) := by decide +kernel
theorem dX9_first_45 : decode cX9_first 45 = .ok (.if_icmp .ne 5, 3) := by decide +kernel
theorem dX9_first_48 : decode cX9_first 48 = .ok (.iload_n 2, 1) := by decide +kernel
theorem dX9_first_49 : decode cX9_first 49 = .ok (.ireturn, 1) := by decide +kernel
theorem dX9_first_50 : decode cX9_first 50 = .ok (.iinc 2 1, 3) := by decide +kernel
theorem dX9_first_53 : decode cX9_first 53 = .ok (.goto (-27), 3) := by decide +kernel
theorem dX9_first_56 : decode cX9_first 56 = .ok (.bipush (-9), 2) := by decide +kernel
theorem dX9_first_58 : decode cX9_first 58 = .ok (.ireturn, 1) := by decide +kernel
theorem dX9_away_0 : decode cX9_away 0 = .ok (.aload_n 0, 1) := by decide +kernel
theorem dX9_away_1 : decode cX9_away 1 = .ok (.getfield 71, 3) := by decide +kernel
theorem dX9_away_4 : decode cX9_away 4 = .ok (.iload_n 1, 1) := by decide +kernel
theorem dX9_away_5 : decode cX9_away 5 = .ok (.invokevirtual 130, 3) := by decide +kernel
theorem dX9_away_8 : decode cX9_away 8 = .ok (.ifCond .eq 20, 3) := by decide +kernel
theorem dX9_away_11 : decode cX9_away 11 = .ok (.iload_n 2, 1) := by decide +kernel
theorem dX9_away_12 : decode cX9_away 12 = .ok (.ifCond .lt 16, 3) := by decide +kernel
theorem dX9_away_15 : decode cX9_away 15 = .ok (.iload_n 2, 1) := by decide +kernel
theorem dX9_away_16 : decode cX9_away 16 = .ok (.bipush 30, 2) := by decide +kernel
theorem dX9_away_18 : decode cX9_away 18 = .ok (.if_icmp .gt 10, 3) := by decide +kernel
theorem dX9_away_21 : decode cX9_away 21 = .ok (.iload_n 3, 1) := by decide +kernel
theorem dX9_away_22 : decode cX9_away 22 = .ok (.invokestatic 206, 3) := by decide +kernel
theorem dX9_away_25 : decode cX9_away 25 = .ok (.ifCond .ne 5, 3) := by decide +kernel
theorem dX9_away_28 : decode cX9_away 28 = .ok (.iconst (-1), 1) := by decide +kernel
theorem dX9_away_29 : decode cX9_away 29 = .ok (.ireturn, 1) := by decide +kernel
theorem dX9_away_30 : decode cX9_away 30 = .ok (.bipush 6, 2) := by decide +kernel
theorem dX9_away_32 : decode cX9_away 32 = .ok (.istore 4, 2) := by decide +kernel
theorem dX9_away_34 : decode cX9_away 34 = .ok (.iconst 0, 1) := by decide +kernel
theorem dX9_away_35 : decode cX9_away 35 = .ok (.istore 5, 2) := by decide +kernel
theorem dX9_away_37 : decode cX9_away 37 = .ok (.iconst 0, 1) := by decide +kernel
theorem dX9_away_38 : decode cX9_away 38 = .ok (.istore 6, 2) := by decide +kernel
theorem dX9_away_40 : decode cX9_away 40 = .ok (.iload 6, 2) := by decide +kernel
theorem dX9_away_42 : decode cX9_away 42 = .ok (.iconst 1, 1) := by decide +kernel
theorem dX9_away_43 : decode cX9_away 43 = .ok (.aload_n 0, 1) := by decide +kernel
theorem dX9_away_44 : decode cX9_away 44 = .ok (.getfield 71, 3) := by decide +kernel
theorem dX9_away_47 : decode cX9_away 47 = .ok (.getfield 127, 3) := by decide +kernel
theorem dX9_away_50 : decode cX9_away 50 = .ok (.ishl, 1) := by decide +kernel
theorem dX9_away_51 : decode cX9_away 51 = .ok (.if_icmp .ge 52, 3) := by decide +kernel
theorem dX9_away_54 : decode cX9_away 54 = .ok (.iload 6, 2) := by decide +kernel
theorem dX9_away_56 : decode cX9_away 56 = .ok (.invokestatic 209, 3) := by decide +kernel
theorem dX9_away_59 : decode cX9_away 59 = .ok (.istore 7, 2) := by decide +kernel
theorem dX9_away_61 : decode cX9_away 61 = .ok (.iload 6, 2) := by decide +kernel
theorem dX9_away_63 : decode cX9_away 63 = .ok (.iload_n 1, 1) := by decide +kernel
theorem dX9_away_64 : decode cX9_away 64 = .ok (.ishr, 1) := by decide +kernel
theorem dX9_away_65 : decode cX9_away 65 = .ok (.iconst 1, 1) := by decide +kernel
theorem dX9_away_66 : decode cX9_away 66 = .ok (.iand, 1) := by decide +kernel
theorem dX9_away_67 : decode cX9_away 67 = .ok (.ifCond .ne 30, 3) := by decide +kernel
theorem dX9_away_70 : decode cX9_away 70 = .ok (.iload 7, 2) := by decide +kernel
theorem dX9_away_72 : decode cX9_away 72 = .ok (.iload 4, 2) := by decide +kernel
theorem dX9_away_74 : decode cX9_away 74 = .ok (.if_icmp .ge 23, 3) := by decide +kernel
theorem dX9_away_77 : decode cX9_away 77 = .ok (.aload_n 0, 1) := by decide +kernel
theorem dX9_away_78 : decode cX9_away 78 = .ok (.iload 6, 2) := by decide +kernel
theorem dX9_away_80 : decode cX9_away 80 = .ok (.iload_n 1, 1) := by decide +kernel
theorem dX9_away_81 : decode cX9_away 81 = .ok (.iload_n 3, 1) := by decide +kernel
theorem dX9_away_82 : decode cX9_away 82 = .ok (.invokevirtual 214, 3) := by decide +kernel
theorem dX9_away_85 : decode cX9_away 85 = .ok (.iload_n 2, 1) := by decide +kernel
theorem dX9_away_86 : decode cX9_away 86 = .ok (.if_icmp .lt 11, 3) := by decide +kernel
theorem dX9_away_89 : decode cX9_away 89 = .ok (.iload 7, 2) := by decide +kernel
theorem dX9_away_91 : decode cX9_away 91 = .ok (.istore 4, 2) := by decide +kernel
theorem dX9_away_93 : decode cX9_away 93 = .ok (.iload 6, 2) := by decide +kernel
theorem dX9_away_95 : decode cX9_away 95 = .ok (.istore 5, 2) := by decide +kernel
theorem dX9_away_97 : decode cX9_away 97 = .ok (.iinc 6 1, 3) := by decide +kernel
theorem dX9_away_100 : decode cX9_away 100 = .ok (.goto (-60), 3) := by decide +kernel
theorem dX9_away_103 : decode cX9_away 103 = .ok (.iload 4, 2) := by decide +kernel
theorem dX9_away_105 : decode cX9_away 105 = .ok (.bipush 6, 2) := by decide +kernel
theorem dX9_away_107 : decode cX9_away 107 = .ok (.if_icmp .ne 6, 3) := by decide +kernel
theorem dX9_away_110 : decode cX9_away 110 = .ok (.bipush (-9), 2) := by decide +kernel
theorem dX9_away_112 : decode cX9_away 112 = .ok (.ireturn, 1) := by decide +kernel
theorem dX9_away_113 : decode cX9_away 113 = .ok (.aload_n 0, 1) := by decide +kernel
theorem dX9_away_114 : decode cX9_away 114 = .ok (.iload 5, 2) := by decide +kernel
theorem dX9_away_116 : decode cX9_away 116 = .ok (.putfield 49, 3) := by decide +kernel
theorem dX9_away_119 : decode cX9_away 119 = .ok (.iload 4, 2) := by decide +kernel
theorem dX9_away_121 : decode cX9_away 121 = .ok (.ireturn, 1) := by decide +kernel
theorem dX9_best_0 : decode cX9_best 0 = .ok (.aload_n 0, 1) := by decide +kernel
theorem dX9_best_1 : decode cX9_best 1 = .ok (.getfield 71, 3) := by decide +kernel
theorem dX9_best_4 : decode cX9_best 4 = .ok (.iload_n 1, 1) := by decide +kernel
theorem dX9_best_5 : decode cX9_best 5 = .ok (.invokevirtual 130, 3) := by decide +kernel
theorem dX9_best_8 : decode cX9_best 8 = .ok (.ifCond .eq 10, 3) := by decide +kernel
theorem dX9_best_11 : decode cX9_best 11 = .ok (.iload_n 2, 1) := by decide +kernel
theorem dX9_best_12 : decode cX9_best 12 = .ok (.invokestatic 206, 3) := by decide +kernel
theorem dX9_best_15 : decode cX9_best 15 = .ok (.ifCond .ne 5, 3) := by decide +kernel
theorem dX9_best_18 : decode cX9_best 18 = .ok (.iconst (-1), 1) := by decide +kernel
theorem dX9_best_19 : decode cX9_best 19 = .ok (.ireturn, 1) := by decide +kernel
theorem dX9_best_20 : decode cX9_best 20 = .ok (.iconst (-1), 1) := by decide +kernel
theorem dX9_best_21 : decode cX9_best 21 = .ok (.istore_n 3, 1) := by decide +kernel
theorem dX9_best_22 : decode cX9_best 22 = .ok (.iconst 0, 1) := by decide +kernel
theorem dX9_best_23 : decode cX9_best 23 = .ok (.istore 4, 2) := by decide +kernel
theorem dX9_best_25 : decode cX9_best 25 = .ok (.iconst 0, 1) := by decide +kernel
theorem dX9_best_26 : decode cX9_best 26 = .ok (.istore 5, 2) := by decide +kernel
theorem dX9_best_28 : decode cX9_best 28 = .ok (.iload 5, 2) := by decide +kernel
theorem dX9_best_30 : decode cX9_best 30 = .ok (.bipush 10, 2) := by decide +kernel
theorem dX9_best_32 : decode cX9_best 32 = .ok (.if_icmp .ge 66, 3) := by decide +kernel
theorem dX9_best_35 : decode cX9_best 35 = .ok (.aload_n 0, 1) := by decide +kernel
theorem dX9_best_36 : decode cX9_best 36 = .ok (.getfield 74, 3) := by decide +kernel
theorem dX9_best_39 : decode cX9_best 39 = .ok (.aload_n 0, 1) := by decide +kernel
theorem dX9_best_40 : decode cX9_best 40 = .ok (.getfield 71, 3) := by decide +kernel
theorem dX9_best_43 : decode cX9_best 43 = .ok (.invokevirtual 120, 3) := by decide +kernel
theorem dX9_best_46 : decode cX9_best 46 = .ok (.aload_n 0, 1) := by decide +kernel
theorem dX9_best_47 : decode cX9_best 47 = .ok (.getfield 74, 3) := by decide +kernel
theorem dX9_best_50 : decode cX9_best 50 = .ok (.getfield 182, 3) := by decide +kernel
theorem dX9_best_53 : decode cX9_best 53 = .ok (.iload_n 1, 1) := by decide +kernel
theorem dX9_best_54 : decode cX9_best 54 = .ok (.iload 5, 2) := by decide +kernel
theorem dX9_best_56 : decode cX9_best 56 = .ok (.iastore, 1) := by decide +kernel
theorem dX9_best_57 : decode cX9_best 57 = .ok (.aload_n 0, 1) := by decide +kernel
theorem dX9_best_58 : decode cX9_best 58 = .ok (.getfield 74, 3) := by decide +kernel
theorem dX9_best_61 : decode cX9_best 61 = .ok (.iload_n 2, 1) := by decide +kernel
theorem dX9_best_62 : decode cX9_best 62 = .ok (.invokevirtual 197, 3) := by decide +kernel
theorem dX9_best_65 : decode cX9_best 65 = .ok (.aload_n 0, 1) := by decide +kernel
theorem dX9_best_66 : decode cX9_best 66 = .ok (.getfield 74, 3) := by decide +kernel
theorem dX9_best_69 : decode cX9_best 69 = .ok (.getfield 146, 3) := by decide +kernel
theorem dX9_best_72 : decode cX9_best 72 = .ok (.iload_n 1, 1) := by decide +kernel
theorem dX9_best_73 : decode cX9_best 73 = .ok (.iaload, 1) := by decide +kernel
theorem dX9_best_74 : decode cX9_best 74 = .ok (.iload_n 3, 1) := by decide +kernel
theorem dX9_best_75 : decode cX9_best 75 = .ok (.if_icmp .le 17, 3) := by decide +kernel
theorem dX9_best_78 : decode cX9_best 78 = .ok (.aload_n 0, 1) := by decide +kernel
theorem dX9_best_79 : decode cX9_best 79 = .ok (.getfield 74, 3) := by decide +kernel
theorem dX9_best_82 : decode cX9_best 82 = .ok (.getfield 146, 3) := by decide +kernel
theorem dX9_best_85 : decode cX9_best 85 = .ok (.iload_n 1, 1) := by decide +kernel
theorem dX9_best_86 : decode cX9_best 86 = .ok (.iaload, 1) := by decide +kernel
theorem dX9_best_87 : decode cX9_best 87 = .ok (.istore_n 3, 1) := by decide +kernel
theorem dX9_best_88 : decode cX9_best 88 = .ok (.iload 5, 2) := by decide +kernel
theorem dX9_best_90 : decode cX9_best 90 = .ok (.istore 4, 2) := by decide +kernel
theorem dX9_best_92 : decode cX9_best 92 = .ok (.iinc 5 1, 3) := by decide +kernel
theorem dX9_best_95 : decode cX9_best 95 = .ok (.goto (-67), 3) := by decide +kernel
theorem dX9_best_98 : decode cX9_best 98 = .ok (.aload_n 0, 1) := by decide +kernel
theorem dX9_best_99 : decode cX9_best 99 = .ok (.iload_n 3, 1) := by decide +kernel
theorem dX9_best_100 : decode cX9_best 100 = .ok (.putfield 49, 3) := by decide +kernel
theorem dX9_best_103 : decode cX9_best 103 = .ok (.iload 4, 2) := by decide +kernel
theorem dX9_best_105 : decode cX9_best 105 = .ok (.ireturn, 1) := by decide +kernel
theorem dX9_least_0 : decode cX9_least 0 = .ok (.iload_n 1, 1) := by decide +kernel
theorem dX9_least_1 : decode cX9_least 1 = .ok (.ifCond .lt 23, 3) := by decide +kernel
theorem dX9_least_4 : decode cX9_least 4 = .ok (.iload_n 1, 1) := by decide +kernel
theorem dX9_least_5 : decode cX9_least 5 = .ok (.iconst 1, 1) := by decide +kernel
theorem dX9_least_6 : decode cX9_least 6 = .ok (.aload_n 0, 1) := by decide +kernel
theorem dX9_least_7 : decode cX9_least 7 = .ok (.getfield 71, 3) := by decide +kernel
theorem dX9_least_10 : decode cX9_least 10 = .ok (.getfield 127, 3) := by decide +kernel
theorem dX9_least_13 : decode cX9_least 13 = .ok (.ishl, 1) := by decide +kernel
theorem dX9_least_14 : decode cX9_least 14 = .ok (.if_icmp .ge 10, 3) := by decide +kernel
theorem dX9_least_17 : decode cX9_least 17 = .ok (.iload_n 2, 1) := by decide +kernel
theorem dX9_least_18 : decode cX9_least 18 = .ok (.invokestatic 206, 3) := by decide +kernel
theorem dX9_least_21 : decode cX9_least 21 = .ok (.ifCond .ne 5, 3) := by decide +kernel
theorem dX9_least_24 : decode cX9_least 24 = .ok (.iconst (-1), 1) := by decide +kernel
theorem dX9_least_25 : decode cX9_least 25 = .ok (.ireturn, 1) := by decide +kernel
theorem dX9_least_26 : decode cX9_least 26 = .ok (.aload_n 0, 1) := by decide +kernel
theorem dX9_least_27 : decode cX9_least 27 = .ok (.getfield 71, 3) := by decide +kernel
theorem dX9_least_30 : decode cX9_least 30 = .ok (.getfield 127, 3) := by decide +kernel
theorem dX9_least_33 : decode cX9_least 33 = .ok (.ifCond .ne 6, 3) := by decide +kernel
theorem dX9_least_36 : decode cX9_least 36 = .ok (.bipush (-4), 2) := by decide +kernel
theorem dX9_least_38 : decode cX9_least 38 = .ok (.ireturn, 1) := by decide +kernel
theorem dX9_least_39 : decode cX9_least 39 = .ok (.iconst 0, 1) := by decide +kernel
theorem dX9_least_40 : decode cX9_least 40 = .ok (.istore_n 3, 1) := by decide +kernel
theorem dX9_least_41 : decode cX9_least 41 = .ok (.iload_n 3, 1) := by decide +kernel
theorem dX9_least_42 : decode cX9_least 42 = .ok (.bipush 30, 2) := by decide +kernel
theorem dX9_least_44 : decode cX9_least 44 = .ok (.if_icmp .gt 23, 3) := by decide +kernel
theorem dX9_least_47 : decode cX9_least 47 = .ok (.aload_n 0, 1) := by decide +kernel
theorem dX9_least_48 : decode cX9_least 48 = .ok (.iload_n 3, 1) := by decide +kernel
theorem dX9_least_49 : decode cX9_least 49 = .ok (.iload_n 2, 1) := by decide +kernel
theorem dX9_least_50 : decode cX9_least 50 = .ok (.invokevirtual 218, 3) := by decide +kernel
theorem dX9_least_53 : decode cX9_least 53 = .ok (.iload_n 1, 1) := by decide +kernel
theorem dX9_least_54 : decode cX9_least 54 = .ok (.iand, 1) := by decide +kernel
theorem dX9_least_55 : decode cX9_least 55 = .ok (.iload_n 1, 1) := by decide +kernel
theorem dX9_least_56 : decode cX9_least 56 = .ok (.if_icmp .ne 5, 3) := by decide +kernel
theorem dX9_least_59 : decode cX9_least 59 = .ok (.iload_n 3, 1) := by decide +kernel
theorem dX9_least_60 : decode cX9_least 60 = .ok (.ireturn, 1) := by decide +kernel
theorem dX9_least_61 : decode cX9_least 61 = .ok (.iinc 3 1, 3) := by decide +kernel
theorem dX9_least_64 : decode cX9_least 64 = .ok (.goto (-23), 3) := by decide +kernel
theorem dX9_least_67 : decode cX9_least 67 = .ok (.bipush (-9), 2) := by decide +kernel
theorem dX9_least_69 : decode cX9_least 69 = .ok (.ireturn, 1) := by decide +kernel
theorem dX9_sizes_0 : decode cX9_sizes 0 = .ok (.aload_n 0, 1) := by decide +kernel
theorem dX9_sizes_1 : decode cX9_sizes 1 = .ok (.iload_n 1, 1) := by decide +kernel
theorem dX9_sizes_2 : decode cX9_sizes 2 = .ok (.iload_n 2, 1) := by decide +kernel
theorem dX9_sizes_3 : decode cX9_sizes 3 = .ok (.invokevirtual 221, 3) := by decide +kernel
theorem dX9_sizes_6 : decode cX9_sizes 6 = .ok (.istore_n 3, 1) := by decide +kernel
theorem dX9_sizes_7 : decode cX9_sizes 7 = .ok (.iload_n 3, 1) := by decide +kernel
theorem dX9_sizes_8 : decode cX9_sizes 8 = .ok (.ifCond .eq 5, 3) := by decide +kernel
theorem dX9_sizes_11 : decode cX9_sizes 11 = .ok (.iload_n 3, 1) := by decide +kernel
theorem dX9_sizes_12 : decode cX9_sizes 12 = .ok (.ireturn, 1) := by decide +kernel
theorem dX9_sizes_13 : decode cX9_sizes 13 = .ok (.aload_n 0, 1) := by decide +kernel
theorem dX9_sizes_14 : decode cX9_sizes 14 = .ok (.iload_n 1, 1) := by decide +kernel
theorem dX9_sizes_15 : decode cX9_sizes 15 = .ok (.iload_n 2, 1) := by decide +kernel
theorem dX9_sizes_16 : decode cX9_sizes 16 = .ok (.invokevirtual 224, 3) := by decide +kernel
theorem dX9_sizes_19 : decode cX9_sizes 19 = .ok (.ireturn, 1) := by decide +kernel
theorem dX9_winds_0 : decode cX9_winds 0 = .ok (.aload_n 0, 1) := by decide +kernel
theorem dX9_winds_1 : decode cX9_winds 1 = .ok (.iload_n 1, 1) := by decide +kernel
theorem dX9_winds_2 : decode cX9_winds 2 = .ok (.iload_n 2, 1) := by decide +kernel
theorem dX9_winds_3 : decode cX9_winds 3 = .ok (.invokevirtual 221, 3) := by decide +kernel
theorem dX9_winds_6 : decode cX9_winds 6 = .ok (.istore_n 3, 1) := by decide +kernel
theorem dX9_winds_7 : decode cX9_winds 7 = .ok (.iload_n 3, 1) := by decide +kernel
theorem dX9_winds_8 : decode cX9_winds 8 = .ok (.ifCond .eq 5, 3) := by decide +kernel
theorem dX9_winds_11 : decode cX9_winds 11 = .ok (.iload_n 3, 1) := by decide +kernel
theorem dX9_winds_12 : decode cX9_winds 12 = .ok (.ireturn, 1) := by decide +kernel
theorem dX9_winds_13 : decode cX9_winds 13 = .ok (.iconst 0, 1) := by decide +kernel
theorem dX9_winds_14 : decode cX9_winds 14 = .ok (.istore 4, 2) := by decide +kernel
theorem dX9_winds_16 : decode cX9_winds 16 = .ok (.iconst 0, 1) := by decide +kernel
theorem dX9_winds_17 : decode cX9_winds 17 = .ok (.istore 5, 2) := by decide +kernel
theorem dX9_winds_19 : decode cX9_winds 19 = .ok (.iload 5, 2) := by decide +kernel
theorem dX9_winds_21 : decode cX9_winds 21 = .ok (.iconst 2, 1) := by decide +kernel
theorem dX9_winds_22 : decode cX9_winds 22 = .ok (.if_icmp .gt 47, 3) := by decide +kernel
theorem dX9_winds_25 : decode cX9_winds 25 = .ok (.aload_n 0, 1) := by decide +kernel
theorem dX9_winds_26 : decode cX9_winds 26 = .ok (.getfield 74, 3) := by decide +kernel
theorem dX9_winds_29 : decode cX9_winds 29 = .ok (.aload_n 0, 1) := by decide +kernel
theorem dX9_winds_30 : decode cX9_winds 30 = .ok (.getfield 71, 3) := by decide +kernel
theorem dX9_winds_33 : decode cX9_winds 33 = .ok (.invokevirtual 120, 3) := by decide +kernel
theorem dX9_winds_36 : decode cX9_winds 36 = .ok (.aload_n 0, 1) := by decide +kernel
theorem dX9_winds_37 : decode cX9_winds 37 = .ok (.getfield 74, 3) := by decide +kernel
theorem dX9_winds_40 : decode cX9_winds 40 = .ok (.iload 5, 2) := by decide +kernel
theorem dX9_winds_42 : decode cX9_winds 42 = .ok (.putfield 176, 3) := by decide +kernel
theorem dX9_winds_45 : decode cX9_winds 45 = .ok (.aload_n 0, 1) := by decide +kernel
theorem dX9_winds_46 : decode cX9_winds 46 = .ok (.iload_n 1, 1) := by decide +kernel
theorem dX9_winds_47 : decode cX9_winds 47 = .ok (.iload_n 2, 1) := by decide +kernel
theorem dX9_winds_48 : decode cX9_winds 48 = .ok (.invokevirtual 227, 3) := by decide +kernel
theorem dX9_winds_51 : decode cX9_winds 51 = .ok (.ifCond .eq 12, 3) := by decide +kernel
theorem dX9_winds_54 : decode cX9_winds 54 = .ok (.iload 4, 2) := by decide +kernel
theorem dX9_winds_56 : decode cX9_winds 56 = .ok (.iconst 1, 1) := by decide +kernel
theorem dX9_winds_57 : decode cX9_winds 57 = .ok (.iload 5, 2) := by decide +kernel
theorem dX9_winds_59 : decode cX9_winds 59 = .ok (.ishl, 1) := by decide +kernel
theorem dX9_winds_60 : decode cX9_winds 60 = .ok (.ior, 1) := by decide +kernel
theorem dX9_winds_61 : decode cX9_winds 61 = .ok (.istore 4, 2) := by decide +kernel
theorem dX9_winds_63 : decode cX9_winds 63 = .ok (.iinc 5 1, 3) := by decide +kernel
theorem dX9_winds_66 : decode cX9_winds 66 = .ok (.goto (-47), 3) := by decide +kernel
theorem dX9_winds_69 : decode cX9_winds 69 = .ok (.iload 4, 2) := by decide +kernel
theorem dX9_winds_71 : decode cX9_winds 71 = .ok (.ireturn, 1) := by decide +kernel
theorem dX9_kinds_0 : decode cX9_kinds 0 = .ok (.aload_n 0, 1) := by decide +kernel
theorem dX9_kinds_1 : decode cX9_kinds 1 = .ok (.iload_n 1, 1) := by decide +kernel
theorem dX9_kinds_2 : decode cX9_kinds 2 = .ok (.iload_n 2, 1) := by decide +kernel
theorem dX9_kinds_3 : decode cX9_kinds 3 = .ok (.invokevirtual 221, 3) := by decide +kernel
theorem dX9_kinds_6 : decode cX9_kinds 6 = .ok (.istore_n 3, 1) := by decide +kernel
theorem dX9_kinds_7 : decode cX9_kinds 7 = .ok (.iload_n 3, 1) := by decide +kernel
theorem dX9_kinds_8 : decode cX9_kinds 8 = .ok (.ifCond .eq 5, 3) := by decide +kernel
theorem dX9_kinds_11 : decode cX9_kinds 11 = .ok (.iload_n 3, 1) := by decide +kernel
theorem dX9_kinds_12 : decode cX9_kinds 12 = .ok (.ireturn, 1) := by decide +kernel
theorem dX9_kinds_13 : decode cX9_kinds 13 = .ok (.iconst 0, 1) := by decide +kernel
theorem dX9_kinds_14 : decode cX9_kinds 14 = .ok (.istore 4, 2) := by decide +kernel
theorem dX9_kinds_16 : decode cX9_kinds 16 = .ok (.iconst 0, 1) := by decide +kernel
theorem dX9_kinds_17 : decode cX9_kinds 17 = .ok (.istore 5, 2) := by decide +kernel
theorem dX9_kinds_19 : decode cX9_kinds 19 = .ok (.iload 5, 2) := by decide +kernel
theorem dX9_kinds_21 : decode cX9_kinds 21 = .ok (.bipush 6, 2) := by decide +kernel
theorem dX9_kinds_23 : decode cX9_kinds 23 = .ok (.if_icmp .ge 49, 3) := by decide +kernel
theorem dX9_kinds_26 : decode cX9_kinds 26 = .ok (.aload_n 0, 1) := by decide +kernel
theorem dX9_kinds_27 : decode cX9_kinds 27 = .ok (.getfield 74, 3) := by decide +kernel
theorem dX9_kinds_30 : decode cX9_kinds 30 = .ok (.aload_n 0, 1) := by decide +kernel
theorem dX9_kinds_31 : decode cX9_kinds 31 = .ok (.getfield 71, 3) := by decide +kernel
theorem dX9_kinds_34 : decode cX9_kinds 34 = .ok (.invokevirtual 120, 3) := by decide +kernel
theorem dX9_kinds_37 : decode cX9_kinds 37 = .ok (.aload_n 0, 1) := by decide +kernel
theorem dX9_kinds_38 : decode cX9_kinds 38 = .ok (.getfield 74, 3) := by decide +kernel
theorem dX9_kinds_41 : decode cX9_kinds 41 = .ok (.getfield 231, 3) := by decide +kernel
theorem dX9_kinds_44 : decode cX9_kinds 44 = .ok (.iload_n 1, 1) := by decide +kernel
theorem dX9_kinds_45 : decode cX9_kinds 45 = .ok (.iload 5, 2) := by decide +kernel
theorem dX9_kinds_47 : decode cX9_kinds 47 = .ok (.iastore, 1) := by decide +kernel
theorem dX9_kinds_48 : decode cX9_kinds 48 = .ok (.aload_n 0, 1) := by decide +kernel
theorem dX9_kinds_49 : decode cX9_kinds 49 = .ok (.iload_n 1, 1) := by decide +kernel
theorem dX9_kinds_50 : decode cX9_kinds 50 = .ok (.iload_n 2, 1) := by decide +kernel
theorem dX9_kinds_51 : decode cX9_kinds 51 = .ok (.invokevirtual 227, 3) := by decide +kernel
theorem dX9_kinds_54 : decode cX9_kinds 54 = .ok (.ifCond .eq 12, 3) := by decide +kernel
theorem dX9_kinds_57 : decode cX9_kinds 57 = .ok (.iload 4, 2) := by decide +kernel
theorem dX9_kinds_59 : decode cX9_kinds 59 = .ok (.iconst 1, 1) := by decide +kernel
theorem dX9_kinds_60 : decode cX9_kinds 60 = .ok (.iload 5, 2) := by decide +kernel
theorem dX9_kinds_62 : decode cX9_kinds 62 = .ok (.ishl, 1) := by decide +kernel
theorem dX9_kinds_63 : decode cX9_kinds 63 = .ok (.ior, 1) := by decide +kernel
theorem dX9_kinds_64 : decode cX9_kinds 64 = .ok (.istore 4, 2) := by decide +kernel
theorem dX9_kinds_66 : decode cX9_kinds 66 = .ok (.iinc 5 1, 3) := by decide +kernel
theorem dX9_kinds_69 : decode cX9_kinds 69 = .ok (.goto (-50), 3) := by decide +kernel
theorem dX9_kinds_72 : decode cX9_kinds 72 = .ok (.iload 4, 2) := by decide +kernel
theorem dX9_kinds_74 : decode cX9_kinds 74 = .ok (.ireturn, 1) := by decide +kernel
theorem dX9_next_0 : decode cX9_next 0 = .ok (.aload_n 0, 1) := by decide +kernel
theorem dX9_next_1 : decode cX9_next 1 = .ok (.iload_n 1, 1) := by decide +kernel
theorem dX9_next_2 : decode cX9_next 2 = .ok (.iload_n 2, 1) := by decide +kernel
theorem dX9_next_3 : decode cX9_next 3 = .ok (.invokevirtual 221, 3) := by decide +kernel
theorem dX9_next_6 : decode cX9_next 6 = .ok (.istore_n 3, 1) := by decide +kernel
theorem dX9_next_7 : decode cX9_next 7 = .ok (.iload_n 3, 1) := by decide +kernel
theorem dX9_next_8 : decode cX9_next 8 = .ok (.ifCond .eq 5, 3) := by decide +kernel
theorem dX9_next_11 : decode cX9_next 11 = .ok (.iload_n 3, 1) := by decide +kernel
theorem dX9_next_12 : decode cX9_next 12 = .ok (.ireturn, 1) := by decide +kernel
theorem dX9_next_13 : decode cX9_next 13 = .ok (.aload_n 0, 1) := by decide +kernel
theorem dX9_next_14 : decode cX9_next 14 = .ok (.iload_n 1, 1) := by decide +kernel
theorem dX9_next_15 : decode cX9_next 15 = .ok (.iload_n 2, 1) := by decide +kernel
theorem dX9_next_16 : decode cX9_next 16 = .ok (.invokevirtual 224, 3) := by decide +kernel
theorem dX9_next_19 : decode cX9_next 19 = .ok (.istore 4, 2) := by decide +kernel
theorem dX9_next_21 : decode cX9_next 21 = .ok (.iload 4, 2) := by decide +kernel
theorem dX9_next_23 : decode cX9_next 23 = .ok (.ifCond .ne 6, 3) := by decide +kernel
theorem dX9_next_26 : decode cX9_next 26 = .ok (.bipush (-9), 2) := by decide +kernel
theorem dX9_next_28 : decode cX9_next 28 = .ok (.ireturn, 1) := by decide +kernel
theorem dX9_next_29 : decode cX9_next 29 = .ok (.aload_n 0, 1) := by decide +kernel
theorem dX9_next_30 : decode cX9_next 30 = .ok (.iload 4, 2) := by decide +kernel
theorem dX9_next_32 : decode cX9_next 32 = .ok (.aload_n 0, 1) := by decide +kernel
theorem dX9_next_33 : decode cX9_next 33 = .ok (.getfield 14, 3) := by decide +kernel
theorem dX9_next_36 : decode cX9_next 36 = .ok (.iload_n 2, 1) := by decide +kernel
theorem dX9_next_37 : decode cX9_next 37 = .ok (.iaload, 1) := by decide +kernel
theorem dX9_next_38 : decode cX9_next 38 = .ok (.invokevirtual 234, 3) := by decide +kernel
theorem dX9_next_41 : decode cX9_next 41 = .ok (.iconst 0, 1) := by decide +kernel
theorem dX9_next_42 : decode cX9_next 42 = .ok (.istore 5, 2) := by decide +kernel
theorem dX9_next_44 : decode cX9_next 44 = .ok (.bipush 32, 2) := by decide +kernel
theorem dX9_next_46 : decode cX9_next 46 = .ok (.istore 6, 2) := by decide +kernel
theorem dX9_next_48 : decode cX9_next 48 = .ok (.iconst 0, 1) := by decide +kernel
theorem dX9_next_49 : decode cX9_next 49 = .ok (.istore 7, 2) := by decide +kernel
theorem dX9_next_51 : decode cX9_next 51 = .ok (.iload 7, 2) := by decide +kernel
theorem dX9_next_53 : decode cX9_next 53 = .ok (.aload_n 0, 1) := by decide +kernel
theorem dX9_next_54 : decode cX9_next 54 = .ok (.getfield 71, 3) := by decide +kernel
theorem dX9_next_57 : decode cX9_next 57 = .ok (.getfield 127, 3) := by decide +kernel
theorem dX9_next_60 : decode cX9_next 60 = .ok (.if_icmp .ge 36, 3) := by decide +kernel
theorem dX9_next_63 : decode cX9_next 63 = .ok (.aload_n 0, 1) := by decide +kernel
theorem dX9_next_64 : decode cX9_next 64 = .ok (.getfield 39, 3) := by decide +kernel
theorem dX9_next_67 : decode cX9_next 67 = .ok (.iload 7, 2) := by decide +kernel
theorem dX9_next_69 : decode cX9_next 69 = .ok (.aaload, 1) := by decide +kernel
theorem dX9_next_70 : decode cX9_next 70 = .ok (.invokestatic 238, 3) := by decide +kernel
theorem dX9_next_73 : decode cX9_next 73 = .ok (.istore 8, 2) := by decide +kernel
theorem dX9_next_75 : decode cX9_next 75 = .ok (.iload 8, 2) := by decide +kernel
theorem dX9_next_77 : decode cX9_next 77 = .ok (.iload 6, 2) := by decide +kernel
theorem dX9_next_79 : decode cX9_next 79 = .ok (.if_icmp .ge 11, 3) := by decide +kernel
theorem dX9_next_82 : decode cX9_next 82 = .ok (.iload 8, 2) := by decide +kernel
theorem dX9_next_84 : decode cX9_next 84 = .ok (.istore 6, 2) := by decide +kernel
theorem dX9_next_86 : decode cX9_next 86 = .ok (.iload 7, 2) := by decide +kernel
theorem dX9_next_88 : decode cX9_next 88 = .ok (.istore 5, 2) := by decide +kernel
theorem dX9_next_90 : decode cX9_next 90 = .ok (.iinc 7 1, 3) := by decide +kernel
theorem dX9_next_93 : decode cX9_next 93 = .ok (.goto (-42), 3) := by decide +kernel
theorem dX9_next_96 : decode cX9_next 96 = .ok (.aload_n 0, 1) := by decide +kernel
theorem dX9_next_97 : decode cX9_next 97 = .ok (.iload 6, 2) := by decide +kernel
theorem dX9_next_99 : decode cX9_next 99 = .ok (.putfield 49, 3) := by decide +kernel
theorem dX9_next_102 : decode cX9_next 102 = .ok (.iload 5, 2) := by decide +kernel
theorem dX9_next_104 : decode cX9_next 104 = .ok (.ireturn, 1) := by decide +kernel
theorem dX9_sets_0 : decode cX9_sets 0 = .ok (.iload_n 1, 1) := by decide +kernel
theorem dX9_sets_1 : decode cX9_sets 1 = .ok (.ifCond .lt 10, 3) := by decide +kernel
theorem dX9_sets_4 : decode cX9_sets 4 = .ok (.iload_n 1, 1) := by decide +kernel
theorem dX9_sets_5 : decode cX9_sets 5 = .ok (.sipush 180, 3) := by decide +kernel
theorem dX9_sets_8 : decode cX9_sets 8 = .ok (.if_icmp .le 5, 3) := by decide +kernel
theorem dX9_sets_11 : decode cX9_sets 11 = .ok (.iconst (-1), 1) := by decide +kernel
theorem dX9_sets_12 : decode cX9_sets 12 = .ok (.ireturn, 1) := by decide +kernel
theorem dX9_sets_13 : decode cX9_sets 13 = .ok (.aload_n 0, 1) := by decide +kernel
theorem dX9_sets_14 : decode cX9_sets 14 = .ok (.getfield 71, 3) := by decide +kernel
theorem dX9_sets_17 : decode cX9_sets 17 = .ok (.getfield 127, 3) := by decide +kernel
theorem dX9_sets_20 : decode cX9_sets 20 = .ok (.ifCond .ne 6, 3) := by decide +kernel
theorem dX9_sets_23 : decode cX9_sets 23 = .ok (.bipush (-4), 2) := by decide +kernel
theorem dX9_sets_25 : decode cX9_sets 25 = .ok (.ireturn, 1) := by decide +kernel
theorem dX9_sets_26 : decode cX9_sets 26 = .ok (.iconst 0, 1) := by decide +kernel
theorem dX9_sets_27 : decode cX9_sets 27 = .ok (.istore_n 2, 1) := by decide +kernel
theorem dX9_sets_28 : decode cX9_sets 28 = .ok (.bipush (-9), 2) := by decide +kernel
theorem dX9_sets_30 : decode cX9_sets 30 = .ok (.istore_n 3, 1) := by decide +kernel
theorem dX9_sets_31 : decode cX9_sets 31 = .ok (.iconst 0, 1) := by decide +kernel
theorem dX9_sets_32 : decode cX9_sets 32 = .ok (.istore 4, 2) := by decide +kernel
theorem dX9_sets_34 : decode cX9_sets 34 = .ok (.iload 4, 2) := by decide +kernel
theorem dX9_sets_36 : decode cX9_sets 36 = .ok (.iconst 1, 1) := by decide +kernel
theorem dX9_sets_37 : decode cX9_sets 37 = .ok (.aload_n 0, 1) := by decide +kernel
theorem dX9_sets_38 : decode cX9_sets 38 = .ok (.getfield 71, 3) := by decide +kernel
theorem dX9_sets_41 : decode cX9_sets 41 = .ok (.getfield 127, 3) := by decide +kernel
theorem dX9_sets_44 : decode cX9_sets 44 = .ok (.ishl, 1) := by decide +kernel
theorem dX9_sets_45 : decode cX9_sets 45 = .ok (.if_icmp .ge 34, 3) := by decide +kernel
theorem dX9_sets_48 : decode cX9_sets 48 = .ok (.aload_n 0, 1) := by decide +kernel
theorem dX9_sets_49 : decode cX9_sets 49 = .ok (.getfield 71, 3) := by decide +kernel
theorem dX9_sets_52 : decode cX9_sets 52 = .ok (.iload 4, 2) := by decide +kernel
theorem dX9_sets_54 : decode cX9_sets 54 = .ok (.invokevirtual 242, 3) := by decide +kernel
theorem dX9_sets_57 : decode cX9_sets 57 = .ok (.iload_n 1, 1) := by decide +kernel
theorem dX9_sets_58 : decode cX9_sets 58 = .ok (.if_icmp .ne 15, 3) := by decide +kernel
theorem dX9_sets_61 : decode cX9_sets 61 = .ok (.iinc 2 1, 3) := by decide +kernel
theorem dX9_sets_64 : decode cX9_sets 64 = .ok (.iload_n 3, 1) := by decide +kernel
theorem dX9_sets_65 : decode cX9_sets 65 = .ok (.bipush (-9), 2) := by decide +kernel
theorem dX9_sets_67 : decode cX9_sets 67 = .ok (.if_icmp .ne 6, 3) := by decide +kernel
theorem dX9_sets_70 : decode cX9_sets 70 = .ok (.iload 4, 2) := by decide +kernel
theorem dX9_sets_72 : decode cX9_sets 72 = .ok (.istore_n 3, 1) := by decide +kernel
theorem dX9_sets_73 : decode cX9_sets 73 = .ok (.iinc 4 1, 3) := by decide +kernel
theorem dX9_sets_76 : decode cX9_sets 76 = .ok (.goto (-42), 3) := by decide +kernel
theorem dX9_sets_79 : decode cX9_sets 79 = .ok (.aload_n 0, 1) := by decide +kernel
theorem dX9_sets_80 : decode cX9_sets 80 = .ok (.iload_n 3, 1) := by decide +kernel
theorem dX9_sets_81 : decode cX9_sets 81 = .ok (.putfield 49, 3) := by decide +kernel
theorem dX9_sets_84 : decode cX9_sets 84 = .ok (.aload_n 0, 1) := by decide +kernel
theorem dX9_sets_85 : decode cX9_sets 85 = .ok (.iload_n 2, 1) := by decide +kernel
theorem dX9_sets_86 : decode cX9_sets 86 = .ok (.i2l, 1) := by decide +kernel
theorem dX9_sets_87 : decode cX9_sets 87 = .ok (.lconst 1, 1) := by decide +kernel
theorem dX9_sets_88 : decode cX9_sets 88 = .ok (.invokevirtual 245, 3) := by decide +kernel
theorem dX9_sets_91 : decode cX9_sets 91 = .ok (.iconst 1, 1) := by decide +kernel
theorem dX9_sets_92 : decode cX9_sets 92 = .ok (.ireturn, 1) := by decide +kernel
theorem dX9_sure_0 : decode cX9_sure 0 = .ok (.iload_n 1, 1) := by decide +kernel
theorem dX9_sure_1 : decode cX9_sure 1 = .ok (.ifCond .lt 10, 3) := by decide +kernel
theorem dX9_sure_4 : decode cX9_sure 4 = .ok (.iload_n 1, 1) := by decide +kernel
theorem dX9_sure_5 : decode cX9_sure 5 = .ok (.sipush 180, 3) := by decide +kernel
theorem dX9_sure_8 : decode cX9_sure 8 = .ok (.if_icmp .le 5, 3) := by decide +kernel
theorem dX9_sure_11 : decode cX9_sure 11 = .ok (.iconst (-1), 1) := by decide +kernel
theorem dX9_sure_12 : decode cX9_sure 12 = .ok (.ireturn, 1) := by decide +kernel
theorem dX9_sure_13 : decode cX9_sure 13 = .ok (.aload_n 0, 1) := by decide +kernel
theorem dX9_sure_14 : decode cX9_sure 14 = .ok (.getfield 71, 3) := by decide +kernel
theorem dX9_sure_17 : decode cX9_sure 17 = .ok (.getfield 127, 3) := by decide +kernel
theorem dX9_sure_20 : decode cX9_sure 20 = .ok (.ifCond .ne 6, 3) := by decide +kernel
theorem dX9_sure_23 : decode cX9_sure 23 = .ok (.bipush (-4), 2) := by decide +kernel
theorem dX9_sure_25 : decode cX9_sure 25 = .ok (.ireturn, 1) := by decide +kernel
theorem dX9_sure_26 : decode cX9_sure 26 = .ok (.iconst 1, 1) := by decide +kernel
theorem dX9_sure_27 : decode cX9_sure 27 = .ok (.aload_n 0, 1) := by decide +kernel
theorem dX9_sure_28 : decode cX9_sure 28 = .ok (.getfield 71, 3) := by decide +kernel
theorem dX9_sure_31 : decode cX9_sure 31 = .ok (.getfield 127, 3) := by decide +kernel
theorem dX9_sure_34 : decode cX9_sure 34 = .ok (.ishl, 1) := by decide +kernel
theorem dX9_sure_35 : decode cX9_sure 35 = .ok (.iconst 1, 1) := by decide +kernel
theorem dX9_sure_36 : decode cX9_sure 36 = .ok (.isub, 1) := by decide +kernel
theorem dX9_sure_37 : decode cX9_sure 37 = .ok (.istore_n 2, 1) := by decide +kernel
theorem dX9_sure_38 : decode cX9_sure 38 = .ok (.iconst 0, 1) := by decide +kernel
theorem dX9_sure_39 : decode cX9_sure 39 = .ok (.istore_n 3, 1) := by decide +kernel
theorem dX9_sure_40 : decode cX9_sure 40 = .ok (.iload_n 2, 1) := by decide +kernel
theorem dX9_sure_41 : decode cX9_sure 41 = .ok (.istore 4, 2) := by decide +kernel
theorem dX9_sure_43 : decode cX9_sure 43 = .ok (.iconst 0, 1) := by decide +kernel
theorem dX9_sure_44 : decode cX9_sure 44 = .ok (.istore 5, 2) := by decide +kernel
theorem dX9_sure_46 : decode cX9_sure 46 = .ok (.iconst 0, 1) := by decide +kernel
theorem dX9_sure_47 : decode cX9_sure 47 = .ok (.istore 6, 2) := by decide +kernel
theorem dX9_sure_49 : decode cX9_sure 49 = .ok (.iload 6, 2) := by decide +kernel
theorem dX9_sure_51 : decode cX9_sure 51 = .ok (.iload_n 2, 1) := by decide +kernel
theorem dX9_sure_52 : decode cX9_sure 52 = .ok (.if_icmp .gt 39, 3) := by decide +kernel
theorem dX9_sure_55 : decode cX9_sure 55 = .ok (.aload_n 0, 1) := by decide +kernel
theorem dX9_sure_56 : decode cX9_sure 56 = .ok (.getfield 71, 3) := by decide +kernel
theorem dX9_sure_59 : decode cX9_sure 59 = .ok (.iload 6, 2) := by decide +kernel
theorem dX9_sure_61 : decode cX9_sure 61 = .ok (.invokevirtual 242, 3) := by decide +kernel
theorem dX9_sure_64 : decode cX9_sure 64 = .ok (.iload_n 1, 1) := by decide +kernel
theorem dX9_sure_65 : decode cX9_sure 65 = .ok (.if_icmp .ne 20, 3) := by decide +kernel
theorem dX9_sure_68 : decode cX9_sure 68 = .ok (.iinc 3 1, 3) := by decide +kernel
theorem dX9_sure_71 : decode cX9_sure 71 = .ok (.iload 4, 2) := by decide +kernel
theorem dX9_sure_73 : decode cX9_sure 73 = .ok (.iload 6, 2) := by decide +kernel
theorem dX9_sure_75 : decode cX9_sure 75 = .ok (.iand, 1) := by decide +kernel
theorem dX9_sure_76 : decode cX9_sure 76 = .ok (.istore 4, 2) := by decide +kernel
theorem dX9_sure_78 : decode cX9_sure 78 = .ok (.iload 5, 2) := by decide +kernel
theorem dX9_sure_80 : decode cX9_sure 80 = .ok (.iload 6, 2) := by decide +kernel
theorem dX9_sure_82 : decode cX9_sure 82 = .ok (.ior, 1) := by decide +kernel
theorem dX9_sure_83 : decode cX9_sure 83 = .ok (.istore 5, 2) := by decide +kernel
theorem dX9_sure_85 : decode cX9_sure 85 = .ok (.iinc 6 1, 3) := by decide +kernel
theorem dX9_sure_88 : decode cX9_sure 88 = .ok (.goto (-39), 3) := by decide +kernel
theorem dX9_sure_91 : decode cX9_sure 91 = .ok (.iload_n 3, 1) := by decide +kernel
theorem dX9_sure_92 : decode cX9_sure 92 = .ok (.ifCond .ne 9, 3) := by decide +kernel
theorem dX9_sure_95 : decode cX9_sure 95 = .ok (.aload_n 0, 1) := by decide +kernel
theorem dX9_sure_96 : decode cX9_sure 96 = .ok (.iconst 4, 1) := by decide +kernel
theorem dX9_sure_97 : decode cX9_sure 97 = .ok (.invokevirtual 87, 3) := by decide +kernel
theorem dX9_sure_100 : decode cX9_sure 100 = .ok (.ireturn, 1) := by decide +kernel
theorem dX9_sure_101 : decode cX9_sure 101 = .ok (.aload_n 0, 1) := by decide +kernel
theorem dX9_sure_102 : decode cX9_sure 102 = .ok (.iload_n 2, 1) := by decide +kernel
theorem dX9_sure_103 : decode cX9_sure 103 = .ok (.iload 5, 2) := by decide +kernel
theorem dX9_sure_105 : decode cX9_sure 105 = .ok (.iconst (-1), 1) := by decide +kernel
theorem dX9_sure_106 : decode cX9_sure 106 = .ok (.ixor, 1) := by decide +kernel
theorem dX9_sure_107 : decode cX9_sure 107 = .ok (.iand, 1) := by decide +kernel
theorem dX9_sure_108 : decode cX9_sure 108 = .ok (.putfield 49, 3) := by decide +kernel
theorem dX9_sure_111 : decode cX9_sure 111 = .ok (.iload 4, 2) := by decide +kernel
theorem dX9_sure_113 : decode cX9_sure 113 = .ok (.ireturn, 1) := by decide +kernel
theorem dX9_duel_0 : decode cX9_duel 0 = .ok (.aload_n 0, 1) := by decide +kernel
theorem dX9_duel_1 : decode cX9_duel 1 = .ok (.getfield 71, 3) := by decide +kernel
theorem dX9_duel_4 : decode cX9_duel 4 = .ok (.iload_n 1, 1) := by decide +kernel
theorem dX9_duel_5 : decode cX9_duel 5 = .ok (.invokevirtual 130, 3) := by decide +kernel
theorem dX9_duel_8 : decode cX9_duel 8 = .ok (.ifCond .eq 28, 3) := by decide +kernel
theorem dX9_duel_11 : decode cX9_duel 11 = .ok (.aload_n 0, 1) := by decide +kernel
theorem dX9_duel_12 : decode cX9_duel 12 = .ok (.getfield 71, 3) := by decide +kernel
theorem dX9_duel_15 : decode cX9_duel 15 = .ok (.iload_n 2, 1) := by decide +kernel
theorem dX9_duel_16 : decode cX9_duel 16 = .ok (.invokevirtual 130, 3) := by decide +kernel
theorem dX9_duel_19 : decode cX9_duel 19 = .ok (.ifCond .eq 17, 3) := by decide +kernel
theorem dX9_duel_22 : decode cX9_duel 22 = .ok (.iload_n 1, 1) := by decide +kernel
theorem dX9_duel_23 : decode cX9_duel 23 = .ok (.iload_n 2, 1) := by decide +kernel
theorem dX9_duel_24 : decode cX9_duel 24 = .ok (.if_icmp .eq 12, 3) := by decide +kernel
theorem dX9_duel_27 : decode cX9_duel 27 = .ok (.iload_n 3, 1) := by decide +kernel
theorem dX9_duel_28 : decode cX9_duel 28 = .ok (.ifCond .lt 8, 3) := by decide +kernel
theorem dX9_duel_31 : decode cX9_duel 31 = .ok (.iload_n 3, 1) := by decide +kernel
theorem dX9_duel_32 : decode cX9_duel 32 = .ok (.iconst 2, 1) := by decide +kernel
theorem dX9_duel_33 : decode cX9_duel 33 = .ok (.if_icmp .le 5, 3) := by decide +kernel
theorem dX9_duel_36 : decode cX9_duel 36 = .ok (.iconst (-1), 1) := by decide +kernel
theorem dX9_duel_37 : decode cX9_duel 37 = .ok (.ireturn, 1) := by decide +kernel
theorem dX9_duel_38 : decode cX9_duel 38 = .ok (.aload_n 0, 1) := by decide +kernel
theorem dX9_duel_39 : decode cX9_duel 39 = .ok (.aload_n 0, 1) := by decide +kernel
theorem dX9_duel_40 : decode cX9_duel 40 = .ok (.iload_n 1, 1) := by decide +kernel
theorem dX9_duel_41 : decode cX9_duel 41 = .ok (.iload_n 2, 1) := by decide +kernel
theorem dX9_duel_42 : decode cX9_duel 42 = .ok (.aload_n 0, 1) := by decide +kernel
theorem dX9_duel_43 : decode cX9_duel 43 = .ok (.getfield 71, 3) := by decide +kernel
theorem dX9_duel_46 : decode cX9_duel 46 = .ok (.getfield 182, 3) := by decide +kernel
theorem dX9_duel_49 : decode cX9_duel 49 = .ok (.iload_n 1, 1) := by decide +kernel
theorem dX9_duel_50 : decode cX9_duel 50 = .ok (.iaload, 1) := by decide +kernel
theorem dX9_duel_51 : decode cX9_duel 51 = .ok (.aload_n 0, 1) := by decide +kernel
theorem dX9_duel_52 : decode cX9_duel 52 = .ok (.getfield 71, 3) := by decide +kernel
theorem dX9_duel_55 : decode cX9_duel 55 = .ok (.getfield 182, 3) := by decide +kernel
theorem dX9_duel_58 : decode cX9_duel 58 = .ok (.iload_n 2, 1) := by decide +kernel
theorem dX9_duel_59 : decode cX9_duel 59 = .ok (.iaload, 1) := by decide +kernel
theorem dX9_duel_60 : decode cX9_duel 60 = .ok (.iload_n 3, 1) := by decide +kernel
theorem dX9_duel_61 : decode cX9_duel 61 = .ok (.invokevirtual 249, 3) := by decide +kernel
theorem dX9_duel_64 : decode cX9_duel 64 = .ok (.putfield 49, 3) := by decide +kernel
theorem dX9_duel_67 : decode cX9_duel 67 = .ok (.iconst 1, 1) := by decide +kernel
theorem dX9_duel_68 : decode cX9_duel 68 = .ok (.ireturn, 1) := by decide +kernel
theorem dX9_odds_0 : decode cX9_odds 0 = .ok (.aload_n 0, 1) := by decide +kernel
theorem dX9_odds_1 : decode cX9_odds 1 = .ok (.getfield 71, 3) := by decide +kernel
theorem dX9_odds_4 : decode cX9_odds 4 = .ok (.iload_n 1, 1) := by decide +kernel
theorem dX9_odds_5 : decode cX9_odds 5 = .ok (.invokevirtual 130, 3) := by decide +kernel
theorem dX9_odds_8 : decode cX9_odds 8 = .ok (.ifCond .eq 13, 3) := by decide +kernel
theorem dX9_odds_11 : decode cX9_odds 11 = .ok (.iload_n 2, 1) := by decide +kernel
theorem dX9_odds_12 : decode cX9_odds 12 = .ok (.ifCond .lt 9, 3) := by decide +kernel
theorem dX9_odds_15 : decode cX9_odds 15 = .ok (.iload_n 2, 1) := by decide +kernel
theorem dX9_odds_16 : decode cX9_odds 16 = .ok (.bipush 12, 2) := by decide +kernel
theorem dX9_odds_18 : decode cX9_odds 18 = .ok (.if_icmp .le 5, 3) := by decide +kernel
theorem dX9_odds_21 : decode cX9_odds 21 = .ok (.iconst (-1), 1) := by decide +kernel
theorem dX9_odds_22 : decode cX9_odds 22 = .ok (.ireturn, 1) := by decide +kernel
theorem dX9_odds_23 : decode cX9_odds 23 = .ok (.lconst 0, 1) := by decide +kernel
theorem dX9_odds_24 : decode cX9_odds 24 = .ok (.lstore_n 3, 1) := by decide +kernel
theorem dX9_odds_25 : decode cX9_odds 25 = .ok (.iconst 0, 1) := by decide +kernel
theorem dX9_odds_26 : decode cX9_odds 26 = .ok (.istore 5, 2) := by decide +kernel
theorem dX9_odds_28 : decode cX9_odds 28 = .ok (.iload 5, 2) := by decide +kernel
theorem dX9_odds_30 : decode cX9_odds 30 = .ok (.iconst 1, 1) := by decide +kernel
theorem dX9_odds_31 : decode cX9_odds 31 = .ok (.aload_n 0, 1) := by decide +kernel
theorem dX9_odds_32 : decode cX9_odds 32 = .ok (.getfield 71, 3) := by decide +kernel
theorem dX9_odds_35 : decode cX9_odds 35 = .ok (.getfield 127, 3) := by decide +kernel
theorem dX9_odds_38 : decode cX9_odds 38 = .ok (.ishl, 1) := by decide +kernel
theorem dX9_odds_39 : decode cX9_odds 39 = .ok (.if_icmp .ge 47, 3) := by decide +kernel
theorem dX9_odds_42 : decode cX9_odds 42 = .ok (.aload_n 0, 1) := by decide +kernel
theorem dX9_odds_43 : decode cX9_odds 43 = .ok (.getfield 74, 3) := by decide +kernel
theorem dX9_odds_46 : decode cX9_odds 46 = .ok (.aload_n 0, 1) := by decide +kernel
theorem dX9_odds_47 : decode cX9_odds 47 = .ok (.getfield 71, 3) := by decide +kernel
theorem dX9_odds_50 : decode cX9_odds 50 = .ok (.invokevirtual 120, 3) := by decide +kernel
theorem dX9_odds_53 : decode cX9_odds 53 = .ok (.aload_n 0, 1) := by decide +kernel
theorem dX9_odds_54 : decode cX9_odds 54 = .ok (.getfield 74, 3) := by decide +kernel
theorem dX9_odds_57 : decode cX9_odds 57 = .ok (.iload 5, 2) := by decide +kernel
theorem dX9_odds_59 : decode cX9_odds 59 = .ok (.invokevirtual 203, 3) := by decide +kernel
theorem dX9_odds_62 : decode cX9_odds 62 = .ok (.iload_n 1, 1) := by decide +kernel
theorem dX9_odds_63 : decode cX9_odds 63 = .ok (.ishr, 1) := by decide +kernel
theorem dX9_odds_64 : decode cX9_odds 64 = .ok (.iconst 1, 1) := by decide +kernel
theorem dX9_odds_65 : decode cX9_odds 65 = .ok (.iand, 1) := by decide +kernel
theorem dX9_odds_66 : decode cX9_odds 66 = .ok (.iconst 1, 1) := by decide +kernel
theorem dX9_odds_67 : decode cX9_odds 67 = .ok (.if_icmp .ne 13, 3) := by decide +kernel
theorem dX9_odds_70 : decode cX9_odds 70 = .ok (.lload_n 3, 1) := by decide +kernel
theorem dX9_odds_71 : decode cX9_odds 71 = .ok (.aload_n 0, 1) := by decide +kernel
theorem dX9_odds_72 : decode cX9_odds 72 = .ok (.iload 5, 2) := by decide +kernel
theorem dX9_odds_74 : decode cX9_odds 74 = .ok (.iload_n 2, 1) := by decide +kernel
theorem dX9_odds_75 : decode cX9_odds 75 = .ok (.invokevirtual 253, 3) := by decide +kernel
theorem dX9_odds_78 : decode cX9_odds 78 = .ok (.ladd, 1) := by decide +kernel
