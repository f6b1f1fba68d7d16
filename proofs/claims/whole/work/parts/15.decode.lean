theorem d_Mo_isOld_37 : decode b_Mo_isOld 37 = .ok (.if_icmp .ne (7), 3) := by decide +kernel
theorem d_Mo_isOld_40 : decode b_Mo_isOld 40 = .ok (.iconst (1), 1) := by decide +kernel
theorem d_Mo_isOld_41 : decode b_Mo_isOld 41 = .ok (.goto (4), 3) := by decide +kernel
theorem d_Mo_isOld_44 : decode b_Mo_isOld 44 = .ok (.iconst (0), 1) := by decide +kernel
theorem d_Mo_isOld_45 : decode b_Mo_isOld 45 = .ok (.ireturn, 1) := by decide +kernel
theorem d_Mo_close_0 : decode b_Mo_close 0 = .ok (.iconst (0), 1) := by decide +kernel
theorem d_Mo_close_1 : decode b_Mo_close 1 = .ok (.istore_n 3, 1) := by decide +kernel
theorem d_Mo_close_2 : decode b_Mo_close 2 = .ok (.iload_n 3, 1) := by decide +kernel
theorem d_Mo_close_3 : decode b_Mo_close 3 = .ok (.aload_n 0, 1) := by decide +kernel
theorem d_Mo_close_4 : decode b_Mo_close 4 = .ok (.getfield 26, 3) := by decide +kernel
theorem d_Mo_close_7 : decode b_Mo_close 7 = .ok (.iload_n 2, 1) := by decide +kernel
theorem d_Mo_close_8 : decode b_Mo_close 8 = .ok (.iaload, 1) := by decide +kernel
theorem d_Mo_close_9 : decode b_Mo_close 9 = .ok (.if_icmp .ge (107), 3) := by decide +kernel
theorem d_Mo_close_12 : decode b_Mo_close 12 = .ok (.iconst (0), 1) := by decide +kernel
theorem d_Mo_close_13 : decode b_Mo_close 13 = .ok (.istore 4, 2) := by decide +kernel
theorem d_Mo_close_15 : decode b_Mo_close 15 = .ok (.iload 4, 2) := by decide +kernel
theorem d_Mo_close_17 : decode b_Mo_close 17 = .ok (.aload_n 0, 1) := by decide +kernel
theorem d_Mo_close_18 : decode b_Mo_close 18 = .ok (.getfield 80, 3) := by decide +kernel
theorem d_Mo_close_21 : decode b_Mo_close 21 = .ok (.iload_n 1, 1) := by decide +kernel
theorem d_Mo_close_22 : decode b_Mo_close 22 = .ok (.iaload, 1) := by decide +kernel
theorem d_Mo_close_23 : decode b_Mo_close 23 = .ok (.if_icmp .ge (87), 3) := by decide +kernel
theorem d_Mo_close_26 : decode b_Mo_close 26 = .ok (.aload_n 0, 1) := by decide +kernel
theorem d_Mo_close_27 : decode b_Mo_close 27 = .ok (.getfield 68, 3) := by decide +kernel
theorem d_Mo_close_30 : decode b_Mo_close 30 = .ok (.iload_n 1, 1) := by decide +kernel
theorem d_Mo_close_31 : decode b_Mo_close 31 = .ok (.iaload, 1) := by decide +kernel
theorem d_Mo_close_32 : decode b_Mo_close 32 = .ok (.ifCond .le (78), 3) := by decide +kernel
theorem d_Mo_close_35 : decode b_Mo_close 35 = .ok (.bipush (80), 2) := by decide +kernel
theorem d_Mo_close_37 : decode b_Mo_close 37 = .ok (.iload_n 1, 1) := by decide +kernel
theorem d_Mo_close_38 : decode b_Mo_close 38 = .ok (.imul, 1) := by decide +kernel
theorem d_Mo_close_39 : decode b_Mo_close 39 = .ok (.iload 4, 2) := by decide +kernel
theorem d_Mo_close_41 : decode b_Mo_close 41 = .ok (.iadd, 1) := by decide +kernel
theorem d_Mo_close_42 : decode b_Mo_close 42 = .ok (.istore 5, 2) := by decide +kernel
theorem d_Mo_close_44 : decode b_Mo_close 44 = .ok (.aload_n 0, 1) := by decide +kernel
theorem d_Mo_close_45 : decode b_Mo_close 45 = .ok (.getfield 83, 3) := by decide +kernel
theorem d_Mo_close_48 : decode b_Mo_close 48 = .ok (.iload 5, 2) := by decide +kernel
theorem d_Mo_close_50 : decode b_Mo_close 50 = .ok (.iaload, 1) := by decide +kernel
theorem d_Mo_close_51 : decode b_Mo_close 51 = .ok (.aload_n 0, 1) := by decide +kernel
theorem d_Mo_close_52 : decode b_Mo_close 52 = .ok (.getfield 35, 3) := by decide +kernel
theorem d_Mo_close_55 : decode b_Mo_close 55 = .ok (.bipush (8), 2) := by decide +kernel
theorem d_Mo_close_57 : decode b_Mo_close 57 = .ok (.iload_n 2, 1) := by decide +kernel
theorem d_Mo_close_58 : decode b_Mo_close 58 = .ok (.imul, 1) := by decide +kernel
theorem d_Mo_close_59 : decode b_Mo_close 59 = .ok (.iload_n 3, 1) := by decide +kernel
theorem d_Mo_close_60 : decode b_Mo_close 60 = .ok (.iadd, 1) := by decide +kernel
theorem d_Mo_close_61 : decode b_Mo_close 61 = .ok (.iaload, 1) := by decide +kernel
theorem d_Mo_close_62 : decode b_Mo_close 62 = .ok (.if_icmp .ne (42), 3) := by decide +kernel
theorem d_Mo_close_65 : decode b_Mo_close 65 = .ok (.aload_n 0, 1) := by decide +kernel
theorem d_Mo_close_66 : decode b_Mo_close 66 = .ok (.getfield 86, 3) := by decide +kernel
theorem d_Mo_close_69 : decode b_Mo_close 69 = .ok (.iload 5, 2) := by decide +kernel
theorem d_Mo_close_71 : decode b_Mo_close 71 = .ok (.iaload, 1) := by decide +kernel
theorem d_Mo_close_72 : decode b_Mo_close 72 = .ok (.aload_n 0, 1) := by decide +kernel
theorem d_Mo_close_73 : decode b_Mo_close 73 = .ok (.getfield 38, 3) := by decide +kernel
theorem d_Mo_close_76 : decode b_Mo_close 76 = .ok (.bipush (8), 2) := by decide +kernel
theorem d_Mo_close_78 : decode b_Mo_close 78 = .ok (.iload_n 2, 1) := by decide +kernel
theorem d_Mo_close_79 : decode b_Mo_close 79 = .ok (.imul, 1) := by decide +kernel
theorem d_Mo_close_80 : decode b_Mo_close 80 = .ok (.iload_n 3, 1) := by decide +kernel
theorem d_Mo_close_81 : decode b_Mo_close 81 = .ok (.iadd, 1) := by decide +kernel
theorem d_Mo_close_82 : decode b_Mo_close 82 = .ok (.iaload, 1) := by decide +kernel
theorem d_Mo_close_83 : decode b_Mo_close 83 = .ok (.if_icmp .ne (21), 3) := by decide +kernel
theorem d_Mo_close_86 : decode b_Mo_close 86 = .ok (.aload_n 0, 1) := by decide +kernel
theorem d_Mo_close_87 : decode b_Mo_close 87 = .ok (.getfield 77, 3) := by decide +kernel
theorem d_Mo_close_90 : decode b_Mo_close 90 = .ok (.bipush (12), 2) := by decide +kernel
theorem d_Mo_close_92 : decode b_Mo_close 92 = .ok (.iload_n 1, 1) := by decide +kernel
theorem d_Mo_close_93 : decode b_Mo_close 93 = .ok (.imul, 1) := by decide +kernel
theorem d_Mo_close_94 : decode b_Mo_close 94 = .ok (.aload_n 0, 1) := by decide +kernel
theorem d_Mo_close_95 : decode b_Mo_close 95 = .ok (.getfield 89, 3) := by decide +kernel
theorem d_Mo_close_98 : decode b_Mo_close 98 = .ok (.iload 5, 2) := by decide +kernel
theorem d_Mo_close_100 : decode b_Mo_close 100 = .ok (.iaload, 1) := by decide +kernel
theorem d_Mo_close_101 : decode b_Mo_close 101 = .ok (.iadd, 1) := by decide +kernel
theorem d_Mo_close_102 : decode b_Mo_close 102 = .ok (.iconst (0), 1) := by decide +kernel
theorem d_Mo_close_103 : decode b_Mo_close 103 = .ok (.bastore, 1) := by decide +kernel
theorem d_Mo_close_104 : decode b_Mo_close 104 = .ok (.iinc 4 (1), 3) := by decide +kernel
theorem d_Mo_close_107 : decode b_Mo_close 107 = .ok (.goto (-92), 3) := by decide +kernel
theorem d_Mo_close_110 : decode b_Mo_close 110 = .ok (.iinc 3 (1), 3) := by decide +kernel
theorem d_Mo_close_113 : decode b_Mo_close 113 = .ok (.goto (-111), 3) := by decide +kernel
theorem d_Mo_close_116 : decode b_Mo_close 116 = .ok (.iload_n 1, 1) := by decide +kernel
theorem d_Mo_close_117 : decode b_Mo_close 117 = .ok (.ifCond .ne (27), 3) := by decide +kernel
theorem d_Mo_close_120 : decode b_Mo_close 120 = .ok (.aload_n 0, 1) := by decide +kernel
theorem d_Mo_close_121 : decode b_Mo_close 121 = .ok (.getfield 41, 3) := by decide +kernel
theorem d_Mo_close_124 : decode b_Mo_close 124 = .ok (.iconst (0), 1) := by decide +kernel
theorem d_Mo_close_125 : decode b_Mo_close 125 = .ok (.iaload, 1) := by decide +kernel
theorem d_Mo_close_126 : decode b_Mo_close 126 = .ok (.iconst (3), 1) := by decide +kernel
theorem d_Mo_close_127 : decode b_Mo_close 127 = .ok (.if_icmp .ne (17), 3) := by decide +kernel
theorem d_Mo_close_130 : decode b_Mo_close 130 = .ok (.aload_n 0, 1) := by decide +kernel
theorem d_Mo_close_131 : decode b_Mo_close 131 = .ok (.iconst (0), 1) := by decide +kernel
theorem d_Mo_close_132 : decode b_Mo_close 132 = .ok (.invokevirtual 192, 3) := by decide +kernel
theorem d_Mo_close_135 : decode b_Mo_close 135 = .ok (.ifCond .ne (9), 3) := by decide +kernel
theorem d_Mo_close_138 : decode b_Mo_close 138 = .ok (.aload_n 0, 1) := by decide +kernel
theorem d_Mo_close_139 : decode b_Mo_close 139 = .ok (.iconst (0), 1) := by decide +kernel
theorem d_Mo_close_140 : decode b_Mo_close 140 = .ok (.iconst (4), 1) := by decide +kernel
theorem d_Mo_close_141 : decode b_Mo_close 141 = .ok (.invokevirtual 181, 3) := by decide +kernel
theorem d_Mo_close_144 : decode b_Mo_close 144 = .ok (.return_, 1) := by decide +kernel
theorem d_Mo_copyTo_0 : decode b_Mo_copyTo 0 = .ok (.aload_n 0, 1) := by decide +kernel
theorem d_Mo_copyTo_1 : decode b_Mo_copyTo 1 = .ok (.getfield 7, 3) := by decide +kernel
theorem d_Mo_copyTo_4 : decode b_Mo_copyTo 4 = .ok (.iload_n 2, 1) := by decide +kernel
theorem d_Mo_copyTo_5 : decode b_Mo_copyTo 5 = .ok (.aload_n 0, 1) := by decide +kernel
theorem d_Mo_copyTo_6 : decode b_Mo_copyTo 6 = .ok (.getfield 7, 3) := by decide +kernel
theorem d_Mo_copyTo_9 : decode b_Mo_copyTo 9 = .ok (.iload_n 1, 1) := by decide +kernel
theorem d_Mo_copyTo_10 : decode b_Mo_copyTo 10 = .ok (.iaload, 1) := by decide +kernel
theorem d_Mo_copyTo_11 : decode b_Mo_copyTo 11 = .ok (.iastore, 1) := by decide +kernel
theorem d_Mo_copyTo_12 : decode b_Mo_copyTo 12 = .ok (.aload_n 0, 1) := by decide +kernel
theorem d_Mo_copyTo_13 : decode b_Mo_copyTo 13 = .ok (.getfield 13, 3) := by decide +kernel
theorem d_Mo_copyTo_16 : decode b_Mo_copyTo 16 = .ok (.iload_n 2, 1) := by decide +kernel
theorem d_Mo_copyTo_17 : decode b_Mo_copyTo 17 = .ok (.aload_n 0, 1) := by decide +kernel
theorem d_Mo_copyTo_18 : decode b_Mo_copyTo 18 = .ok (.getfield 13, 3) := by decide +kernel
theorem d_Mo_copyTo_21 : decode b_Mo_copyTo 21 = .ok (.iload_n 1, 1) := by decide +kernel
theorem d_Mo_copyTo_22 : decode b_Mo_copyTo 22 = .ok (.iaload, 1) := by decide +kernel
theorem d_Mo_copyTo_23 : decode b_Mo_copyTo 23 = .ok (.iastore, 1) := by decide +kernel
theorem d_Mo_copyTo_24 : decode b_Mo_copyTo 24 = .ok (.aload_n 0, 1) := by decide +kernel
theorem d_Mo_copyTo_25 : decode b_Mo_copyTo 25 = .ok (.getfield 16, 3) := by decide +kernel
theorem d_Mo_copyTo_28 : decode b_Mo_copyTo 28 = .ok (.iload_n 2, 1) := by decide +kernel
theorem d_Mo_copyTo_29 : decode b_Mo_copyTo 29 = .ok (.aload_n 0, 1) := by decide +kernel
theorem d_Mo_copyTo_30 : decode b_Mo_copyTo 30 = .ok (.getfield 16, 3) := by decide +kernel
theorem d_Mo_copyTo_33 : decode b_Mo_copyTo 33 = .ok (.iload_n 1, 1) := by decide +kernel
theorem d_Mo_copyTo_34 : decode b_Mo_copyTo 34 = .ok (.iaload, 1) := by decide +kernel
theorem d_Mo_copyTo_35 : decode b_Mo_copyTo 35 = .ok (.iastore, 1) := by decide +kernel
theorem d_Mo_copyTo_36 : decode b_Mo_copyTo 36 = .ok (.aload_n 0, 1) := by decide +kernel
theorem d_Mo_copyTo_37 : decode b_Mo_copyTo 37 = .ok (.getfield 19, 3) := by decide +kernel
theorem d_Mo_copyTo_40 : decode b_Mo_copyTo 40 = .ok (.iload_n 2, 1) := by decide +kernel
theorem d_Mo_copyTo_41 : decode b_Mo_copyTo 41 = .ok (.aload_n 0, 1) := by decide +kernel
theorem d_Mo_copyTo_42 : decode b_Mo_copyTo 42 = .ok (.getfield 19, 3) := by decide +kernel
theorem d_Mo_copyTo_45 : decode b_Mo_copyTo 45 = .ok (.iload_n 1, 1) := by decide +kernel
theorem d_Mo_copyTo_46 : decode b_Mo_copyTo 46 = .ok (.iaload, 1) := by decide +kernel
theorem d_Mo_copyTo_47 : decode b_Mo_copyTo 47 = .ok (.iastore, 1) := by decide +kernel
theorem d_Mo_copyTo_48 : decode b_Mo_copyTo 48 = .ok (.aload_n 0, 1) := by decide +kernel
theorem d_Mo_copyTo_49 : decode b_Mo_copyTo 49 = .ok (.getfield 22, 3) := by decide +kernel
theorem d_Mo_copyTo_52 : decode b_Mo_copyTo 52 = .ok (.iload_n 2, 1) := by decide +kernel
theorem d_Mo_copyTo_53 : decode b_Mo_copyTo 53 = .ok (.aload_n 0, 1) := by decide +kernel
theorem d_Mo_copyTo_54 : decode b_Mo_copyTo 54 = .ok (.getfield 22, 3) := by decide +kernel
theorem d_Mo_copyTo_57 : decode b_Mo_copyTo 57 = .ok (.iload_n 1, 1) := by decide +kernel
theorem d_Mo_copyTo_58 : decode b_Mo_copyTo 58 = .ok (.baload, 1) := by decide +kernel
theorem d_Mo_copyTo_59 : decode b_Mo_copyTo 59 = .ok (.bastore, 1) := by decide +kernel
theorem d_Mo_copyTo_60 : decode b_Mo_copyTo 60 = .ok (.aload_n 0, 1) := by decide +kernel
theorem d_Mo_copyTo_61 : decode b_Mo_copyTo 61 = .ok (.getfield 26, 3) := by decide +kernel
theorem d_Mo_copyTo_64 : decode b_Mo_copyTo 64 = .ok (.iload_n 2, 1) := by decide +kernel
theorem d_Mo_copyTo_65 : decode b_Mo_copyTo 65 = .ok (.aload_n 0, 1) := by decide +kernel
theorem d_Mo_copyTo_66 : decode b_Mo_copyTo 66 = .ok (.getfield 26, 3) := by decide +kernel
theorem d_Mo_copyTo_69 : decode b_Mo_copyTo 69 = .ok (.iload_n 1, 1) := by decide +kernel
theorem d_Mo_copyTo_70 : decode b_Mo_copyTo 70 = .ok (.iaload, 1) := by decide +kernel
theorem d_Mo_copyTo_71 : decode b_Mo_copyTo 71 = .ok (.iastore, 1) := by decide +kernel
theorem d_Mo_copyTo_72 : decode b_Mo_copyTo 72 = .ok (.aload_n 0, 1) := by decide +kernel
theorem d_Mo_copyTo_73 : decode b_Mo_copyTo 73 = .ok (.getfield 29, 3) := by decide +kernel
theorem d_Mo_copyTo_76 : decode b_Mo_copyTo 76 = .ok (.iload_n 2, 1) := by decide +kernel
theorem d_Mo_copyTo_77 : decode b_Mo_copyTo 77 = .ok (.aload_n 0, 1) := by decide +kernel
theorem d_Mo_copyTo_78 : decode b_Mo_copyTo 78 = .ok (.getfield 29, 3) := by decide +kernel
theorem d_Mo_copyTo_81 : decode b_Mo_copyTo 81 = .ok (.iload_n 1, 1) := by decide +kernel
theorem d_Mo_copyTo_82 : decode b_Mo_copyTo 82 = .ok (.iaload, 1) := by decide +kernel
theorem d_Mo_copyTo_83 : decode b_Mo_copyTo 83 = .ok (.iastore, 1) := by decide +kernel
theorem d_Mo_copyTo_84 : decode b_Mo_copyTo 84 = .ok (.aload_n 0, 1) := by decide +kernel
theorem d_Mo_copyTo_85 : decode b_Mo_copyTo 85 = .ok (.getfield 32, 3) := by decide +kernel
theorem d_Mo_copyTo_88 : decode b_Mo_copyTo 88 = .ok (.iload_n 2, 1) := by decide +kernel
theorem d_Mo_copyTo_89 : decode b_Mo_copyTo 89 = .ok (.aload_n 0, 1) := by decide +kernel
theorem d_Mo_copyTo_90 : decode b_Mo_copyTo 90 = .ok (.getfield 32, 3) := by decide +kernel
theorem d_Mo_copyTo_93 : decode b_Mo_copyTo 93 = .ok (.iload_n 1, 1) := by decide +kernel
theorem d_Mo_copyTo_94 : decode b_Mo_copyTo 94 = .ok (.iaload, 1) := by decide +kernel
theorem d_Mo_copyTo_95 : decode b_Mo_copyTo 95 = .ok (.iastore, 1) := by decide +kernel
theorem d_Mo_copyTo_96 : decode b_Mo_copyTo 96 = .ok (.iconst (0), 1) := by decide +kernel
theorem d_Mo_copyTo_97 : decode b_Mo_copyTo 97 = .ok (.istore_n 3, 1) := by decide +kernel
theorem d_Mo_copyTo_98 : decode b_Mo_copyTo 98 = .ok (.iload_n 3, 1) := by decide +kernel
theorem d_Mo_copyTo_99 : decode b_Mo_copyTo 99 = .ok (.bipush (8), 2) := by decide +kernel
theorem d_Mo_copyTo_101 : decode b_Mo_copyTo 101 = .ok (.if_icmp .ge (53), 3) := by decide +kernel
theorem d_Mo_copyTo_104 : decode b_Mo_copyTo 104 = .ok (.aload_n 0, 1) := by decide +kernel
theorem d_Mo_copyTo_105 : decode b_Mo_copyTo 105 = .ok (.getfield 35, 3) := by decide +kernel
theorem d_Mo_copyTo_108 : decode b_Mo_copyTo 108 = .ok (.bipush (8), 2) := by decide +kernel
theorem d_Mo_copyTo_110 : decode b_Mo_copyTo 110 = .ok (.iload_n 2, 1) := by decide +kernel
theorem d_Mo_copyTo_111 : decode b_Mo_copyTo 111 = .ok (.imul, 1) := by decide +kernel
theorem d_Mo_copyTo_112 : decode b_Mo_copyTo 112 = .ok (.iload_n 3, 1) := by decide +kernel
theorem d_Mo_copyTo_113 : decode b_Mo_copyTo 113 = .ok (.iadd, 1) := by decide +kernel
theorem d_Mo_copyTo_114 : decode b_Mo_copyTo 114 = .ok (.aload_n 0, 1) := by decide +kernel
theorem d_Mo_copyTo_115 : decode b_Mo_copyTo 115 = .ok (.getfield 35, 3) := by decide +kernel
theorem d_Mo_copyTo_118 : decode b_Mo_copyTo 118 = .ok (.bipush (8), 2) := by decide +kernel
theorem d_Mo_copyTo_120 : decode b_Mo_copyTo 120 = .ok (.iload_n 1, 1) := by decide +kernel
theorem d_Mo_copyTo_121 : decode b_Mo_copyTo 121 = .ok (.imul, 1) := by decide +kernel
theorem d_Mo_copyTo_122 : decode b_Mo_copyTo 122 = .ok (.iload_n 3, 1) := by decide +kernel
theorem d_Mo_copyTo_123 : decode b_Mo_copyTo 123 = .ok (.iadd, 1) := by decide +kernel
theorem d_Mo_copyTo_124 : decode b_Mo_copyTo 124 = .ok (.iaload, 1) := by decide +kernel
theorem d_Mo_copyTo_125 : decode b_Mo_copyTo 125 = .ok (.iastore, 1) := by decide +kernel
theorem d_Mo_copyTo_126 : decode b_Mo_copyTo 126 = .ok (.aload_n 0, 1) := by decide +kernel
theorem d_Mo_copyTo_127 : decode b_Mo_copyTo 127 = .ok (.getfield 38, 3) := by decide +kernel
theorem d_Mo_copyTo_130 : decode b_Mo_copyTo 130 = .ok (.bipush (8), 2) := by decide +kernel
theorem d_Mo_copyTo_132 : decode b_Mo_copyTo 132 = .ok (.iload_n 2, 1) := by decide +kernel
theorem d_Mo_copyTo_133 : decode b_Mo_copyTo 133 = .ok (.imul, 1) := by decide +kernel
theorem d_Mo_copyTo_134 : decode b_Mo_copyTo 134 = .ok (.iload_n 3, 1) := by decide +kernel
theorem d_Mo_copyTo_135 : decode b_Mo_copyTo 135 = .ok (.iadd, 1) := by decide +kernel
theorem d_Mo_copyTo_136 : decode b_Mo_copyTo 136 = .ok (.aload_n 0, 1) := by decide +kernel
theorem d_Mo_copyTo_137 : decode b_Mo_copyTo 137 = .ok (.getfield 38, 3) := by decide +kernel
theorem d_Mo_copyTo_140 : decode b_Mo_copyTo 140 = .ok (.bipush (8), 2) := by decide +kernel
theorem d_Mo_copyTo_142 : decode b_Mo_copyTo 142 = .ok (.iload_n 1, 1) := by decide +kernel
theorem d_Mo_copyTo_143 : decode b_Mo_copyTo 143 = .ok (.imul, 1) := by decide +kernel
theorem d_Mo_copyTo_144 : decode b_Mo_copyTo 144 = .ok (.iload_n 3, 1) := by decide +kernel
theorem d_Mo_copyTo_145 : decode b_Mo_copyTo 145 = .ok (.iadd, 1) := by decide +kernel
theorem d_Mo_copyTo_146 : decode b_Mo_copyTo 146 = .ok (.iaload, 1) := by decide +kernel
theorem d_Mo_copyTo_147 : decode b_Mo_copyTo 147 = .ok (.iastore, 1) := by decide +kernel
theorem d_Mo_copyTo_148 : decode b_Mo_copyTo 148 = .ok (.iinc 3 (1), 3) := by decide +kernel
theorem d_Mo_copyTo_151 : decode b_Mo_copyTo 151 = .ok (.goto (-53), 3) := by decide +kernel
theorem d_Mo_copyTo_154 : decode b_Mo_copyTo 154 = .ok (.return_, 1) := by decide +kernel
theorem d_Mo_drop_0 : decode b_Mo_drop 0 = .ok (.aload_n 0, 1) := by decide +kernel
theorem d_Mo_drop_1 : decode b_Mo_drop 1 = .ok (.iload_n 1, 1) := by decide +kernel
theorem d_Mo_drop_2 : decode b_Mo_drop 2 = .ok (.invokevirtual 159, 3) := by decide +kernel
theorem d_Mo_drop_5 : decode b_Mo_drop 5 = .ok (.ifCond .ne (5), 3) := by decide +kernel
theorem d_Mo_drop_8 : decode b_Mo_drop 8 = .ok (.iconst (0), 1) := by decide +kernel
theorem d_Mo_drop_9 : decode b_Mo_drop 9 = .ok (.ireturn, 1) := by decide +kernel
theorem d_Mo_drop_10 : decode b_Mo_drop 10 = .ok (.iload_n 1, 1) := by decide +kernel
theorem d_Mo_drop_11 : decode b_Mo_drop 11 = .ok (.istore_n 2, 1) := by decide +kernel
theorem d_Mo_drop_12 : decode b_Mo_drop 12 = .ok (.iload_n 2, 1) := by decide +kernel
theorem d_Mo_drop_13 : decode b_Mo_drop 13 = .ok (.iconst (1), 1) := by decide +kernel
theorem d_Mo_drop_14 : decode b_Mo_drop 14 = .ok (.iadd, 1) := by decide +kernel
theorem d_Mo_drop_15 : decode b_Mo_drop 15 = .ok (.aload_n 0, 1) := by decide +kernel
theorem d_Mo_drop_16 : decode b_Mo_drop 16 = .ok (.getfield 153, 3) := by decide +kernel
theorem d_Mo_drop_19 : decode b_Mo_drop 19 = .ok (.if_icmp .ge (17), 3) := by decide +kernel
theorem d_Mo_drop_22 : decode b_Mo_drop 22 = .ok (.aload_n 0, 1) := by decide +kernel
theorem d_Mo_drop_23 : decode b_Mo_drop 23 = .ok (.iload_n 2, 1) := by decide +kernel
theorem d_Mo_drop_24 : decode b_Mo_drop 24 = .ok (.iconst (1), 1) := by decide +kernel
theorem d_Mo_drop_25 : decode b_Mo_drop 25 = .ok (.iadd, 1) := by decide +kernel
theorem d_Mo_drop_26 : decode b_Mo_drop 26 = .ok (.iload_n 2, 1) := by decide +kernel
theorem d_Mo_drop_27 : decode b_Mo_drop 27 = .ok (.invokevirtual 163, 3) := by decide +kernel
theorem d_Mo_drop_30 : decode b_Mo_drop 30 = .ok (.iinc 2 (1), 3) := by decide +kernel
theorem d_Mo_drop_33 : decode b_Mo_drop 33 = .ok (.goto (-21), 3) := by decide +kernel
theorem d_Mo_drop_36 : decode b_Mo_drop 36 = .ok (.aload_n 0, 1) := by decide +kernel
theorem d_Mo_drop_37 : decode b_Mo_drop 37 = .ok (.dup, 1) := by decide +kernel
theorem d_Mo_drop_38 : decode b_Mo_drop 38 = .ok (.getfield 153, 3) := by decide +kernel
theorem d_Mo_drop_41 : decode b_Mo_drop 41 = .ok (.iconst (1), 1) := by decide +kernel
theorem d_Mo_drop_42 : decode b_Mo_drop 42 = .ok (.isub, 1) := by decide +kernel
theorem d_Mo_drop_43 : decode b_Mo_drop 43 = .ok (.putfield 153, 3) := by decide +kernel
theorem d_Mo_drop_46 : decode b_Mo_drop 46 = .ok (.iconst (1), 1) := by decide +kernel
theorem d_Mo_drop_47 : decode b_Mo_drop 47 = .ok (.ireturn, 1) := by decide +kernel
theorem d_Mo_retry_0 : decode b_Mo_retry 0 = .ok (.aload_n 0, 1) := by decide +kernel
theorem d_Mo_retry_1 : decode b_Mo_retry 1 = .ok (.iconst (1), 1) := by decide +kernel
theorem d_Mo_retry_2 : decode b_Mo_retry 2 = .ok (.iconst (0), 1) := by decide +kernel
theorem d_Mo_retry_3 : decode b_Mo_retry 3 = .ok (.iconst (0), 1) := by decide +kernel
theorem d_Mo_retry_4 : decode b_Mo_retry 4 = .ok (.iload_n 1, 1) := by decide +kernel
theorem d_Mo_retry_5 : decode b_Mo_retry 5 = .ok (.invokevirtual 167, 3) := by decide +kernel
theorem d_Mo_retry_8 : decode b_Mo_retry 8 = .ok (.istore_n 2, 1) := by decide +kernel
theorem d_Mo_retry_9 : decode b_Mo_retry 9 = .ok (.iload_n 2, 1) := by decide +kernel
theorem d_Mo_retry_10 : decode b_Mo_retry 10 = .ok (.ifCond .ge (4), 3) := by decide +kernel
theorem d_Mo_retry_13 : decode b_Mo_retry 13 = .ok (.return_, 1) := by decide +kernel
theorem d_Mo_retry_14 : decode b_Mo_retry 14 = .ok (.aload_n 0, 1) := by decide +kernel
theorem d_Mo_retry_15 : decode b_Mo_retry 15 = .ok (.getfield 26, 3) := by decide +kernel
theorem d_Mo_retry_18 : decode b_Mo_retry 18 = .ok (.iload_n 2, 1) := by decide +kernel
theorem d_Mo_retry_19 : decode b_Mo_retry 19 = .ok (.iconst (1), 1) := by decide +kernel
theorem d_Mo_retry_20 : decode b_Mo_retry 20 = .ok (.iastore, 1) := by decide +kernel
theorem d_Mo_retry_21 : decode b_Mo_retry 21 = .ok (.aload_n 0, 1) := by decide +kernel
theorem d_Mo_retry_22 : decode b_Mo_retry 22 = .ok (.getfield 32, 3) := by decide +kernel
theorem d_Mo_retry_25 : decode b_Mo_retry 25 = .ok (.iload_n 2, 1) := by decide +kernel
theorem d_Mo_retry_26 : decode b_Mo_retry 26 = .ok (.iconst (4), 1) := by decide +kernel
theorem d_Mo_retry_27 : decode b_Mo_retry 27 = .ok (.iastore, 1) := by decide +kernel
theorem d_Mo_retry_28 : decode b_Mo_retry 28 = .ok (.return_, 1) := by decide +kernel
theorem d_Mo_let_0 : decode b_Mo_let 0 = .ok (.iconst (4), 1) := by decide +kernel
theorem d_Mo_let_1 : decode b_Mo_let 1 = .ok (.iload_n 1, 1) := by decide +kernel
theorem d_Mo_let_2 : decode b_Mo_let 2 = .ok (.imul, 1) := by decide +kernel
theorem d_Mo_let_3 : decode b_Mo_let 3 = .ok (.iload_n 2, 1) := by decide +kernel
theorem d_Mo_let_4 : decode b_Mo_let 4 = .ok (.iadd, 1) := by decide +kernel
theorem d_Mo_let_5 : decode b_Mo_let 5 = .ok (.istore 4, 2) := by decide +kernel
theorem d_Mo_let_7 : decode b_Mo_let 7 = .ok (.aload_n 0, 1) := by decide +kernel
theorem d_Mo_let_8 : decode b_Mo_let 8 = .ok (.getfield 50, 3) := by decide +kernel
theorem d_Mo_let_11 : decode b_Mo_let 11 = .ok (.iload 4, 2) := by decide +kernel
theorem d_Mo_let_13 : decode b_Mo_let 13 = .ok (.iload_n 3, 1) := by decide +kernel
theorem d_Mo_let_14 : decode b_Mo_let 14 = .ok (.aload_n 0, 1) := by decide +kernel
theorem d_Mo_let_15 : decode b_Mo_let 15 = .ok (.getfield 50, 3) := by decide +kernel
theorem d_Mo_let_18 : decode b_Mo_let 18 = .ok (.iload 4, 2) := by decide +kernel
theorem d_Mo_let_20 : decode b_Mo_let 20 = .ok (.iaload, 1) := by decide +kernel
theorem d_Mo_let_21 : decode b_Mo_let 21 = .ok (.if_icmp .le (7), 3) := by decide +kernel
theorem d_Mo_let_24 : decode b_Mo_let 24 = .ok (.iload_n 3, 1) := by decide +kernel
theorem d_Mo_let_25 : decode b_Mo_let 25 = .ok (.goto (10), 3) := by decide +kernel
theorem d_Mo_let_28 : decode b_Mo_let 28 = .ok (.aload_n 0, 1) := by decide +kernel
theorem d_Mo_let_29 : decode b_Mo_let 29 = .ok (.getfield 50, 3) := by decide +kernel
theorem d_Mo_let_32 : decode b_Mo_let 32 = .ok (.iload 4, 2) := by decide +kernel
theorem d_Mo_let_34 : decode b_Mo_let 34 = .ok (.iaload, 1) := by decide +kernel
theorem d_Mo_let_35 : decode b_Mo_let 35 = .ok (.iastore, 1) := by decide +kernel
theorem d_Mo_let_36 : decode b_Mo_let 36 = .ok (.aload_n 0, 1) := by decide +kernel
theorem d_Mo_let_37 : decode b_Mo_let 37 = .ok (.getfield 53, 3) := by decide +kernel
theorem d_Mo_let_40 : decode b_Mo_let 40 = .ok (.bipush (16), 2) := by decide +kernel
theorem d_Mo_let_42 : decode b_Mo_let 42 = .ok (.iload 4, 2) := by decide +kernel
theorem d_Mo_let_44 : decode b_Mo_let 44 = .ok (.imul, 1) := by decide +kernel
theorem d_Mo_let_45 : decode b_Mo_let 45 = .ok (.iload_n 3, 1) := by decide +kernel
theorem d_Mo_let_46 : decode b_Mo_let 46 = .ok (.bipush (16), 2) := by decide +kernel
theorem d_Mo_let_48 : decode b_Mo_let 48 = .ok (.irem, 1) := by decide +kernel
theorem d_Mo_let_49 : decode b_Mo_let 49 = .ok (.iadd, 1) := by decide +kernel
theorem d_Mo_let_50 : decode b_Mo_let 50 = .ok (.iload_n 3, 1) := by decide +kernel
theorem d_Mo_let_51 : decode b_Mo_let 51 = .ok (.iastore, 1) := by decide +kernel
theorem d_Mo_let_52 : decode b_Mo_let 52 = .ok (.return_, 1) := by decide +kernel
theorem d_Mo_welcome_0 : decode b_Mo_welcome 0 = .ok (.iload_n 1, 1) := by decide +kernel
theorem d_Mo_welcome_1 : decode b_Mo_welcome 1 = .ok (.ifCond .ne (8), 3) := by decide +kernel
theorem d_Mo_welcome_4 : decode b_Mo_welcome 4 = .ok (.aload_n 0, 1) := by decide +kernel
theorem d_Mo_welcome_5 : decode b_Mo_welcome 5 = .ok (.iload_n 2, 1) := by decide +kernel
theorem d_Mo_welcome_6 : decode b_Mo_welcome 6 = .ok (.invokevirtual 198, 3) := by decide +kernel
theorem d_Mo_welcome_9 : decode b_Mo_welcome 9 = .ok (.iload_n 1, 1) := by decide +kernel
theorem d_Mo_welcome_10 : decode b_Mo_welcome 10 = .ok (.iconst (2), 1) := by decide +kernel
theorem d_Mo_welcome_11 : decode b_Mo_welcome 11 = .ok (.if_icmp .eq (5), 3) := by decide +kernel
theorem d_Mo_welcome_14 : decode b_Mo_welcome 14 = .ok (.iconst (0), 1) := by decide +kernel
theorem d_Mo_welcome_15 : decode b_Mo_welcome 15 = .ok (.ireturn, 1) := by decide +kernel
theorem d_Mo_welcome_16 : decode b_Mo_welcome 16 = .ok (.aload_n 0, 1) := by decide +kernel
theorem d_Mo_welcome_17 : decode b_Mo_welcome 17 = .ok (.iconst (1), 1) := by decide +kernel
theorem d_Mo_welcome_18 : decode b_Mo_welcome 18 = .ok (.iconst (0), 1) := by decide +kernel
theorem d_Mo_welcome_19 : decode b_Mo_welcome 19 = .ok (.iload_n 2, 1) := by decide +kernel
theorem d_Mo_welcome_20 : decode b_Mo_welcome 20 = .ok (.invokevirtual 201, 3) := by decide +kernel
theorem d_Mo_welcome_23 : decode b_Mo_welcome 23 = .ok (.aload_n 0, 1) := by decide +kernel
theorem d_Mo_welcome_24 : decode b_Mo_welcome 24 = .ok (.getfield 47, 3) := by decide +kernel
theorem d_Mo_welcome_27 : decode b_Mo_welcome 27 = .ok (.iconst (4), 1) := by decide +kernel
theorem d_Mo_welcome_28 : decode b_Mo_welcome 28 = .ok (.iload_n 2, 1) := by decide +kernel
theorem d_Mo_welcome_29 : decode b_Mo_welcome 29 = .ok (.iastore, 1) := by decide +kernel
theorem d_Mo_welcome_30 : decode b_Mo_welcome 30 = .ok (.aload_n 0, 1) := by decide +kernel
theorem d_Mo_welcome_31 : decode b_Mo_welcome 31 = .ok (.getfield 44, 3) := by decide +kernel
theorem d_Mo_welcome_34 : decode b_Mo_welcome 34 = .ok (.iconst (1), 1) := by decide +kernel
theorem d_Mo_welcome_35 : decode b_Mo_welcome 35 = .ok (.bipush (7), 2) := by decide +kernel
theorem d_Mo_welcome_37 : decode b_Mo_welcome 37 = .ok (.iastore, 1) := by decide +kernel
theorem d_Mo_welcome_38 : decode b_Mo_welcome 38 = .ok (.aload_n 0, 1) := by decide +kernel
theorem d_Mo_welcome_39 : decode b_Mo_welcome 39 = .ok (.iconst (1), 1) := by decide +kernel
theorem d_Mo_welcome_40 : decode b_Mo_welcome 40 = .ok (.iconst (1), 1) := by decide +kernel
theorem d_Mo_welcome_41 : decode b_Mo_welcome 41 = .ok (.invokevirtual 181, 3) := by decide +kernel
theorem d_Mo_welcome_44 : decode b_Mo_welcome 44 = .ok (.aload_n 0, 1) := by decide +kernel
theorem d_Mo_welcome_45 : decode b_Mo_welcome 45 = .ok (.iconst (1), 1) := by decide +kernel
theorem d_Mo_welcome_46 : decode b_Mo_welcome 46 = .ok (.iconst (3), 1) := by decide +kernel
theorem d_Mo_welcome_47 : decode b_Mo_welcome 47 = .ok (.bipush (6), 2) := by decide +kernel
theorem d_Mo_welcome_49 : decode b_Mo_welcome 49 = .ok (.invokevirtual 184, 3) := by decide +kernel
theorem d_Mo_welcome_52 : decode b_Mo_welcome 52 = .ok (.iconst (1), 1) := by decide +kernel
theorem d_Mo_welcome_53 : decode b_Mo_welcome 53 = .ok (.ireturn, 1) := by decide +kernel
theorem d_Mo_note_0 : decode b_Mo_note 0 = .ok (.aload_n 0, 1) := by decide +kernel
theorem d_Mo_note_1 : decode b_Mo_note 1 = .ok (.getfield 56, 3) := by decide +kernel
theorem d_Mo_note_4 : decode b_Mo_note 4 = .ok (.iload_n 1, 1) := by decide +kernel
theorem d_Mo_note_5 : decode b_Mo_note 5 = .ok (.aload_n 0, 1) := by decide +kernel
theorem d_Mo_note_6 : decode b_Mo_note 6 = .ok (.getfield 56, 3) := by decide +kernel
theorem d_Mo_note_9 : decode b_Mo_note 9 = .ok (.iload_n 1, 1) := by decide +kernel
theorem d_Mo_note_10 : decode b_Mo_note 10 = .ok (.iaload, 1) := by decide +kernel
theorem d_Mo_note_11 : decode b_Mo_note 11 = .ok (.bipush (8), 2) := by decide +kernel
theorem d_Mo_note_13 : decode b_Mo_note 13 = .ok (.if_icmp .ge (14), 3) := by decide +kernel
theorem d_Mo_note_16 : decode b_Mo_note 16 = .ok (.aload_n 0, 1) := by decide +kernel
theorem d_Mo_note_17 : decode b_Mo_note 17 = .ok (.getfield 56, 3) := by decide +kernel
theorem d_Mo_note_20 : decode b_Mo_note 20 = .ok (.iload_n 1, 1) := by decide +kernel
theorem d_Mo_note_21 : decode b_Mo_note 21 = .ok (.iaload, 1) := by decide +kernel
theorem d_Mo_note_22 : decode b_Mo_note 22 = .ok (.iconst (1), 1) := by decide +kernel
theorem d_Mo_note_23 : decode b_Mo_note 23 = .ok (.iadd, 1) := by decide +kernel
theorem d_Mo_note_24 : decode b_Mo_note 24 = .ok (.goto (5), 3) := by decide +kernel
theorem d_Mo_note_27 : decode b_Mo_note 27 = .ok (.bipush (8), 2) := by decide +kernel
theorem d_Mo_note_29 : decode b_Mo_note 29 = .ok (.iastore, 1) := by decide +kernel
theorem d_Mo_note_30 : decode b_Mo_note 30 = .ok (.aload_n 0, 1) := by decide +kernel
theorem d_Mo_note_31 : decode b_Mo_note 31 = .ok (.getfield 56, 3) := by decide +kernel
theorem d_Mo_note_34 : decode b_Mo_note 34 = .ok (.iload_n 1, 1) := by decide +kernel
theorem d_Mo_note_35 : decode b_Mo_note 35 = .ok (.iaload, 1) := by decide +kernel
theorem d_Mo_note_36 : decode b_Mo_note 36 = .ok (.iconst (1), 1) := by decide +kernel
theorem d_Mo_note_37 : decode b_Mo_note 37 = .ok (.isub, 1) := by decide +kernel
theorem d_Mo_note_38 : decode b_Mo_note 38 = .ok (.istore 4, 2) := by decide +kernel
theorem d_Mo_note_40 : decode b_Mo_note 40 = .ok (.iload 4, 2) := by decide +kernel
theorem d_Mo_note_42 : decode b_Mo_note 42 = .ok (.ifCond .le (61), 3) := by decide +kernel
theorem d_Mo_note_45 : decode b_Mo_note 45 = .ok (.aload_n 0, 1) := by decide +kernel
theorem d_Mo_note_46 : decode b_Mo_note 46 = .ok (.getfield 59, 3) := by decide +kernel
theorem d_Mo_note_49 : decode b_Mo_note 49 = .ok (.bipush (8), 2) := by decide +kernel
theorem d_Mo_note_51 : decode b_Mo_note 51 = .ok (.iload_n 1, 1) := by decide +kernel
theorem d_Mo_note_52 : decode b_Mo_note 52 = .ok (.imul, 1) := by decide +kernel
theorem d_Mo_note_53 : decode b_Mo_note 53 = .ok (.iload 4, 2) := by decide +kernel
theorem d_Mo_note_55 : decode b_Mo_note 55 = .ok (.iadd, 1) := by decide +kernel
theorem d_Mo_note_56 : decode b_Mo_note 56 = .ok (.aload_n 0, 1) := by decide +kernel
theorem d_Mo_note_57 : decode b_Mo_note 57 = .ok (.getfield 59, 3) := by decide +kernel
theorem d_Mo_note_60 : decode b_Mo_note 60 = .ok (.bipush (8), 2) := by decide +kernel
theorem d_Mo_note_62 : decode b_Mo_note 62 = .ok (.iload_n 1, 1) := by decide +kernel
theorem d_Mo_note_63 : decode b_Mo_note 63 = .ok (.imul, 1) := by decide +kernel
theorem d_Mo_note_64 : decode b_Mo_note 64 = .ok (.iload 4, 2) := by decide +kernel
theorem d_Mo_note_66 : decode b_Mo_note 66 = .ok (.iadd, 1) := by decide +kernel
theorem d_Mo_note_67 : decode b_Mo_note 67 = .ok (.iconst (1), 1) := by decide +kernel
theorem d_Mo_note_68 : decode b_Mo_note 68 = .ok (.isub, 1) := by decide +kernel
theorem d_Mo_note_69 : decode b_Mo_note 69 = .ok (.iaload, 1) := by decide +kernel
theorem d_Mo_note_70 : decode b_Mo_note 70 = .ok (.iastore, 1) := by decide +kernel
theorem d_Mo_note_71 : decode b_Mo_note 71 = .ok (.aload_n 0, 1) := by decide +kernel
theorem d_Mo_note_72 : decode b_Mo_note 72 = .ok (.getfield 62, 3) := by decide +kernel
theorem d_Mo_note_75 : decode b_Mo_note 75 = .ok (.bipush (8), 2) := by decide +kernel
theorem d_Mo_note_77 : decode b_Mo_note 77 = .ok (.iload_n 1, 1) := by decide +kernel
theorem d_Mo_note_78 : decode b_Mo_note 78 = .ok (.imul, 1) := by decide +kernel
theorem d_Mo_note_79 : decode b_Mo_note 79 = .ok (.iload 4, 2) := by decide +kernel
theorem d_Mo_note_81 : decode b_Mo_note 81 = .ok (.iadd, 1) := by decide +kernel
theorem d_Mo_note_82 : decode b_Mo_note 82 = .ok (.aload_n 0, 1) := by decide +kernel
theorem d_Mo_note_83 : decode b_Mo_note 83 = .ok (.getfield 62, 3) := by decide +kernel
theorem d_Mo_note_86 : decode b_Mo_note 86 = .ok (.bipush (8), 2) := by decide +kernel
theorem d_Mo_note_88 : decode b_Mo_note 88 = .ok (.iload_n 1, 1) := by decide +kernel
theorem d_Mo_note_89 : decode b_Mo_note 89 = .ok (.imul, 1) := by decide +kernel
theorem d_Mo_note_90 : decode b_Mo_note 90 = .ok (.iload 4, 2) := by decide +kernel
theorem d_Mo_note_92 : decode b_Mo_note 92 = .ok (.iadd, 1) := by decide +kernel
theorem d_Mo_note_93 : decode b_Mo_note 93 = .ok (.iconst (1), 1) := by decide +kernel
theorem d_Mo_note_94 : decode b_Mo_note 94 = .ok (.isub, 1) := by decide +kernel
theorem d_Mo_note_95 : decode b_Mo_note 95 = .ok (.iaload, 1) := by decide +kernel
theorem d_Mo_note_96 : decode b_Mo_note 96 = .ok (.iastore, 1) := by decide +kernel
theorem d_Mo_note_97 : decode b_Mo_note 97 = .ok (.iinc 4 (-1), 3) := by decide +kernel
theorem d_Mo_note_100 : decode b_Mo_note 100 = .ok (.goto (-60), 3) := by decide +kernel
theorem d_Mo_note_103 : decode b_Mo_note 103 = .ok (.aload_n 0, 1) := by decide +kernel
theorem d_Mo_note_104 : decode b_Mo_note 104 = .ok (.getfield 59, 3) := by decide +kernel
theorem d_Mo_note_107 : decode b_Mo_note 107 = .ok (.bipush (8), 2) := by decide +kernel
theorem d_Mo_note_109 : decode b_Mo_note 109 = .ok (.iload_n 1, 1) := by decide +kernel
theorem d_Mo_note_110 : decode b_Mo_note 110 = .ok (.imul, 1) := by decide +kernel
theorem d_Mo_note_111 : decode b_Mo_note 111 = .ok (.iload_n 2, 1) := by decide +kernel
theorem d_Mo_note_112 : decode b_Mo_note 112 = .ok (.iastore, 1) := by decide +kernel
theorem d_Mo_note_113 : decode b_Mo_note 113 = .ok (.aload_n 0, 1) := by decide +kernel
theorem d_Mo_note_114 : decode b_Mo_note 114 = .ok (.getfield 62, 3) := by decide +kernel
theorem d_Mo_note_117 : decode b_Mo_note 117 = .ok (.bipush (8), 2) := by decide +kernel
theorem d_Mo_note_119 : decode b_Mo_note 119 = .ok (.iload_n 1, 1) := by decide +kernel
theorem d_Mo_note_120 : decode b_Mo_note 120 = .ok (.imul, 1) := by decide +kernel
theorem d_Mo_note_121 : decode b_Mo_note 121 = .ok (.iload_n 3, 1) := by decide +kernel
theorem d_Mo_note_122 : decode b_Mo_note 122 = .ok (.iastore, 1) := by decide +kernel
theorem d_Mo_note_123 : decode b_Mo_note 123 = .ok (.return_, 1) := by decide +kernel
theorem d_Mo_isWhole_0 : decode b_Mo_isWhole 0 = .ok (.iconst (1), 1) := by decide +kernel
theorem d_Mo_isWhole_1 : decode b_Mo_isWhole 1 = .ok (.istore_n 2, 1) := by decide +kernel
theorem d_Mo_isWhole_2 : decode b_Mo_isWhole 2 = .ok (.iconst (0), 1) := by decide +kernel
theorem d_Mo_isWhole_3 : decode b_Mo_isWhole 3 = .ok (.istore_n 3, 1) := by decide +kernel
theorem d_Mo_isWhole_4 : decode b_Mo_isWhole 4 = .ok (.iload_n 3, 1) := by decide +kernel
theorem d_Mo_isWhole_5 : decode b_Mo_isWhole 5 = .ok (.aload_n 0, 1) := by decide +kernel
theorem d_Mo_isWhole_6 : decode b_Mo_isWhole 6 = .ok (.iload_n 1, 1) := by decide +kernel
theorem d_Mo_isWhole_7 : decode b_Mo_isWhole 7 = .ok (.invokevirtual 144, 3) := by decide +kernel
theorem d_Mo_isWhole_10 : decode b_Mo_isWhole 10 = .ok (.if_icmp .ge (35), 3) := by decide +kernel
theorem d_Mo_isWhole_13 : decode b_Mo_isWhole 13 = .ok (.iload_n 2, 1) := by decide +kernel
theorem d_Mo_isWhole_14 : decode b_Mo_isWhole 14 = .ok (.ifCond .eq (23), 3) := by decide +kernel
theorem d_Mo_isWhole_17 : decode b_Mo_isWhole 17 = .ok (.aload_n 0, 1) := by decide +kernel
theorem d_Mo_isWhole_18 : decode b_Mo_isWhole 18 = .ok (.getfield 101, 3) := by decide +kernel
theorem d_Mo_isWhole_21 : decode b_Mo_isWhole 21 = .ok (.bipush (48), 2) := by decide +kernel
theorem d_Mo_isWhole_23 : decode b_Mo_isWhole 23 = .ok (.iload_n 1, 1) := by decide +kernel
theorem d_Mo_isWhole_24 : decode b_Mo_isWhole 24 = .ok (.iconst (3), 1) := by decide +kernel
theorem d_Mo_isWhole_25 : decode b_Mo_isWhole 25 = .ok (.isub, 1) := by decide +kernel
theorem d_Mo_isWhole_26 : decode b_Mo_isWhole 26 = .ok (.imul, 1) := by decide +kernel
theorem d_Mo_isWhole_27 : decode b_Mo_isWhole 27 = .ok (.iload_n 3, 1) := by decide +kernel
theorem d_Mo_isWhole_28 : decode b_Mo_isWhole 28 = .ok (.iadd, 1) := by decide +kernel
theorem d_Mo_isWhole_29 : decode b_Mo_isWhole 29 = .ok (.baload, 1) := by decide +kernel
theorem d_Mo_isWhole_30 : decode b_Mo_isWhole 30 = .ok (.ifCond .eq (7), 3) := by decide +kernel
theorem d_Mo_isWhole_33 : decode b_Mo_isWhole 33 = .ok (.iconst (1), 1) := by decide +kernel
theorem d_Mo_isWhole_34 : decode b_Mo_isWhole 34 = .ok (.goto (4), 3) := by decide +kernel
theorem d_Mo_isWhole_37 : decode b_Mo_isWhole 37 = .ok (.iconst (0), 1) := by decide +kernel
theorem d_Mo_isWhole_38 : decode b_Mo_isWhole 38 = .ok (.istore_n 2, 1) := by decide +kernel
theorem d_Mo_isWhole_39 : decode b_Mo_isWhole 39 = .ok (.iinc 3 (1), 3) := by decide +kernel
theorem d_Mo_isWhole_42 : decode b_Mo_isWhole 42 = .ok (.goto (-38), 3) := by decide +kernel
theorem d_Mo_isWhole_45 : decode b_Mo_isWhole 45 = .ok (.iload_n 2, 1) := by decide +kernel
theorem d_Mo_isWhole_46 : decode b_Mo_isWhole 46 = .ok (.ireturn, 1) := by decide +kernel
theorem d_Mo_gather_0 : decode b_Mo_gather 0 = .ok (.iload_n 2, 1) := by decide +kernel
theorem d_Mo_gather_1 : decode b_Mo_gather 1 = .ok (.istore 4, 2) := by decide +kernel
theorem d_Mo_gather_3 : decode b_Mo_gather 3 = .ok (.iload 4, 2) := by decide +kernel
theorem d_Mo_gather_5 : decode b_Mo_gather 5 = .ok (.iload_n 2, 1) := by decide +kernel
theorem d_Mo_gather_6 : decode b_Mo_gather 6 = .ok (.iload_n 3, 1) := by decide +kernel
theorem d_Mo_gather_7 : decode b_Mo_gather 7 = .ok (.iadd, 1) := by decide +kernel
theorem d_Mo_gather_8 : decode b_Mo_gather 8 = .ok (.if_icmp .ge (24), 3) := by decide +kernel
theorem d_Mo_gather_11 : decode b_Mo_gather 11 = .ok (.aload_n 0, 1) := by decide +kernel
theorem d_Mo_gather_12 : decode b_Mo_gather 12 = .ok (.getfield 101, 3) := by decide +kernel
theorem d_Mo_gather_15 : decode b_Mo_gather 15 = .ok (.bipush (48), 2) := by decide +kernel
theorem d_Mo_gather_17 : decode b_Mo_gather 17 = .ok (.iload_n 1, 1) := by decide +kernel
theorem d_Mo_gather_18 : decode b_Mo_gather 18 = .ok (.iconst (3), 1) := by decide +kernel
theorem d_Mo_gather_19 : decode b_Mo_gather 19 = .ok (.isub, 1) := by decide +kernel
theorem d_Mo_gather_20 : decode b_Mo_gather 20 = .ok (.imul, 1) := by decide +kernel
theorem d_Mo_gather_21 : decode b_Mo_gather 21 = .ok (.iload 4, 2) := by decide +kernel
theorem d_Mo_gather_23 : decode b_Mo_gather 23 = .ok (.iadd, 1) := by decide +kernel
theorem d_Mo_gather_24 : decode b_Mo_gather 24 = .ok (.iconst (1), 1) := by decide +kernel
theorem d_Mo_gather_25 : decode b_Mo_gather 25 = .ok (.bastore, 1) := by decide +kernel
theorem d_Mo_gather_26 : decode b_Mo_gather 26 = .ok (.iinc 4 (1), 3) := by decide +kernel
theorem d_Mo_gather_29 : decode b_Mo_gather 29 = .ok (.goto (-26), 3) := by decide +kernel
theorem d_Mo_gather_32 : decode b_Mo_gather 32 = .ok (.aload_n 0, 1) := by decide +kernel
theorem d_Mo_gather_33 : decode b_Mo_gather 33 = .ok (.getfield 44, 3) := by decide +kernel
theorem d_Mo_gather_36 : decode b_Mo_gather 36 = .ok (.iconst (0), 1) := by decide +kernel
theorem d_Mo_gather_37 : decode b_Mo_gather 37 = .ok (.iaload, 1) := by decide +kernel
theorem d_Mo_gather_38 : decode b_Mo_gather 38 = .ok (.bipush (7), 2) := by decide +kernel
theorem d_Mo_gather_40 : decode b_Mo_gather 40 = .ok (.if_icmp .ge (29), 3) := by decide +kernel
theorem d_Mo_gather_43 : decode b_Mo_gather 43 = .ok (.aload_n 0, 1) := by decide +kernel
theorem d_Mo_gather_44 : decode b_Mo_gather 44 = .ok (.aload_n 0, 1) := by decide +kernel
theorem d_Mo_gather_45 : decode b_Mo_gather 45 = .ok (.getfield 44, 3) := by decide +kernel
theorem d_Mo_gather_48 : decode b_Mo_gather 48 = .ok (.iconst (0), 1) := by decide +kernel
theorem d_Mo_gather_49 : decode b_Mo_gather 49 = .ok (.iaload, 1) := by decide +kernel
theorem d_Mo_gather_50 : decode b_Mo_gather 50 = .ok (.invokevirtual 204, 3) := by decide +kernel
theorem d_Mo_gather_53 : decode b_Mo_gather 53 = .ok (.ifCond .eq (16), 3) := by decide +kernel
theorem d_Mo_gather_56 : decode b_Mo_gather 56 = .ok (.aload_n 0, 1) := by decide +kernel
theorem d_Mo_gather_57 : decode b_Mo_gather 57 = .ok (.getfield 44, 3) := by decide +kernel
theorem d_Mo_gather_60 : decode b_Mo_gather 60 = .ok (.iconst (0), 1) := by decide +kernel
theorem d_Mo_gather_61 : decode b_Mo_gather 61 = .ok (.dup2, 1) := by decide +kernel
theorem d_Mo_gather_62 : decode b_Mo_gather 62 = .ok (.iaload, 1) := by decide +kernel
theorem d_Mo_gather_63 : decode b_Mo_gather 63 = .ok (.iconst (1), 1) := by decide +kernel
theorem d_Mo_gather_64 : decode b_Mo_gather 64 = .ok (.iadd, 1) := by decide +kernel
theorem d_Mo_gather_65 : decode b_Mo_gather 65 = .ok (.iastore, 1) := by decide +kernel
theorem d_Mo_gather_66 : decode b_Mo_gather 66 = .ok (.goto (-34), 3) := by decide +kernel
theorem d_Mo_gather_69 : decode b_Mo_gather 69 = .ok (.aload_n 0, 1) := by decide +kernel
theorem d_Mo_gather_70 : decode b_Mo_gather 70 = .ok (.getfield 44, 3) := by decide +kernel
theorem d_Mo_gather_73 : decode b_Mo_gather 73 = .ok (.iconst (0), 1) := by decide +kernel
theorem d_Mo_gather_74 : decode b_Mo_gather 74 = .ok (.iaload, 1) := by decide +kernel
theorem d_Mo_gather_75 : decode b_Mo_gather 75 = .ok (.bipush (7), 2) := by decide +kernel
theorem d_Mo_gather_77 : decode b_Mo_gather 77 = .ok (.if_icmp .ne (29), 3) := by decide +kernel
theorem d_Mo_gather_80 : decode b_Mo_gather 80 = .ok (.aload_n 0, 1) := by decide +kernel
theorem d_Mo_gather_81 : decode b_Mo_gather 81 = .ok (.getfield 44, 3) := by decide +kernel
theorem d_Mo_gather_84 : decode b_Mo_gather 84 = .ok (.iconst (0), 1) := by decide +kernel
theorem d_Mo_gather_85 : decode b_Mo_gather 85 = .ok (.bipush (8), 2) := by decide +kernel
theorem d_Mo_gather_87 : decode b_Mo_gather 87 = .ok (.iastore, 1) := by decide +kernel
theorem d_Mo_gather_88 : decode b_Mo_gather 88 = .ok (.aload_n 0, 1) := by decide +kernel
theorem d_Mo_gather_89 : decode b_Mo_gather 89 = .ok (.iconst (0), 1) := by decide +kernel
theorem d_Mo_gather_90 : decode b_Mo_gather 90 = .ok (.iconst (3), 1) := by decide +kernel
theorem d_Mo_gather_91 : decode b_Mo_gather 91 = .ok (.invokevirtual 181, 3) := by decide +kernel
theorem d_Mo_gather_94 : decode b_Mo_gather 94 = .ok (.aload_n 0, 1) := by decide +kernel
theorem d_Mo_gather_95 : decode b_Mo_gather 95 = .ok (.iconst (0), 1) := by decide +kernel
theorem d_Mo_gather_96 : decode b_Mo_gather 96 = .ok (.bipush (7), 2) := by decide +kernel
theorem d_Mo_gather_98 : decode b_Mo_gather 98 = .ok (.bipush (7), 2) := by decide +kernel
theorem d_Mo_gather_100 : decode b_Mo_gather 100 = .ok (.invokevirtual 184, 3) := by decide +kernel
theorem d_Mo_gather_103 : decode b_Mo_gather 103 = .ok (.goto (15), 3) := by decide +kernel
theorem d_Mo_gather_106 : decode b_Mo_gather 106 = .ok (.aload_n 0, 1) := by decide +kernel
theorem d_Mo_gather_107 : decode b_Mo_gather 107 = .ok (.getfield 65, 3) := by decide +kernel
theorem d_Mo_gather_110 : decode b_Mo_gather 110 = .ok (.iconst (0), 1) := by decide +kernel
theorem d_Mo_gather_111 : decode b_Mo_gather 111 = .ok (.aload_n 0, 1) := by decide +kernel
theorem d_Mo_gather_112 : decode b_Mo_gather 112 = .ok (.getfield 174, 3) := by decide +kernel
theorem d_Mo_gather_115 : decode b_Mo_gather 115 = .ok (.iconst (2), 1) := by decide +kernel
theorem d_Mo_gather_116 : decode b_Mo_gather 116 = .ok (.iadd, 1) := by decide +kernel
theorem d_Mo_gather_117 : decode b_Mo_gather 117 = .ok (.iastore, 1) := by decide +kernel
theorem d_Mo_gather_118 : decode b_Mo_gather 118 = .ok (.return_, 1) := by decide +kernel
theorem d_Mo_takeFragment_0 : decode b_Mo_takeFragment 0 = .ok (.iload_n 1, 1) := by decide +kernel
theorem d_Mo_takeFragment_1 : decode b_Mo_takeFragment 1 = .ok (.ifCond .ne (41), 3) := by decide +kernel
theorem d_Mo_takeFragment_4 : decode b_Mo_takeFragment 4 = .ok (.iload_n 2, 1) := by decide +kernel
theorem d_Mo_takeFragment_5 : decode b_Mo_takeFragment 5 = .ok (.iconst (1), 1) := by decide +kernel
theorem d_Mo_takeFragment_6 : decode b_Mo_takeFragment 6 = .ok (.if_icmp .ne (36), 3) := by decide +kernel
theorem d_Mo_takeFragment_9 : decode b_Mo_takeFragment 9 = .ok (.aload_n 0, 1) := by decide +kernel
theorem d_Mo_takeFragment_10 : decode b_Mo_takeFragment 10 = .ok (.getfield 41, 3) := by decide +kernel
theorem d_Mo_takeFragment_13 : decode b_Mo_takeFragment 13 = .ok (.iconst (0), 1) := by decide +kernel
theorem d_Mo_takeFragment_14 : decode b_Mo_takeFragment 14 = .ok (.iaload, 1) := by decide +kernel
theorem d_Mo_takeFragment_15 : decode b_Mo_takeFragment 15 = .ok (.iconst (1), 1) := by decide +kernel
theorem d_Mo_takeFragment_16 : decode b_Mo_takeFragment 16 = .ok (.if_icmp .ne (26), 3) := by decide +kernel
theorem d_Mo_takeFragment_19 : decode b_Mo_takeFragment 19 = .ok (.aload_n 0, 1) := by decide +kernel
theorem d_Mo_takeFragment_20 : decode b_Mo_takeFragment 20 = .ok (.getfield 44, 3) := by decide +kernel
theorem d_Mo_takeFragment_23 : decode b_Mo_takeFragment 23 = .ok (.iconst (0), 1) := by decide +kernel
theorem d_Mo_takeFragment_24 : decode b_Mo_takeFragment 24 = .ok (.iconst (3), 1) := by decide +kernel
theorem d_Mo_takeFragment_25 : decode b_Mo_takeFragment 25 = .ok (.iastore, 1) := by decide +kernel
theorem d_Mo_takeFragment_26 : decode b_Mo_takeFragment 26 = .ok (.aload_n 0, 1) := by decide +kernel
theorem d_Mo_takeFragment_27 : decode b_Mo_takeFragment 27 = .ok (.iconst (0), 1) := by decide +kernel
theorem d_Mo_takeFragment_28 : decode b_Mo_takeFragment 28 = .ok (.iconst (2), 1) := by decide +kernel
theorem d_Mo_takeFragment_29 : decode b_Mo_takeFragment 29 = .ok (.invokevirtual 181, 3) := by decide +kernel
theorem d_Mo_takeFragment_32 : decode b_Mo_takeFragment 32 = .ok (.aload_n 0, 1) := by decide +kernel
theorem d_Mo_takeFragment_33 : decode b_Mo_takeFragment 33 = .ok (.iconst (0), 1) := by decide +kernel
theorem d_Mo_takeFragment_34 : decode b_Mo_takeFragment 34 = .ok (.iconst (2), 1) := by decide +kernel
theorem d_Mo_takeFragment_35 : decode b_Mo_takeFragment 35 = .ok (.iconst (2), 1) := by decide +kernel
theorem d_Mo_takeFragment_36 : decode b_Mo_takeFragment 36 = .ok (.invokevirtual 184, 3) := by decide +kernel
theorem d_Mo_takeFragment_39 : decode b_Mo_takeFragment 39 = .ok (.goto (128), 3) := by decide +kernel
theorem d_Mo_takeFragment_42 : decode b_Mo_takeFragment 42 = .ok (.iload_n 1, 1) := by decide +kernel
theorem d_Mo_takeFragment_43 : decode b_Mo_takeFragment 43 = .ok (.ifCond .ne (51), 3) := by decide +kernel
theorem d_Mo_takeFragment_46 : decode b_Mo_takeFragment 46 = .ok (.iload_n 2, 1) := by decide +kernel
theorem d_Mo_takeFragment_47 : decode b_Mo_takeFragment 47 = .ok (.iconst (3), 1) := by decide +kernel
theorem d_Mo_takeFragment_48 : decode b_Mo_takeFragment 48 = .ok (.if_icmp .lt (46), 3) := by decide +kernel
theorem d_Mo_takeFragment_51 : decode b_Mo_takeFragment 51 = .ok (.iload_n 2, 1) := by decide +kernel
theorem d_Mo_takeFragment_52 : decode b_Mo_takeFragment 52 = .ok (.bipush (6), 2) := by decide +kernel
theorem d_Mo_takeFragment_54 : decode b_Mo_takeFragment 54 = .ok (.if_icmp .gt (40), 3) := by decide +kernel
theorem d_Mo_takeFragment_57 : decode b_Mo_takeFragment 57 = .ok (.aload_n 0, 1) := by decide +kernel
theorem d_Mo_takeFragment_58 : decode b_Mo_takeFragment 58 = .ok (.getfield 41, 3) := by decide +kernel
theorem d_Mo_takeFragment_61 : decode b_Mo_takeFragment 61 = .ok (.iconst (0), 1) := by decide +kernel
theorem d_Mo_takeFragment_62 : decode b_Mo_takeFragment 62 = .ok (.iaload, 1) := by decide +kernel
theorem d_Mo_takeFragment_63 : decode b_Mo_takeFragment 63 = .ok (.iconst (2), 1) := by decide +kernel
theorem d_Mo_takeFragment_64 : decode b_Mo_takeFragment 64 = .ok (.if_icmp .ne (30), 3) := by decide +kernel
theorem d_Mo_takeFragment_67 : decode b_Mo_takeFragment 67 = .ok (.aload_n 0, 1) := by decide +kernel
theorem d_Mo_takeFragment_68 : decode b_Mo_takeFragment 68 = .ok (.getfield 68, 3) := by decide +kernel
theorem d_Mo_takeFragment_71 : decode b_Mo_takeFragment 71 = .ok (.iconst (0), 1) := by decide +kernel
theorem d_Mo_takeFragment_72 : decode b_Mo_takeFragment 72 = .ok (.iconst (0), 1) := by decide +kernel
theorem d_Mo_takeFragment_73 : decode b_Mo_takeFragment 73 = .ok (.iastore, 1) := by decide +kernel
theorem d_Mo_takeFragment_74 : decode b_Mo_takeFragment 74 = .ok (.aload_n 0, 1) := by decide +kernel
theorem d_Mo_takeFragment_75 : decode b_Mo_takeFragment 75 = .ok (.iconst (0), 1) := by decide +kernel
theorem d_Mo_takeFragment_76 : decode b_Mo_takeFragment 76 = .ok (.iload 5, 2) := by decide +kernel
theorem d_Mo_takeFragment_78 : decode b_Mo_takeFragment 78 = .ok (.iload 6, 2) := by decide +kernel
theorem d_Mo_takeFragment_80 : decode b_Mo_takeFragment 80 = .ok (.invokevirtual 207, 3) := by decide +kernel
theorem d_Mo_takeFragment_83 : decode b_Mo_takeFragment 83 = .ok (.aload_n 0, 1) := by decide +kernel
theorem d_Mo_takeFragment_84 : decode b_Mo_takeFragment 84 = .ok (.iload_n 2, 1) := by decide +kernel
theorem d_Mo_takeFragment_85 : decode b_Mo_takeFragment 85 = .ok (.iload_n 3, 1) := by decide +kernel
theorem d_Mo_takeFragment_86 : decode b_Mo_takeFragment 86 = .ok (.iload 4, 2) := by decide +kernel
theorem d_Mo_takeFragment_88 : decode b_Mo_takeFragment 88 = .ok (.invokevirtual 210, 3) := by decide +kernel
theorem d_Mo_takeFragment_91 : decode b_Mo_takeFragment 91 = .ok (.goto (76), 3) := by decide +kernel
theorem d_Mo_takeFragment_94 : decode b_Mo_takeFragment 94 = .ok (.iload_n 1, 1) := by decide +kernel
theorem d_Mo_takeFragment_95 : decode b_Mo_takeFragment 95 = .ok (.iconst (1), 1) := by decide +kernel
theorem d_Mo_takeFragment_96 : decode b_Mo_takeFragment 96 = .ok (.if_icmp .ne (16), 3) := by decide +kernel
theorem d_Mo_takeFragment_99 : decode b_Mo_takeFragment 99 = .ok (.iload_n 2, 1) := by decide +kernel
theorem d_Mo_takeFragment_100 : decode b_Mo_takeFragment 100 = .ok (.ifCond .ne (12), 3) := by decide +kernel
theorem d_Mo_takeFragment_103 : decode b_Mo_takeFragment 103 = .ok (.aload_n 0, 1) := by decide +kernel
theorem d_Mo_takeFragment_104 : decode b_Mo_takeFragment 104 = .ok (.iload 6, 2) := by decide +kernel
theorem d_Mo_takeFragment_106 : decode b_Mo_takeFragment 106 = .ok (.invokevirtual 198, 3) := by decide +kernel
theorem d_Mo_takeFragment_109 : decode b_Mo_takeFragment 109 = .ok (.goto (58), 3) := by decide +kernel
theorem d_Mo_takeFragment_112 : decode b_Mo_takeFragment 112 = .ok (.iload_n 1, 1) := by decide +kernel
theorem d_Mo_takeFragment_113 : decode b_Mo_takeFragment 113 = .ok (.iconst (1), 1) := by decide +kernel
theorem d_Mo_takeFragment_114 : decode b_Mo_takeFragment 114 = .ok (.if_icmp .ne (53), 3) := by decide +kernel
theorem d_Mo_takeFragment_117 : decode b_Mo_takeFragment 117 = .ok (.iload_n 2, 1) := by decide +kernel
theorem d_Mo_takeFragment_118 : decode b_Mo_takeFragment 118 = .ok (.bipush (7), 2) := by decide +kernel
theorem d_Mo_takeFragment_120 : decode b_Mo_takeFragment 120 = .ok (.if_icmp .ne (47), 3) := by decide +kernel
theorem d_Mo_takeFragment_123 : decode b_Mo_takeFragment 123 = .ok (.aload_n 0, 1) := by decide +kernel
theorem d_Mo_takeFragment_124 : decode b_Mo_takeFragment 124 = .ok (.getfield 41, 3) := by decide +kernel
theorem d_Mo_takeFragment_127 : decode b_Mo_takeFragment 127 = .ok (.iconst (1), 1) := by decide +kernel
theorem d_Mo_takeFragment_128 : decode b_Mo_takeFragment 128 = .ok (.iaload, 1) := by decide +kernel
theorem d_Mo_takeFragment_129 : decode b_Mo_takeFragment 129 = .ok (.ifCond .le (38), 3) := by decide +kernel
theorem d_Mo_takeFragment_132 : decode b_Mo_takeFragment 132 = .ok (.aload_n 0, 1) := by decide +kernel
theorem d_Mo_takeFragment_133 : decode b_Mo_takeFragment 133 = .ok (.iconst (1), 1) := by decide +kernel
theorem d_Mo_takeFragment_134 : decode b_Mo_takeFragment 134 = .ok (.iload 5, 2) := by decide +kernel
theorem d_Mo_takeFragment_136 : decode b_Mo_takeFragment 136 = .ok (.iload 6, 2) := by decide +kernel
theorem d_Mo_takeFragment_138 : decode b_Mo_takeFragment 138 = .ok (.invokevirtual 207, 3) := by decide +kernel
theorem d_Mo_takeFragment_141 : decode b_Mo_takeFragment 141 = .ok (.aload_n 0, 1) := by decide +kernel
theorem d_Mo_takeFragment_142 : decode b_Mo_takeFragment 142 = .ok (.getfield 44, 3) := by decide +kernel
theorem d_Mo_takeFragment_145 : decode b_Mo_takeFragment 145 = .ok (.iconst (1), 1) := by decide +kernel
theorem d_Mo_takeFragment_146 : decode b_Mo_takeFragment 146 = .ok (.bipush (8), 2) := by decide +kernel
theorem d_Mo_takeFragment_148 : decode b_Mo_takeFragment 148 = .ok (.iastore, 1) := by decide +kernel
theorem d_Mo_takeFragment_149 : decode b_Mo_takeFragment 149 = .ok (.aload_n 0, 1) := by decide +kernel
theorem d_Mo_takeFragment_150 : decode b_Mo_takeFragment 150 = .ok (.getfield 68, 3) := by decide +kernel
theorem d_Mo_takeFragment_153 : decode b_Mo_takeFragment 153 = .ok (.iconst (1), 1) := by decide +kernel
theorem d_Mo_takeFragment_154 : decode b_Mo_takeFragment 154 = .ok (.iconst (0), 1) := by decide +kernel
theorem d_Mo_takeFragment_155 : decode b_Mo_takeFragment 155 = .ok (.iastore, 1) := by decide +kernel
theorem d_Mo_takeFragment_156 : decode b_Mo_takeFragment 156 = .ok (.aload_n 0, 1) := by decide +kernel
theorem d_Mo_takeFragment_157 : decode b_Mo_takeFragment 157 = .ok (.iconst (1), 1) := by decide +kernel
theorem d_Mo_takeFragment_158 : decode b_Mo_takeFragment 158 = .ok (.iconst (2), 1) := by decide +kernel
theorem d_Mo_takeFragment_159 : decode b_Mo_takeFragment 159 = .ok (.invokevirtual 181, 3) := by decide +kernel
theorem d_Mo_takeFragment_162 : decode b_Mo_takeFragment 162 = .ok (.aload_n 0, 1) := by decide +kernel
theorem d_Mo_takeFragment_163 : decode b_Mo_takeFragment 163 = .ok (.iconst (1), 1) := by decide +kernel
theorem d_Mo_takeFragment_164 : decode b_Mo_takeFragment 164 = .ok (.invokevirtual 188, 3) := by decide +kernel
theorem d_Mo_takeFragment_167 : decode b_Mo_takeFragment 167 = .ok (.return_, 1) := by decide +kernel
theorem d_Mo_deliver_0 : decode b_Mo_deliver 0 = .ok (.aload_n 0, 1) := by decide +kernel
theorem d_Mo_deliver_1 : decode b_Mo_deliver 1 = .ok (.iload_n 1, 1) := by decide +kernel
theorem d_Mo_deliver_2 : decode b_Mo_deliver 2 = .ok (.invokevirtual 159, 3) := by decide +kernel
theorem d_Mo_deliver_5 : decode b_Mo_deliver 5 = .ok (.ifCond .ne (5), 3) := by decide +kernel
theorem d_Mo_deliver_8 : decode b_Mo_deliver 8 = .ok (.iconst (-1), 1) := by decide +kernel
theorem d_Mo_deliver_9 : decode b_Mo_deliver 9 = .ok (.ireturn, 1) := by decide +kernel
theorem d_Mo_deliver_10 : decode b_Mo_deliver 10 = .ok (.iconst (1), 1) := by decide +kernel
theorem d_Mo_deliver_11 : decode b_Mo_deliver 11 = .ok (.aload_n 0, 1) := by decide +kernel
theorem d_Mo_deliver_12 : decode b_Mo_deliver 12 = .ok (.getfield 7, 3) := by decide +kernel
theorem d_Mo_deliver_15 : decode b_Mo_deliver 15 = .ok (.iload_n 1, 1) := by decide +kernel
theorem d_Mo_deliver_16 : decode b_Mo_deliver 16 = .ok (.iaload, 1) := by decide +kernel
theorem d_Mo_deliver_17 : decode b_Mo_deliver 17 = .ok (.isub, 1) := by decide +kernel
theorem d_Mo_deliver_18 : decode b_Mo_deliver 18 = .ok (.istore_n 2, 1) := by decide +kernel
theorem d_Mo_deliver_19 : decode b_Mo_deliver 19 = .ok (.aload_n 0, 1) := by decide +kernel
theorem d_Mo_deliver_20 : decode b_Mo_deliver 20 = .ok (.getfield 16, 3) := by decide +kernel
theorem d_Mo_deliver_23 : decode b_Mo_deliver 23 = .ok (.iload_n 1, 1) := by decide +kernel
theorem d_Mo_deliver_24 : decode b_Mo_deliver 24 = .ok (.iaload, 1) := by decide +kernel
theorem d_Mo_deliver_25 : decode b_Mo_deliver 25 = .ok (.istore_n 3, 1) := by decide +kernel
theorem d_Mo_deliver_26 : decode b_Mo_deliver 26 = .ok (.aload_n 0, 1) := by decide +kernel
theorem d_Mo_deliver_27 : decode b_Mo_deliver 27 = .ok (.getfield 19, 3) := by decide +kernel
theorem d_Mo_deliver_30 : decode b_Mo_deliver 30 = .ok (.iload_n 1, 1) := by decide +kernel
theorem d_Mo_deliver_31 : decode b_Mo_deliver 31 = .ok (.iaload, 1) := by decide +kernel
theorem d_Mo_deliver_32 : decode b_Mo_deliver 32 = .ok (.istore 4, 2) := by decide +kernel
theorem d_Mo_deliver_34 : decode b_Mo_deliver 34 = .ok (.aload_n 0, 1) := by decide +kernel
theorem d_Mo_deliver_35 : decode b_Mo_deliver 35 = .ok (.getfield 13, 3) := by decide +kernel
theorem d_Mo_deliver_38 : decode b_Mo_deliver 38 = .ok (.iload_n 1, 1) := by decide +kernel
theorem d_Mo_deliver_39 : decode b_Mo_deliver 39 = .ok (.iaload, 1) := by decide +kernel
theorem d_Mo_deliver_40 : decode b_Mo_deliver 40 = .ok (.istore 5, 2) := by decide +kernel
theorem d_Mo_deliver_42 : decode b_Mo_deliver 42 = .ok (.aload_n 0, 1) := by decide +kernel
theorem d_Mo_deliver_43 : decode b_Mo_deliver 43 = .ok (.getfield 26, 3) := by decide +kernel
theorem d_Mo_deliver_46 : decode b_Mo_deliver 46 = .ok (.iload_n 1, 1) := by decide +kernel
theorem d_Mo_deliver_47 : decode b_Mo_deliver 47 = .ok (.iaload, 1) := by decide +kernel
theorem d_Mo_deliver_48 : decode b_Mo_deliver 48 = .ok (.istore 6, 2) := by decide +kernel
theorem d_Mo_deliver_50 : decode b_Mo_deliver 50 = .ok (.aload_n 0, 1) := by decide +kernel
theorem d_Mo_deliver_51 : decode b_Mo_deliver 51 = .ok (.getfield 29, 3) := by decide +kernel
theorem d_Mo_deliver_54 : decode b_Mo_deliver 54 = .ok (.iload_n 1, 1) := by decide +kernel
theorem d_Mo_deliver_55 : decode b_Mo_deliver 55 = .ok (.iaload, 1) := by decide +kernel
theorem d_Mo_deliver_56 : decode b_Mo_deliver 56 = .ok (.istore 7, 2) := by decide +kernel
theorem d_Mo_deliver_58 : decode b_Mo_deliver 58 = .ok (.aload_n 0, 1) := by decide +kernel
theorem d_Mo_deliver_59 : decode b_Mo_deliver 59 = .ok (.getfield 32, 3) := by decide +kernel
theorem d_Mo_deliver_62 : decode b_Mo_deliver 62 = .ok (.iload_n 1, 1) := by decide +kernel
theorem d_Mo_deliver_63 : decode b_Mo_deliver 63 = .ok (.iaload, 1) := by decide +kernel
theorem d_Mo_deliver_64 : decode b_Mo_deliver 64 = .ok (.istore 8, 2) := by decide +kernel
theorem d_Mo_deliver_66 : decode b_Mo_deliver 66 = .ok (.iload_n 2, 1) := by decide +kernel
theorem d_Mo_deliver_67 : decode b_Mo_deliver 67 = .ok (.ifCond .eq (16), 3) := by decide +kernel
theorem d_Mo_deliver_70 : decode b_Mo_deliver 70 = .ok (.iload_n 3, 1) := by decide +kernel
theorem d_Mo_deliver_71 : decode b_Mo_deliver 71 = .ok (.ifCond .gt (12), 3) := by decide +kernel
theorem d_Mo_deliver_74 : decode b_Mo_deliver 74 = .ok (.aload_n 0, 1) := by decide +kernel
theorem d_Mo_deliver_75 : decode b_Mo_deliver 75 = .ok (.getfield 41, 3) := by decide +kernel
theorem d_Mo_deliver_78 : decode b_Mo_deliver 78 = .ok (.iconst (1), 1) := by decide +kernel
theorem d_Mo_deliver_79 : decode b_Mo_deliver 79 = .ok (.iaload, 1) := by decide +kernel
theorem d_Mo_deliver_80 : decode b_Mo_deliver 80 = .ok (.ifCond .le (7), 3) := by decide +kernel
theorem d_Mo_deliver_83 : decode b_Mo_deliver 83 = .ok (.iconst (1), 1) := by decide +kernel
