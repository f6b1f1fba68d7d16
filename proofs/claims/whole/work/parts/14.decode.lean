theorem d_Mo_put_122 : decode b_Mo_put 122 = .ok (.aload_n 0, 1) := by decide +kernel
theorem d_Mo_put_123 : decode b_Mo_put 123 = .ok (.getfield 153, 3) := by decide +kernel
theorem d_Mo_put_126 : decode b_Mo_put 126 = .ok (.iconst (1), 1) := by decide +kernel
theorem d_Mo_put_127 : decode b_Mo_put 127 = .ok (.isub, 1) := by decide +kernel
theorem d_Mo_put_128 : decode b_Mo_put 128 = .ok (.ireturn, 1) := by decide +kernel
theorem d_Mo_sendPiece_0 : decode b_Mo_sendPiece 0 = .ok (.aload_n 0, 1) := by decide +kernel
theorem d_Mo_sendPiece_1 : decode b_Mo_sendPiece 1 = .ok (.getfield 71, 3) := by decide +kernel
theorem d_Mo_sendPiece_4 : decode b_Mo_sendPiece 4 = .ok (.bipush (12), 2) := by decide +kernel
theorem d_Mo_sendPiece_6 : decode b_Mo_sendPiece 6 = .ok (.iload_n 1, 1) := by decide +kernel
theorem d_Mo_sendPiece_7 : decode b_Mo_sendPiece 7 = .ok (.imul, 1) := by decide +kernel
theorem d_Mo_sendPiece_8 : decode b_Mo_sendPiece 8 = .ok (.iload_n 2, 1) := by decide +kernel
theorem d_Mo_sendPiece_9 : decode b_Mo_sendPiece 9 = .ok (.iadd, 1) := by decide +kernel
theorem d_Mo_sendPiece_10 : decode b_Mo_sendPiece 10 = .ok (.iaload, 1) := by decide +kernel
theorem d_Mo_sendPiece_11 : decode b_Mo_sendPiece 11 = .ok (.istore_n 3, 1) := by decide +kernel
theorem d_Mo_sendPiece_12 : decode b_Mo_sendPiece 12 = .ok (.iload_n 3, 1) := by decide +kernel
theorem d_Mo_sendPiece_13 : decode b_Mo_sendPiece 13 = .ok (.iconst (4), 1) := by decide +kernel
theorem d_Mo_sendPiece_14 : decode b_Mo_sendPiece 14 = .ok (.if_icmp .ge (7), 3) := by decide +kernel
theorem d_Mo_sendPiece_17 : decode b_Mo_sendPiece 17 = .ok (.iconst (0), 1) := by decide +kernel
theorem d_Mo_sendPiece_18 : decode b_Mo_sendPiece 18 = .ok (.goto (4), 3) := by decide +kernel
theorem d_Mo_sendPiece_21 : decode b_Mo_sendPiece 21 = .ok (.iconst (2), 1) := by decide +kernel
theorem d_Mo_sendPiece_22 : decode b_Mo_sendPiece 22 = .ok (.istore 4, 2) := by decide +kernel
theorem d_Mo_sendPiece_24 : decode b_Mo_sendPiece 24 = .ok (.aload_n 0, 1) := by decide +kernel
theorem d_Mo_sendPiece_25 : decode b_Mo_sendPiece 25 = .ok (.getfield 47, 3) := by decide +kernel
theorem d_Mo_sendPiece_28 : decode b_Mo_sendPiece 28 = .ok (.iconst (4), 1) := by decide +kernel
theorem d_Mo_sendPiece_29 : decode b_Mo_sendPiece 29 = .ok (.iload_n 1, 1) := by decide +kernel
theorem d_Mo_sendPiece_30 : decode b_Mo_sendPiece 30 = .ok (.imul, 1) := by decide +kernel
theorem d_Mo_sendPiece_31 : decode b_Mo_sendPiece 31 = .ok (.iload 4, 2) := by decide +kernel
theorem d_Mo_sendPiece_33 : decode b_Mo_sendPiece 33 = .ok (.iadd, 1) := by decide +kernel
theorem d_Mo_sendPiece_34 : decode b_Mo_sendPiece 34 = .ok (.iaload, 1) := by decide +kernel
theorem d_Mo_sendPiece_35 : decode b_Mo_sendPiece 35 = .ok (.istore 5, 2) := by decide +kernel
theorem d_Mo_sendPiece_37 : decode b_Mo_sendPiece 37 = .ok (.aload_n 0, 1) := by decide +kernel
theorem d_Mo_sendPiece_38 : decode b_Mo_sendPiece 38 = .ok (.getfield 47, 3) := by decide +kernel
theorem d_Mo_sendPiece_41 : decode b_Mo_sendPiece 41 = .ok (.iconst (4), 1) := by decide +kernel
theorem d_Mo_sendPiece_42 : decode b_Mo_sendPiece 42 = .ok (.iload_n 1, 1) := by decide +kernel
theorem d_Mo_sendPiece_43 : decode b_Mo_sendPiece 43 = .ok (.imul, 1) := by decide +kernel
theorem d_Mo_sendPiece_44 : decode b_Mo_sendPiece 44 = .ok (.iload 4, 2) := by decide +kernel
theorem d_Mo_sendPiece_46 : decode b_Mo_sendPiece 46 = .ok (.iadd, 1) := by decide +kernel
theorem d_Mo_sendPiece_47 : decode b_Mo_sendPiece 47 = .ok (.dup2, 1) := by decide +kernel
theorem d_Mo_sendPiece_48 : decode b_Mo_sendPiece 48 = .ok (.iaload, 1) := by decide +kernel
theorem d_Mo_sendPiece_49 : decode b_Mo_sendPiece 49 = .ok (.iconst (1), 1) := by decide +kernel
theorem d_Mo_sendPiece_50 : decode b_Mo_sendPiece 50 = .ok (.iadd, 1) := by decide +kernel
theorem d_Mo_sendPiece_51 : decode b_Mo_sendPiece 51 = .ok (.iastore, 1) := by decide +kernel
theorem d_Mo_sendPiece_52 : decode b_Mo_sendPiece 52 = .ok (.bipush (80), 2) := by decide +kernel
theorem d_Mo_sendPiece_54 : decode b_Mo_sendPiece 54 = .ok (.iload_n 1, 1) := by decide +kernel
theorem d_Mo_sendPiece_55 : decode b_Mo_sendPiece 55 = .ok (.imul, 1) := by decide +kernel
theorem d_Mo_sendPiece_56 : decode b_Mo_sendPiece 56 = .ok (.aload_n 0, 1) := by decide +kernel
theorem d_Mo_sendPiece_57 : decode b_Mo_sendPiece 57 = .ok (.getfield 80, 3) := by decide +kernel
theorem d_Mo_sendPiece_60 : decode b_Mo_sendPiece 60 = .ok (.iload_n 1, 1) := by decide +kernel
theorem d_Mo_sendPiece_61 : decode b_Mo_sendPiece 61 = .ok (.iaload, 1) := by decide +kernel
theorem d_Mo_sendPiece_62 : decode b_Mo_sendPiece 62 = .ok (.iadd, 1) := by decide +kernel
theorem d_Mo_sendPiece_63 : decode b_Mo_sendPiece 63 = .ok (.istore 6, 2) := by decide +kernel
theorem d_Mo_sendPiece_65 : decode b_Mo_sendPiece 65 = .ok (.aload_n 0, 1) := by decide +kernel
theorem d_Mo_sendPiece_66 : decode b_Mo_sendPiece 66 = .ok (.getfield 83, 3) := by decide +kernel
theorem d_Mo_sendPiece_69 : decode b_Mo_sendPiece 69 = .ok (.iload 6, 2) := by decide +kernel
theorem d_Mo_sendPiece_71 : decode b_Mo_sendPiece 71 = .ok (.iload 4, 2) := by decide +kernel
theorem d_Mo_sendPiece_73 : decode b_Mo_sendPiece 73 = .ok (.iastore, 1) := by decide +kernel
theorem d_Mo_sendPiece_74 : decode b_Mo_sendPiece 74 = .ok (.aload_n 0, 1) := by decide +kernel
theorem d_Mo_sendPiece_75 : decode b_Mo_sendPiece 75 = .ok (.getfield 86, 3) := by decide +kernel
theorem d_Mo_sendPiece_78 : decode b_Mo_sendPiece 78 = .ok (.iload 6, 2) := by decide +kernel
theorem d_Mo_sendPiece_80 : decode b_Mo_sendPiece 80 = .ok (.iload 5, 2) := by decide +kernel
theorem d_Mo_sendPiece_82 : decode b_Mo_sendPiece 82 = .ok (.iastore, 1) := by decide +kernel
theorem d_Mo_sendPiece_83 : decode b_Mo_sendPiece 83 = .ok (.aload_n 0, 1) := by decide +kernel
theorem d_Mo_sendPiece_84 : decode b_Mo_sendPiece 84 = .ok (.getfield 89, 3) := by decide +kernel
theorem d_Mo_sendPiece_87 : decode b_Mo_sendPiece 87 = .ok (.iload 6, 2) := by decide +kernel
theorem d_Mo_sendPiece_89 : decode b_Mo_sendPiece 89 = .ok (.iload_n 2, 1) := by decide +kernel
theorem d_Mo_sendPiece_90 : decode b_Mo_sendPiece 90 = .ok (.iastore, 1) := by decide +kernel
theorem d_Mo_sendPiece_91 : decode b_Mo_sendPiece 91 = .ok (.aload_n 0, 1) := by decide +kernel
theorem d_Mo_sendPiece_92 : decode b_Mo_sendPiece 92 = .ok (.getfield 80, 3) := by decide +kernel
theorem d_Mo_sendPiece_95 : decode b_Mo_sendPiece 95 = .ok (.iload_n 1, 1) := by decide +kernel
theorem d_Mo_sendPiece_96 : decode b_Mo_sendPiece 96 = .ok (.dup2, 1) := by decide +kernel
theorem d_Mo_sendPiece_97 : decode b_Mo_sendPiece 97 = .ok (.iaload, 1) := by decide +kernel
theorem d_Mo_sendPiece_98 : decode b_Mo_sendPiece 98 = .ok (.iconst (1), 1) := by decide +kernel
theorem d_Mo_sendPiece_99 : decode b_Mo_sendPiece 99 = .ok (.iadd, 1) := by decide +kernel
theorem d_Mo_sendPiece_100 : decode b_Mo_sendPiece 100 = .ok (.iastore, 1) := by decide +kernel
theorem d_Mo_sendPiece_101 : decode b_Mo_sendPiece 101 = .ok (.aload_n 0, 1) := by decide +kernel
theorem d_Mo_sendPiece_102 : decode b_Mo_sendPiece 102 = .ok (.iload_n 1, 1) := by decide +kernel
theorem d_Mo_sendPiece_103 : decode b_Mo_sendPiece 103 = .ok (.iconst (0), 1) := by decide +kernel
theorem d_Mo_sendPiece_104 : decode b_Mo_sendPiece 104 = .ok (.iload 4, 2) := by decide +kernel
theorem d_Mo_sendPiece_106 : decode b_Mo_sendPiece 106 = .ok (.iload 5, 2) := by decide +kernel
theorem d_Mo_sendPiece_108 : decode b_Mo_sendPiece 108 = .ok (.invokevirtual 167, 3) := by decide +kernel
theorem d_Mo_sendPiece_111 : decode b_Mo_sendPiece 111 = .ok (.istore 7, 2) := by decide +kernel
theorem d_Mo_sendPiece_113 : decode b_Mo_sendPiece 113 = .ok (.iload 7, 2) := by decide +kernel
theorem d_Mo_sendPiece_115 : decode b_Mo_sendPiece 115 = .ok (.ifCond .ge (4), 3) := by decide +kernel
theorem d_Mo_sendPiece_118 : decode b_Mo_sendPiece 118 = .ok (.return_, 1) := by decide +kernel
theorem d_Mo_sendPiece_119 : decode b_Mo_sendPiece 119 = .ok (.aload_n 0, 1) := by decide +kernel
theorem d_Mo_sendPiece_120 : decode b_Mo_sendPiece 120 = .ok (.iload_n 3, 1) := by decide +kernel
theorem d_Mo_sendPiece_121 : decode b_Mo_sendPiece 121 = .ok (.invokevirtual 144, 3) := by decide +kernel
theorem d_Mo_sendPiece_124 : decode b_Mo_sendPiece 124 = .ok (.aload_n 0, 1) := by decide +kernel
theorem d_Mo_sendPiece_125 : decode b_Mo_sendPiece 125 = .ok (.getfield 74, 3) := by decide +kernel
theorem d_Mo_sendPiece_128 : decode b_Mo_sendPiece 128 = .ok (.bipush (12), 2) := by decide +kernel
theorem d_Mo_sendPiece_130 : decode b_Mo_sendPiece 130 = .ok (.iload_n 1, 1) := by decide +kernel
theorem d_Mo_sendPiece_131 : decode b_Mo_sendPiece 131 = .ok (.imul, 1) := by decide +kernel
theorem d_Mo_sendPiece_132 : decode b_Mo_sendPiece 132 = .ok (.iload_n 2, 1) := by decide +kernel
theorem d_Mo_sendPiece_133 : decode b_Mo_sendPiece 133 = .ok (.iadd, 1) := by decide +kernel
theorem d_Mo_sendPiece_134 : decode b_Mo_sendPiece 134 = .ok (.iaload, 1) := by decide +kernel
theorem d_Mo_sendPiece_135 : decode b_Mo_sendPiece 135 = .ok (.isub, 1) := by decide +kernel
theorem d_Mo_sendPiece_136 : decode b_Mo_sendPiece 136 = .ok (.istore 8, 2) := by decide +kernel
theorem d_Mo_sendPiece_138 : decode b_Mo_sendPiece 138 = .ok (.aload_n 0, 1) := by decide +kernel
theorem d_Mo_sendPiece_139 : decode b_Mo_sendPiece 139 = .ok (.getfield 26, 3) := by decide +kernel
theorem d_Mo_sendPiece_142 : decode b_Mo_sendPiece 142 = .ok (.iload 7, 2) := by decide +kernel
theorem d_Mo_sendPiece_144 : decode b_Mo_sendPiece 144 = .ok (.iload_n 3, 1) := by decide +kernel
theorem d_Mo_sendPiece_145 : decode b_Mo_sendPiece 145 = .ok (.iastore, 1) := by decide +kernel
theorem d_Mo_sendPiece_146 : decode b_Mo_sendPiece 146 = .ok (.aload_n 0, 1) := by decide +kernel
theorem d_Mo_sendPiece_147 : decode b_Mo_sendPiece 147 = .ok (.getfield 29, 3) := by decide +kernel
theorem d_Mo_sendPiece_150 : decode b_Mo_sendPiece 150 = .ok (.iload 7, 2) := by decide +kernel
theorem d_Mo_sendPiece_152 : decode b_Mo_sendPiece 152 = .ok (.aload_n 0, 1) := by decide +kernel
theorem d_Mo_sendPiece_153 : decode b_Mo_sendPiece 153 = .ok (.getfield 74, 3) := by decide +kernel
theorem d_Mo_sendPiece_156 : decode b_Mo_sendPiece 156 = .ok (.bipush (12), 2) := by decide +kernel
theorem d_Mo_sendPiece_158 : decode b_Mo_sendPiece 158 = .ok (.iload_n 1, 1) := by decide +kernel
theorem d_Mo_sendPiece_159 : decode b_Mo_sendPiece 159 = .ok (.imul, 1) := by decide +kernel
theorem d_Mo_sendPiece_160 : decode b_Mo_sendPiece 160 = .ok (.iload_n 2, 1) := by decide +kernel
theorem d_Mo_sendPiece_161 : decode b_Mo_sendPiece 161 = .ok (.iadd, 1) := by decide +kernel
theorem d_Mo_sendPiece_162 : decode b_Mo_sendPiece 162 = .ok (.iaload, 1) := by decide +kernel
theorem d_Mo_sendPiece_163 : decode b_Mo_sendPiece 163 = .ok (.iastore, 1) := by decide +kernel
theorem d_Mo_sendPiece_164 : decode b_Mo_sendPiece 164 = .ok (.aload_n 0, 1) := by decide +kernel
theorem d_Mo_sendPiece_165 : decode b_Mo_sendPiece 165 = .ok (.getfield 32, 3) := by decide +kernel
theorem d_Mo_sendPiece_168 : decode b_Mo_sendPiece 168 = .ok (.iload 7, 2) := by decide +kernel
theorem d_Mo_sendPiece_170 : decode b_Mo_sendPiece 170 = .ok (.iload 8, 2) := by decide +kernel
theorem d_Mo_sendPiece_172 : decode b_Mo_sendPiece 172 = .ok (.aload_n 0, 1) := by decide +kernel
theorem d_Mo_sendPiece_173 : decode b_Mo_sendPiece 173 = .ok (.getfield 110, 3) := by decide +kernel
theorem d_Mo_sendPiece_176 : decode b_Mo_sendPiece 176 = .ok (.if_icmp .ge (8), 3) := by decide +kernel
theorem d_Mo_sendPiece_179 : decode b_Mo_sendPiece 179 = .ok (.iload 8, 2) := by decide +kernel
theorem d_Mo_sendPiece_181 : decode b_Mo_sendPiece 181 = .ok (.goto (7), 3) := by decide +kernel
theorem d_Mo_sendPiece_184 : decode b_Mo_sendPiece 184 = .ok (.aload_n 0, 1) := by decide +kernel
theorem d_Mo_sendPiece_185 : decode b_Mo_sendPiece 185 = .ok (.getfield 110, 3) := by decide +kernel
theorem d_Mo_sendPiece_188 : decode b_Mo_sendPiece 188 = .ok (.iastore, 1) := by decide +kernel
theorem d_Mo_sendPiece_189 : decode b_Mo_sendPiece 189 = .ok (.return_, 1) := by decide +kernel
theorem d_Mo_fly_0 : decode b_Mo_fly 0 = .ok (.aload_n 0, 1) := by decide +kernel
theorem d_Mo_fly_1 : decode b_Mo_fly 1 = .ok (.getfield 68, 3) := by decide +kernel
theorem d_Mo_fly_4 : decode b_Mo_fly 4 = .ok (.iload_n 1, 1) := by decide +kernel
theorem d_Mo_fly_5 : decode b_Mo_fly 5 = .ok (.iconst (0), 1) := by decide +kernel
theorem d_Mo_fly_6 : decode b_Mo_fly 6 = .ok (.iastore, 1) := by decide +kernel
theorem d_Mo_fly_7 : decode b_Mo_fly 7 = .ok (.aload_n 0, 1) := by decide +kernel
theorem d_Mo_fly_8 : decode b_Mo_fly 8 = .ok (.getfield 80, 3) := by decide +kernel
theorem d_Mo_fly_11 : decode b_Mo_fly 11 = .ok (.iload_n 1, 1) := by decide +kernel
theorem d_Mo_fly_12 : decode b_Mo_fly 12 = .ok (.iconst (0), 1) := by decide +kernel
theorem d_Mo_fly_13 : decode b_Mo_fly 13 = .ok (.iastore, 1) := by decide +kernel
theorem d_Mo_fly_14 : decode b_Mo_fly 14 = .ok (.iload_n 2, 1) := by decide +kernel
theorem d_Mo_fly_15 : decode b_Mo_fly 15 = .ok (.istore 4, 2) := by decide +kernel
theorem d_Mo_fly_17 : decode b_Mo_fly 17 = .ok (.iload 4, 2) := by decide +kernel
theorem d_Mo_fly_19 : decode b_Mo_fly 19 = .ok (.iload_n 3, 1) := by decide +kernel
theorem d_Mo_fly_20 : decode b_Mo_fly 20 = .ok (.if_icmp .gt (98), 3) := by decide +kernel
theorem d_Mo_fly_23 : decode b_Mo_fly 23 = .ok (.iconst (0), 1) := by decide +kernel
theorem d_Mo_fly_24 : decode b_Mo_fly 24 = .ok (.istore 5, 2) := by decide +kernel
theorem d_Mo_fly_26 : decode b_Mo_fly 26 = .ok (.iload 5, 2) := by decide +kernel
theorem d_Mo_fly_28 : decode b_Mo_fly 28 = .ok (.aload_n 0, 1) := by decide +kernel
theorem d_Mo_fly_29 : decode b_Mo_fly 29 = .ok (.iload 4, 2) := by decide +kernel
theorem d_Mo_fly_31 : decode b_Mo_fly 31 = .ok (.invokevirtual 144, 3) := by decide +kernel
theorem d_Mo_fly_34 : decode b_Mo_fly 34 = .ok (.if_icmp .ge (78), 3) := by decide +kernel
theorem d_Mo_fly_37 : decode b_Mo_fly 37 = .ok (.aload_n 0, 1) := by decide +kernel
theorem d_Mo_fly_38 : decode b_Mo_fly 38 = .ok (.getfield 71, 3) := by decide +kernel
theorem d_Mo_fly_41 : decode b_Mo_fly 41 = .ok (.bipush (12), 2) := by decide +kernel
theorem d_Mo_fly_43 : decode b_Mo_fly 43 = .ok (.iload_n 1, 1) := by decide +kernel
theorem d_Mo_fly_44 : decode b_Mo_fly 44 = .ok (.imul, 1) := by decide +kernel
theorem d_Mo_fly_45 : decode b_Mo_fly 45 = .ok (.aload_n 0, 1) := by decide +kernel
theorem d_Mo_fly_46 : decode b_Mo_fly 46 = .ok (.getfield 68, 3) := by decide +kernel
theorem d_Mo_fly_49 : decode b_Mo_fly 49 = .ok (.iload_n 1, 1) := by decide +kernel
theorem d_Mo_fly_50 : decode b_Mo_fly 50 = .ok (.iaload, 1) := by decide +kernel
theorem d_Mo_fly_51 : decode b_Mo_fly 51 = .ok (.iadd, 1) := by decide +kernel
theorem d_Mo_fly_52 : decode b_Mo_fly 52 = .ok (.iload 4, 2) := by decide +kernel
theorem d_Mo_fly_54 : decode b_Mo_fly 54 = .ok (.iastore, 1) := by decide +kernel
theorem d_Mo_fly_55 : decode b_Mo_fly 55 = .ok (.aload_n 0, 1) := by decide +kernel
theorem d_Mo_fly_56 : decode b_Mo_fly 56 = .ok (.getfield 74, 3) := by decide +kernel
theorem d_Mo_fly_59 : decode b_Mo_fly 59 = .ok (.bipush (12), 2) := by decide +kernel
theorem d_Mo_fly_61 : decode b_Mo_fly 61 = .ok (.iload_n 1, 1) := by decide +kernel
theorem d_Mo_fly_62 : decode b_Mo_fly 62 = .ok (.imul, 1) := by decide +kernel
theorem d_Mo_fly_63 : decode b_Mo_fly 63 = .ok (.aload_n 0, 1) := by decide +kernel
theorem d_Mo_fly_64 : decode b_Mo_fly 64 = .ok (.getfield 68, 3) := by decide +kernel
theorem d_Mo_fly_67 : decode b_Mo_fly 67 = .ok (.iload_n 1, 1) := by decide +kernel
theorem d_Mo_fly_68 : decode b_Mo_fly 68 = .ok (.iaload, 1) := by decide +kernel
theorem d_Mo_fly_69 : decode b_Mo_fly 69 = .ok (.iadd, 1) := by decide +kernel
theorem d_Mo_fly_70 : decode b_Mo_fly 70 = .ok (.iload 5, 2) := by decide +kernel
theorem d_Mo_fly_72 : decode b_Mo_fly 72 = .ok (.iastore, 1) := by decide +kernel
theorem d_Mo_fly_73 : decode b_Mo_fly 73 = .ok (.aload_n 0, 1) := by decide +kernel
theorem d_Mo_fly_74 : decode b_Mo_fly 74 = .ok (.getfield 77, 3) := by decide +kernel
theorem d_Mo_fly_77 : decode b_Mo_fly 77 = .ok (.bipush (12), 2) := by decide +kernel
theorem d_Mo_fly_79 : decode b_Mo_fly 79 = .ok (.iload_n 1, 1) := by decide +kernel
theorem d_Mo_fly_80 : decode b_Mo_fly 80 = .ok (.imul, 1) := by decide +kernel
theorem d_Mo_fly_81 : decode b_Mo_fly 81 = .ok (.aload_n 0, 1) := by decide +kernel
theorem d_Mo_fly_82 : decode b_Mo_fly 82 = .ok (.getfield 68, 3) := by decide +kernel
theorem d_Mo_fly_85 : decode b_Mo_fly 85 = .ok (.iload_n 1, 1) := by decide +kernel
theorem d_Mo_fly_86 : decode b_Mo_fly 86 = .ok (.iaload, 1) := by decide +kernel
theorem d_Mo_fly_87 : decode b_Mo_fly 87 = .ok (.iadd, 1) := by decide +kernel
theorem d_Mo_fly_88 : decode b_Mo_fly 88 = .ok (.iconst (1), 1) := by decide +kernel
theorem d_Mo_fly_89 : decode b_Mo_fly 89 = .ok (.bastore, 1) := by decide +kernel
theorem d_Mo_fly_90 : decode b_Mo_fly 90 = .ok (.aload_n 0, 1) := by decide +kernel
theorem d_Mo_fly_91 : decode b_Mo_fly 91 = .ok (.getfield 68, 3) := by decide +kernel
theorem d_Mo_fly_94 : decode b_Mo_fly 94 = .ok (.iload_n 1, 1) := by decide +kernel
theorem d_Mo_fly_95 : decode b_Mo_fly 95 = .ok (.dup2, 1) := by decide +kernel
theorem d_Mo_fly_96 : decode b_Mo_fly 96 = .ok (.iaload, 1) := by decide +kernel
theorem d_Mo_fly_97 : decode b_Mo_fly 97 = .ok (.iconst (1), 1) := by decide +kernel
theorem d_Mo_fly_98 : decode b_Mo_fly 98 = .ok (.iadd, 1) := by decide +kernel
theorem d_Mo_fly_99 : decode b_Mo_fly 99 = .ok (.iastore, 1) := by decide +kernel
theorem d_Mo_fly_100 : decode b_Mo_fly 100 = .ok (.iload 5, 2) := by decide +kernel
theorem d_Mo_fly_102 : decode b_Mo_fly 102 = .ok (.aload_n 0, 1) := by decide +kernel
theorem d_Mo_fly_103 : decode b_Mo_fly 103 = .ok (.getfield 110, 3) := by decide +kernel
theorem d_Mo_fly_106 : decode b_Mo_fly 106 = .ok (.iadd, 1) := by decide +kernel
theorem d_Mo_fly_107 : decode b_Mo_fly 107 = .ok (.istore 5, 2) := by decide +kernel
theorem d_Mo_fly_109 : decode b_Mo_fly 109 = .ok (.goto (-83), 3) := by decide +kernel
theorem d_Mo_fly_112 : decode b_Mo_fly 112 = .ok (.iinc 4 (1), 3) := by decide +kernel
theorem d_Mo_fly_115 : decode b_Mo_fly 115 = .ok (.goto (-98), 3) := by decide +kernel
theorem d_Mo_fly_118 : decode b_Mo_fly 118 = .ok (.iconst (0), 1) := by decide +kernel
theorem d_Mo_fly_119 : decode b_Mo_fly 119 = .ok (.istore 4, 2) := by decide +kernel
theorem d_Mo_fly_121 : decode b_Mo_fly 121 = .ok (.iload 4, 2) := by decide +kernel
theorem d_Mo_fly_123 : decode b_Mo_fly 123 = .ok (.aload_n 0, 1) := by decide +kernel
theorem d_Mo_fly_124 : decode b_Mo_fly 124 = .ok (.getfield 68, 3) := by decide +kernel
theorem d_Mo_fly_127 : decode b_Mo_fly 127 = .ok (.iload_n 1, 1) := by decide +kernel
theorem d_Mo_fly_128 : decode b_Mo_fly 128 = .ok (.iaload, 1) := by decide +kernel
theorem d_Mo_fly_129 : decode b_Mo_fly 129 = .ok (.if_icmp .ge (16), 3) := by decide +kernel
theorem d_Mo_fly_132 : decode b_Mo_fly 132 = .ok (.aload_n 0, 1) := by decide +kernel
theorem d_Mo_fly_133 : decode b_Mo_fly 133 = .ok (.iload_n 1, 1) := by decide +kernel
theorem d_Mo_fly_134 : decode b_Mo_fly 134 = .ok (.iload 4, 2) := by decide +kernel
theorem d_Mo_fly_136 : decode b_Mo_fly 136 = .ok (.invokevirtual 171, 3) := by decide +kernel
theorem d_Mo_fly_139 : decode b_Mo_fly 139 = .ok (.iinc 4 (1), 3) := by decide +kernel
theorem d_Mo_fly_142 : decode b_Mo_fly 142 = .ok (.goto (-21), 3) := by decide +kernel
theorem d_Mo_fly_145 : decode b_Mo_fly 145 = .ok (.aload_n 0, 1) := by decide +kernel
theorem d_Mo_fly_146 : decode b_Mo_fly 146 = .ok (.getfield 92, 3) := by decide +kernel
theorem d_Mo_fly_149 : decode b_Mo_fly 149 = .ok (.iload_n 1, 1) := by decide +kernel
theorem d_Mo_fly_150 : decode b_Mo_fly 150 = .ok (.iconst (4), 1) := by decide +kernel
theorem d_Mo_fly_151 : decode b_Mo_fly 151 = .ok (.iastore, 1) := by decide +kernel
theorem d_Mo_fly_152 : decode b_Mo_fly 152 = .ok (.aload_n 0, 1) := by decide +kernel
theorem d_Mo_fly_153 : decode b_Mo_fly 153 = .ok (.getfield 95, 3) := by decide +kernel
theorem d_Mo_fly_156 : decode b_Mo_fly 156 = .ok (.iload_n 1, 1) := by decide +kernel
theorem d_Mo_fly_157 : decode b_Mo_fly 157 = .ok (.aload_n 0, 1) := by decide +kernel
theorem d_Mo_fly_158 : decode b_Mo_fly 158 = .ok (.getfield 174, 3) := by decide +kernel
theorem d_Mo_fly_161 : decode b_Mo_fly 161 = .ok (.iconst (4), 1) := by decide +kernel
theorem d_Mo_fly_162 : decode b_Mo_fly 162 = .ok (.iadd, 1) := by decide +kernel
theorem d_Mo_fly_163 : decode b_Mo_fly 163 = .ok (.iastore, 1) := by decide +kernel
theorem d_Mo_fly_164 : decode b_Mo_fly 164 = .ok (.aload_n 0, 1) := by decide +kernel
theorem d_Mo_fly_165 : decode b_Mo_fly 165 = .ok (.getfield 98, 3) := by decide +kernel
theorem d_Mo_fly_168 : decode b_Mo_fly 168 = .ok (.iload_n 1, 1) := by decide +kernel
theorem d_Mo_fly_169 : decode b_Mo_fly 169 = .ok (.iconst (0), 1) := by decide +kernel
theorem d_Mo_fly_170 : decode b_Mo_fly 170 = .ok (.iastore, 1) := by decide +kernel
theorem d_Mo_fly_171 : decode b_Mo_fly 171 = .ok (.return_, 1) := by decide +kernel
theorem d_Mo_start_0 : decode b_Mo_start 0 = .ok (.aload_n 0, 1) := by decide +kernel
theorem d_Mo_start_1 : decode b_Mo_start 1 = .ok (.getfield 41, 3) := by decide +kernel
theorem d_Mo_start_4 : decode b_Mo_start 4 = .ok (.iconst (0), 1) := by decide +kernel
theorem d_Mo_start_5 : decode b_Mo_start 5 = .ok (.iaload, 1) := by decide +kernel
theorem d_Mo_start_6 : decode b_Mo_start 6 = .ok (.ifCond .eq (5), 3) := by decide +kernel
theorem d_Mo_start_9 : decode b_Mo_start 9 = .ok (.iconst (0), 1) := by decide +kernel
theorem d_Mo_start_10 : decode b_Mo_start 10 = .ok (.ireturn, 1) := by decide +kernel
theorem d_Mo_start_11 : decode b_Mo_start 11 = .ok (.aload_n 0, 1) := by decide +kernel
theorem d_Mo_start_12 : decode b_Mo_start 12 = .ok (.getfield 44, 3) := by decide +kernel
theorem d_Mo_start_15 : decode b_Mo_start 15 = .ok (.iconst (0), 1) := by decide +kernel
theorem d_Mo_start_16 : decode b_Mo_start 16 = .ok (.iconst (1), 1) := by decide +kernel
theorem d_Mo_start_17 : decode b_Mo_start 17 = .ok (.iastore, 1) := by decide +kernel
theorem d_Mo_start_18 : decode b_Mo_start 18 = .ok (.aload_n 0, 1) := by decide +kernel
theorem d_Mo_start_19 : decode b_Mo_start 19 = .ok (.iconst (0), 1) := by decide +kernel
theorem d_Mo_start_20 : decode b_Mo_start 20 = .ok (.iconst (1), 1) := by decide +kernel
theorem d_Mo_start_21 : decode b_Mo_start 21 = .ok (.invokevirtual 181, 3) := by decide +kernel
theorem d_Mo_start_24 : decode b_Mo_start 24 = .ok (.aload_n 0, 1) := by decide +kernel
theorem d_Mo_start_25 : decode b_Mo_start 25 = .ok (.iconst (0), 1) := by decide +kernel
theorem d_Mo_start_26 : decode b_Mo_start 26 = .ok (.iconst (0), 1) := by decide +kernel
theorem d_Mo_start_27 : decode b_Mo_start 27 = .ok (.iconst (0), 1) := by decide +kernel
theorem d_Mo_start_28 : decode b_Mo_start 28 = .ok (.invokevirtual 184, 3) := by decide +kernel
theorem d_Mo_start_31 : decode b_Mo_start 31 = .ok (.iconst (1), 1) := by decide +kernel
theorem d_Mo_start_32 : decode b_Mo_start 32 = .ok (.ireturn, 1) := by decide +kernel
theorem d_Mo_writes_0 : decode b_Mo_writes 0 = .ok (.aload_n 0, 1) := by decide +kernel
theorem d_Mo_writes_1 : decode b_Mo_writes 1 = .ok (.getfield 44, 3) := by decide +kernel
theorem d_Mo_writes_4 : decode b_Mo_writes 4 = .ok (.iload_n 1, 1) := by decide +kernel
theorem d_Mo_writes_5 : decode b_Mo_writes 5 = .ok (.iaload, 1) := by decide +kernel
theorem d_Mo_writes_6 : decode b_Mo_writes 6 = .ok (.istore_n 3, 1) := by decide +kernel
theorem d_Mo_writes_7 : decode b_Mo_writes 7 = .ok (.iload_n 2, 1) := by decide +kernel
theorem d_Mo_writes_8 : decode b_Mo_writes 8 = .ok (.ifCond .eq (31), 3) := by decide +kernel
theorem d_Mo_writes_11 : decode b_Mo_writes 11 = .ok (.iload_n 2, 1) := by decide +kernel
theorem d_Mo_writes_12 : decode b_Mo_writes 12 = .ok (.iconst (2), 1) := by decide +kernel
theorem d_Mo_writes_13 : decode b_Mo_writes 13 = .ok (.if_icmp .ne (20), 3) := by decide +kernel
theorem d_Mo_writes_16 : decode b_Mo_writes 16 = .ok (.iload_n 3, 1) := by decide +kernel
theorem d_Mo_writes_17 : decode b_Mo_writes 17 = .ok (.iload_n 1, 1) := by decide +kernel
theorem d_Mo_writes_18 : decode b_Mo_writes 18 = .ok (.ifCond .ne (7), 3) := by decide +kernel
theorem d_Mo_writes_21 : decode b_Mo_writes 21 = .ok (.iconst (4), 1) := by decide +kernel
theorem d_Mo_writes_22 : decode b_Mo_writes 22 = .ok (.goto (5), 3) := by decide +kernel
theorem d_Mo_writes_25 : decode b_Mo_writes 25 = .ok (.bipush (7), 2) := by decide +kernel
theorem d_Mo_writes_27 : decode b_Mo_writes 27 = .ok (.if_icmp .lt (16), 3) := by decide +kernel
theorem d_Mo_writes_30 : decode b_Mo_writes 30 = .ok (.goto (9), 3) := by decide +kernel
theorem d_Mo_writes_33 : decode b_Mo_writes 33 = .ok (.iload_n 3, 1) := by decide +kernel
theorem d_Mo_writes_34 : decode b_Mo_writes 34 = .ok (.bipush (8), 2) := by decide +kernel
theorem d_Mo_writes_36 : decode b_Mo_writes 36 = .ok (.if_icmp .ne (7), 3) := by decide +kernel
theorem d_Mo_writes_39 : decode b_Mo_writes 39 = .ok (.iconst (1), 1) := by decide +kernel
theorem d_Mo_writes_40 : decode b_Mo_writes 40 = .ok (.goto (4), 3) := by decide +kernel
theorem d_Mo_writes_43 : decode b_Mo_writes 43 = .ok (.iconst (0), 1) := by decide +kernel
theorem d_Mo_writes_44 : decode b_Mo_writes 44 = .ok (.ireturn, 1) := by decide +kernel
theorem d_Mo_sendAck_0 : decode b_Mo_sendAck 0 = .ok (.aload_n 0, 1) := by decide +kernel
theorem d_Mo_sendAck_1 : decode b_Mo_sendAck 1 = .ok (.iload_n 1, 1) := by decide +kernel
theorem d_Mo_sendAck_2 : decode b_Mo_sendAck 2 = .ok (.iconst (3), 1) := by decide +kernel
theorem d_Mo_sendAck_3 : decode b_Mo_sendAck 3 = .ok (.invokevirtual 177, 3) := by decide +kernel
theorem d_Mo_sendAck_6 : decode b_Mo_sendAck 6 = .ok (.ifCond .eq (7), 3) := by decide +kernel
theorem d_Mo_sendAck_9 : decode b_Mo_sendAck 9 = .ok (.iconst (3), 1) := by decide +kernel
theorem d_Mo_sendAck_10 : decode b_Mo_sendAck 10 = .ok (.goto (17), 3) := by decide +kernel
theorem d_Mo_sendAck_13 : decode b_Mo_sendAck 13 = .ok (.aload_n 0, 1) := by decide +kernel
theorem d_Mo_sendAck_14 : decode b_Mo_sendAck 14 = .ok (.iload_n 1, 1) := by decide +kernel
theorem d_Mo_sendAck_15 : decode b_Mo_sendAck 15 = .ok (.iconst (2), 1) := by decide +kernel
theorem d_Mo_sendAck_16 : decode b_Mo_sendAck 16 = .ok (.invokevirtual 177, 3) := by decide +kernel
theorem d_Mo_sendAck_19 : decode b_Mo_sendAck 19 = .ok (.ifCond .eq (7), 3) := by decide +kernel
theorem d_Mo_sendAck_22 : decode b_Mo_sendAck 22 = .ok (.iconst (2), 1) := by decide +kernel
theorem d_Mo_sendAck_23 : decode b_Mo_sendAck 23 = .ok (.goto (4), 3) := by decide +kernel
theorem d_Mo_sendAck_26 : decode b_Mo_sendAck 26 = .ok (.iconst (0), 1) := by decide +kernel
theorem d_Mo_sendAck_27 : decode b_Mo_sendAck 27 = .ok (.istore_n 2, 1) := by decide +kernel
theorem d_Mo_sendAck_28 : decode b_Mo_sendAck 28 = .ok (.aload_n 0, 1) := by decide +kernel
theorem d_Mo_sendAck_29 : decode b_Mo_sendAck 29 = .ok (.getfield 47, 3) := by decide +kernel
theorem d_Mo_sendAck_32 : decode b_Mo_sendAck 32 = .ok (.iconst (4), 1) := by decide +kernel
theorem d_Mo_sendAck_33 : decode b_Mo_sendAck 33 = .ok (.iload_n 1, 1) := by decide +kernel
theorem d_Mo_sendAck_34 : decode b_Mo_sendAck 34 = .ok (.imul, 1) := by decide +kernel
theorem d_Mo_sendAck_35 : decode b_Mo_sendAck 35 = .ok (.iload_n 2, 1) := by decide +kernel
theorem d_Mo_sendAck_36 : decode b_Mo_sendAck 36 = .ok (.iadd, 1) := by decide +kernel
theorem d_Mo_sendAck_37 : decode b_Mo_sendAck 37 = .ok (.iaload, 1) := by decide +kernel
theorem d_Mo_sendAck_38 : decode b_Mo_sendAck 38 = .ok (.istore_n 3, 1) := by decide +kernel
theorem d_Mo_sendAck_39 : decode b_Mo_sendAck 39 = .ok (.aload_n 0, 1) := by decide +kernel
theorem d_Mo_sendAck_40 : decode b_Mo_sendAck 40 = .ok (.getfield 47, 3) := by decide +kernel
theorem d_Mo_sendAck_43 : decode b_Mo_sendAck 43 = .ok (.iconst (4), 1) := by decide +kernel
theorem d_Mo_sendAck_44 : decode b_Mo_sendAck 44 = .ok (.iload_n 1, 1) := by decide +kernel
theorem d_Mo_sendAck_45 : decode b_Mo_sendAck 45 = .ok (.imul, 1) := by decide +kernel
theorem d_Mo_sendAck_46 : decode b_Mo_sendAck 46 = .ok (.iload_n 2, 1) := by decide +kernel
theorem d_Mo_sendAck_47 : decode b_Mo_sendAck 47 = .ok (.iadd, 1) := by decide +kernel
theorem d_Mo_sendAck_48 : decode b_Mo_sendAck 48 = .ok (.dup2, 1) := by decide +kernel
theorem d_Mo_sendAck_49 : decode b_Mo_sendAck 49 = .ok (.iaload, 1) := by decide +kernel
theorem d_Mo_sendAck_50 : decode b_Mo_sendAck 50 = .ok (.iconst (1), 1) := by decide +kernel
theorem d_Mo_sendAck_51 : decode b_Mo_sendAck 51 = .ok (.iadd, 1) := by decide +kernel
theorem d_Mo_sendAck_52 : decode b_Mo_sendAck 52 = .ok (.iastore, 1) := by decide +kernel
theorem d_Mo_sendAck_53 : decode b_Mo_sendAck 53 = .ok (.aload_n 0, 1) := by decide +kernel
theorem d_Mo_sendAck_54 : decode b_Mo_sendAck 54 = .ok (.iload_n 1, 1) := by decide +kernel
theorem d_Mo_sendAck_55 : decode b_Mo_sendAck 55 = .ok (.iconst (1), 1) := by decide +kernel
theorem d_Mo_sendAck_56 : decode b_Mo_sendAck 56 = .ok (.iload_n 2, 1) := by decide +kernel
theorem d_Mo_sendAck_57 : decode b_Mo_sendAck 57 = .ok (.iload_n 3, 1) := by decide +kernel
theorem d_Mo_sendAck_58 : decode b_Mo_sendAck 58 = .ok (.invokevirtual 167, 3) := by decide +kernel
theorem d_Mo_sendAck_61 : decode b_Mo_sendAck 61 = .ok (.istore 4, 2) := by decide +kernel
theorem d_Mo_sendAck_63 : decode b_Mo_sendAck 63 = .ok (.iload 4, 2) := by decide +kernel
theorem d_Mo_sendAck_65 : decode b_Mo_sendAck 65 = .ok (.ifCond .ge (4), 3) := by decide +kernel
theorem d_Mo_sendAck_68 : decode b_Mo_sendAck 68 = .ok (.return_, 1) := by decide +kernel
theorem d_Mo_sendAck_69 : decode b_Mo_sendAck 69 = .ok (.aload_n 0, 1) := by decide +kernel
theorem d_Mo_sendAck_70 : decode b_Mo_sendAck 70 = .ok (.getfield 26, 3) := by decide +kernel
theorem d_Mo_sendAck_73 : decode b_Mo_sendAck 73 = .ok (.iload 4, 2) := by decide +kernel
theorem d_Mo_sendAck_75 : decode b_Mo_sendAck 75 = .ok (.aload_n 0, 1) := by decide +kernel
theorem d_Mo_sendAck_76 : decode b_Mo_sendAck 76 = .ok (.getfield 56, 3) := by decide +kernel
theorem d_Mo_sendAck_79 : decode b_Mo_sendAck 79 = .ok (.iload_n 1, 1) := by decide +kernel
theorem d_Mo_sendAck_80 : decode b_Mo_sendAck 80 = .ok (.iaload, 1) := by decide +kernel
theorem d_Mo_sendAck_81 : decode b_Mo_sendAck 81 = .ok (.iastore, 1) := by decide +kernel
theorem d_Mo_sendAck_82 : decode b_Mo_sendAck 82 = .ok (.iconst (0), 1) := by decide +kernel
theorem d_Mo_sendAck_83 : decode b_Mo_sendAck 83 = .ok (.istore 5, 2) := by decide +kernel
theorem d_Mo_sendAck_85 : decode b_Mo_sendAck 85 = .ok (.iload 5, 2) := by decide +kernel
theorem d_Mo_sendAck_87 : decode b_Mo_sendAck 87 = .ok (.aload_n 0, 1) := by decide +kernel
theorem d_Mo_sendAck_88 : decode b_Mo_sendAck 88 = .ok (.getfield 56, 3) := by decide +kernel
theorem d_Mo_sendAck_91 : decode b_Mo_sendAck 91 = .ok (.iload_n 1, 1) := by decide +kernel
theorem d_Mo_sendAck_92 : decode b_Mo_sendAck 92 = .ok (.iaload, 1) := by decide +kernel
theorem d_Mo_sendAck_93 : decode b_Mo_sendAck 93 = .ok (.if_icmp .ge (59), 3) := by decide +kernel
theorem d_Mo_sendAck_96 : decode b_Mo_sendAck 96 = .ok (.aload_n 0, 1) := by decide +kernel
theorem d_Mo_sendAck_97 : decode b_Mo_sendAck 97 = .ok (.getfield 35, 3) := by decide +kernel
theorem d_Mo_sendAck_100 : decode b_Mo_sendAck 100 = .ok (.bipush (8), 2) := by decide +kernel
theorem d_Mo_sendAck_102 : decode b_Mo_sendAck 102 = .ok (.iload 4, 2) := by decide +kernel
theorem d_Mo_sendAck_104 : decode b_Mo_sendAck 104 = .ok (.imul, 1) := by decide +kernel
theorem d_Mo_sendAck_105 : decode b_Mo_sendAck 105 = .ok (.iload 5, 2) := by decide +kernel
theorem d_Mo_sendAck_107 : decode b_Mo_sendAck 107 = .ok (.iadd, 1) := by decide +kernel
theorem d_Mo_sendAck_108 : decode b_Mo_sendAck 108 = .ok (.aload_n 0, 1) := by decide +kernel
theorem d_Mo_sendAck_109 : decode b_Mo_sendAck 109 = .ok (.getfield 59, 3) := by decide +kernel
theorem d_Mo_sendAck_112 : decode b_Mo_sendAck 112 = .ok (.bipush (8), 2) := by decide +kernel
theorem d_Mo_sendAck_114 : decode b_Mo_sendAck 114 = .ok (.iload_n 1, 1) := by decide +kernel
theorem d_Mo_sendAck_115 : decode b_Mo_sendAck 115 = .ok (.imul, 1) := by decide +kernel
theorem d_Mo_sendAck_116 : decode b_Mo_sendAck 116 = .ok (.iload 5, 2) := by decide +kernel
theorem d_Mo_sendAck_118 : decode b_Mo_sendAck 118 = .ok (.iadd, 1) := by decide +kernel
theorem d_Mo_sendAck_119 : decode b_Mo_sendAck 119 = .ok (.iaload, 1) := by decide +kernel
theorem d_Mo_sendAck_120 : decode b_Mo_sendAck 120 = .ok (.iastore, 1) := by decide +kernel
theorem d_Mo_sendAck_121 : decode b_Mo_sendAck 121 = .ok (.aload_n 0, 1) := by decide +kernel
theorem d_Mo_sendAck_122 : decode b_Mo_sendAck 122 = .ok (.getfield 38, 3) := by decide +kernel
theorem d_Mo_sendAck_125 : decode b_Mo_sendAck 125 = .ok (.bipush (8), 2) := by decide +kernel
theorem d_Mo_sendAck_127 : decode b_Mo_sendAck 127 = .ok (.iload 4, 2) := by decide +kernel
theorem d_Mo_sendAck_129 : decode b_Mo_sendAck 129 = .ok (.imul, 1) := by decide +kernel
theorem d_Mo_sendAck_130 : decode b_Mo_sendAck 130 = .ok (.iload 5, 2) := by decide +kernel
theorem d_Mo_sendAck_132 : decode b_Mo_sendAck 132 = .ok (.iadd, 1) := by decide +kernel
theorem d_Mo_sendAck_133 : decode b_Mo_sendAck 133 = .ok (.aload_n 0, 1) := by decide +kernel
theorem d_Mo_sendAck_134 : decode b_Mo_sendAck 134 = .ok (.getfield 62, 3) := by decide +kernel
theorem d_Mo_sendAck_137 : decode b_Mo_sendAck 137 = .ok (.bipush (8), 2) := by decide +kernel
theorem d_Mo_sendAck_139 : decode b_Mo_sendAck 139 = .ok (.iload_n 1, 1) := by decide +kernel
theorem d_Mo_sendAck_140 : decode b_Mo_sendAck 140 = .ok (.imul, 1) := by decide +kernel
theorem d_Mo_sendAck_141 : decode b_Mo_sendAck 141 = .ok (.iload 5, 2) := by decide +kernel
theorem d_Mo_sendAck_143 : decode b_Mo_sendAck 143 = .ok (.iadd, 1) := by decide +kernel
theorem d_Mo_sendAck_144 : decode b_Mo_sendAck 144 = .ok (.iaload, 1) := by decide +kernel
theorem d_Mo_sendAck_145 : decode b_Mo_sendAck 145 = .ok (.iastore, 1) := by decide +kernel
theorem d_Mo_sendAck_146 : decode b_Mo_sendAck 146 = .ok (.iinc 5 (1), 3) := by decide +kernel
theorem d_Mo_sendAck_149 : decode b_Mo_sendAck 149 = .ok (.goto (-64), 3) := by decide +kernel
theorem d_Mo_sendAck_152 : decode b_Mo_sendAck 152 = .ok (.return_, 1) := by decide +kernel
theorem d_Mo_openOf_0 : decode b_Mo_openOf 0 = .ok (.iconst (0), 1) := by decide +kernel
theorem d_Mo_openOf_1 : decode b_Mo_openOf 1 = .ok (.istore_n 2, 1) := by decide +kernel
theorem d_Mo_openOf_2 : decode b_Mo_openOf 2 = .ok (.iconst (0), 1) := by decide +kernel
theorem d_Mo_openOf_3 : decode b_Mo_openOf 3 = .ok (.istore_n 3, 1) := by decide +kernel
theorem d_Mo_openOf_4 : decode b_Mo_openOf 4 = .ok (.iload_n 3, 1) := by decide +kernel
theorem d_Mo_openOf_5 : decode b_Mo_openOf 5 = .ok (.aload_n 0, 1) := by decide +kernel
theorem d_Mo_openOf_6 : decode b_Mo_openOf 6 = .ok (.getfield 68, 3) := by decide +kernel
theorem d_Mo_openOf_9 : decode b_Mo_openOf 9 = .ok (.iload_n 1, 1) := by decide +kernel
theorem d_Mo_openOf_10 : decode b_Mo_openOf 10 = .ok (.iaload, 1) := by decide +kernel
theorem d_Mo_openOf_11 : decode b_Mo_openOf 11 = .ok (.if_icmp .ge (31), 3) := by decide +kernel
theorem d_Mo_openOf_14 : decode b_Mo_openOf 14 = .ok (.iload_n 2, 1) := by decide +kernel
theorem d_Mo_openOf_15 : decode b_Mo_openOf 15 = .ok (.aload_n 0, 1) := by decide +kernel
theorem d_Mo_openOf_16 : decode b_Mo_openOf 16 = .ok (.getfield 77, 3) := by decide +kernel
theorem d_Mo_openOf_19 : decode b_Mo_openOf 19 = .ok (.bipush (12), 2) := by decide +kernel
theorem d_Mo_openOf_21 : decode b_Mo_openOf 21 = .ok (.iload_n 1, 1) := by decide +kernel
theorem d_Mo_openOf_22 : decode b_Mo_openOf 22 = .ok (.imul, 1) := by decide +kernel
theorem d_Mo_openOf_23 : decode b_Mo_openOf 23 = .ok (.iload_n 3, 1) := by decide +kernel
theorem d_Mo_openOf_24 : decode b_Mo_openOf 24 = .ok (.iadd, 1) := by decide +kernel
theorem d_Mo_openOf_25 : decode b_Mo_openOf 25 = .ok (.baload, 1) := by decide +kernel
theorem d_Mo_openOf_26 : decode b_Mo_openOf 26 = .ok (.ifCond .eq (7), 3) := by decide +kernel
theorem d_Mo_openOf_29 : decode b_Mo_openOf 29 = .ok (.iconst (1), 1) := by decide +kernel
theorem d_Mo_openOf_30 : decode b_Mo_openOf 30 = .ok (.goto (4), 3) := by decide +kernel
theorem d_Mo_openOf_33 : decode b_Mo_openOf 33 = .ok (.iconst (0), 1) := by decide +kernel
theorem d_Mo_openOf_34 : decode b_Mo_openOf 34 = .ok (.iadd, 1) := by decide +kernel
theorem d_Mo_openOf_35 : decode b_Mo_openOf 35 = .ok (.istore_n 2, 1) := by decide +kernel
theorem d_Mo_openOf_36 : decode b_Mo_openOf 36 = .ok (.iinc 3 (1), 3) := by decide +kernel
theorem d_Mo_openOf_39 : decode b_Mo_openOf 39 = .ok (.goto (-35), 3) := by decide +kernel
theorem d_Mo_openOf_42 : decode b_Mo_openOf 42 = .ok (.iload_n 2, 1) := by decide +kernel
theorem d_Mo_openOf_43 : decode b_Mo_openOf 43 = .ok (.ireturn, 1) := by decide +kernel
theorem d_Mo_pass_0 : decode b_Mo_pass 0 = .ok (.aload_n 0, 1) := by decide +kernel
theorem d_Mo_pass_1 : decode b_Mo_pass 1 = .ok (.getfield 65, 3) := by decide +kernel
theorem d_Mo_pass_4 : decode b_Mo_pass 4 = .ok (.iload_n 1, 1) := by decide +kernel
theorem d_Mo_pass_5 : decode b_Mo_pass 5 = .ok (.iaload, 1) := by decide +kernel
theorem d_Mo_pass_6 : decode b_Mo_pass 6 = .ok (.aload_n 0, 1) := by decide +kernel
theorem d_Mo_pass_7 : decode b_Mo_pass 7 = .ok (.getfield 174, 3) := by decide +kernel
theorem d_Mo_pass_10 : decode b_Mo_pass 10 = .ok (.if_icmp .ne (15), 3) := by decide +kernel
theorem d_Mo_pass_13 : decode b_Mo_pass 13 = .ok (.aload_n 0, 1) := by decide +kernel
theorem d_Mo_pass_14 : decode b_Mo_pass 14 = .ok (.getfield 65, 3) := by decide +kernel
theorem d_Mo_pass_17 : decode b_Mo_pass 17 = .ok (.iload_n 1, 1) := by decide +kernel
theorem d_Mo_pass_18 : decode b_Mo_pass 18 = .ok (.iconst (-1), 1) := by decide +kernel
theorem d_Mo_pass_19 : decode b_Mo_pass 19 = .ok (.iastore, 1) := by decide +kernel
theorem d_Mo_pass_20 : decode b_Mo_pass 20 = .ok (.aload_n 0, 1) := by decide +kernel
theorem d_Mo_pass_21 : decode b_Mo_pass 21 = .ok (.iload_n 1, 1) := by decide +kernel
theorem d_Mo_pass_22 : decode b_Mo_pass 22 = .ok (.invokevirtual 188, 3) := by decide +kernel
theorem d_Mo_pass_25 : decode b_Mo_pass 25 = .ok (.aload_n 0, 1) := by decide +kernel
theorem d_Mo_pass_26 : decode b_Mo_pass 26 = .ok (.getfield 95, 3) := by decide +kernel
theorem d_Mo_pass_29 : decode b_Mo_pass 29 = .ok (.iload_n 1, 1) := by decide +kernel
theorem d_Mo_pass_30 : decode b_Mo_pass 30 = .ok (.iaload, 1) := by decide +kernel
theorem d_Mo_pass_31 : decode b_Mo_pass 31 = .ok (.aload_n 0, 1) := by decide +kernel
theorem d_Mo_pass_32 : decode b_Mo_pass 32 = .ok (.getfield 174, 3) := by decide +kernel
theorem d_Mo_pass_35 : decode b_Mo_pass 35 = .ok (.if_icmp .ne (11), 3) := by decide +kernel
theorem d_Mo_pass_38 : decode b_Mo_pass 38 = .ok (.aload_n 0, 1) := by decide +kernel
theorem d_Mo_pass_39 : decode b_Mo_pass 39 = .ok (.iload_n 1, 1) := by decide +kernel
theorem d_Mo_pass_40 : decode b_Mo_pass 40 = .ok (.invokevirtual 192, 3) := by decide +kernel
theorem d_Mo_pass_43 : decode b_Mo_pass 43 = .ok (.ifCond .ne (4), 3) := by decide +kernel
theorem d_Mo_pass_46 : decode b_Mo_pass 46 = .ok (.return_, 1) := by decide +kernel
theorem d_Mo_pass_47 : decode b_Mo_pass 47 = .ok (.aload_n 0, 1) := by decide +kernel
theorem d_Mo_pass_48 : decode b_Mo_pass 48 = .ok (.getfield 98, 3) := by decide +kernel
theorem d_Mo_pass_51 : decode b_Mo_pass 51 = .ok (.iload_n 1, 1) := by decide +kernel
theorem d_Mo_pass_52 : decode b_Mo_pass 52 = .ok (.iaload, 1) := by decide +kernel
theorem d_Mo_pass_53 : decode b_Mo_pass 53 = .ok (.bipush (6), 2) := by decide +kernel
theorem d_Mo_pass_55 : decode b_Mo_pass 55 = .ok (.if_icmp .ne (17), 3) := by decide +kernel
theorem d_Mo_pass_58 : decode b_Mo_pass 58 = .ok (.aload_n 0, 1) := by decide +kernel
theorem d_Mo_pass_59 : decode b_Mo_pass 59 = .ok (.getfield 68, 3) := by decide +kernel
theorem d_Mo_pass_62 : decode b_Mo_pass 62 = .ok (.iload_n 1, 1) := by decide +kernel
theorem d_Mo_pass_63 : decode b_Mo_pass 63 = .ok (.iconst (0), 1) := by decide +kernel
theorem d_Mo_pass_64 : decode b_Mo_pass 64 = .ok (.iastore, 1) := by decide +kernel
theorem d_Mo_pass_65 : decode b_Mo_pass 65 = .ok (.aload_n 0, 1) := by decide +kernel
theorem d_Mo_pass_66 : decode b_Mo_pass 66 = .ok (.iload_n 1, 1) := by decide +kernel
theorem d_Mo_pass_67 : decode b_Mo_pass 67 = .ok (.iconst (5), 1) := by decide +kernel
theorem d_Mo_pass_68 : decode b_Mo_pass 68 = .ok (.invokevirtual 181, 3) := by decide +kernel
theorem d_Mo_pass_71 : decode b_Mo_pass 71 = .ok (.return_, 1) := by decide +kernel
theorem d_Mo_pass_72 : decode b_Mo_pass 72 = .ok (.aload_n 0, 1) := by decide +kernel
theorem d_Mo_pass_73 : decode b_Mo_pass 73 = .ok (.getfield 98, 3) := by decide +kernel
theorem d_Mo_pass_76 : decode b_Mo_pass 76 = .ok (.iload_n 1, 1) := by decide +kernel
theorem d_Mo_pass_77 : decode b_Mo_pass 77 = .ok (.dup2, 1) := by decide +kernel
theorem d_Mo_pass_78 : decode b_Mo_pass 78 = .ok (.iaload, 1) := by decide +kernel
theorem d_Mo_pass_79 : decode b_Mo_pass 79 = .ok (.iconst (1), 1) := by decide +kernel
theorem d_Mo_pass_80 : decode b_Mo_pass 80 = .ok (.iadd, 1) := by decide +kernel
theorem d_Mo_pass_81 : decode b_Mo_pass 81 = .ok (.iastore, 1) := by decide +kernel
theorem d_Mo_pass_82 : decode b_Mo_pass 82 = .ok (.iconst (0), 1) := by decide +kernel
theorem d_Mo_pass_83 : decode b_Mo_pass 83 = .ok (.istore_n 2, 1) := by decide +kernel
theorem d_Mo_pass_84 : decode b_Mo_pass 84 = .ok (.iload_n 2, 1) := by decide +kernel
theorem d_Mo_pass_85 : decode b_Mo_pass 85 = .ok (.aload_n 0, 1) := by decide +kernel
theorem d_Mo_pass_86 : decode b_Mo_pass 86 = .ok (.getfield 68, 3) := by decide +kernel
theorem d_Mo_pass_89 : decode b_Mo_pass 89 = .ok (.iload_n 1, 1) := by decide +kernel
theorem d_Mo_pass_90 : decode b_Mo_pass 90 = .ok (.iaload, 1) := by decide +kernel
theorem d_Mo_pass_91 : decode b_Mo_pass 91 = .ok (.if_icmp .ge (29), 3) := by decide +kernel
theorem d_Mo_pass_94 : decode b_Mo_pass 94 = .ok (.aload_n 0, 1) := by decide +kernel
theorem d_Mo_pass_95 : decode b_Mo_pass 95 = .ok (.getfield 77, 3) := by decide +kernel
theorem d_Mo_pass_98 : decode b_Mo_pass 98 = .ok (.bipush (12), 2) := by decide +kernel
theorem d_Mo_pass_100 : decode b_Mo_pass 100 = .ok (.iload_n 1, 1) := by decide +kernel
theorem d_Mo_pass_101 : decode b_Mo_pass 101 = .ok (.imul, 1) := by decide +kernel
theorem d_Mo_pass_102 : decode b_Mo_pass 102 = .ok (.iload_n 2, 1) := by decide +kernel
theorem d_Mo_pass_103 : decode b_Mo_pass 103 = .ok (.iadd, 1) := by decide +kernel
theorem d_Mo_pass_104 : decode b_Mo_pass 104 = .ok (.baload, 1) := by decide +kernel
theorem d_Mo_pass_105 : decode b_Mo_pass 105 = .ok (.ifCond .eq (9), 3) := by decide +kernel
theorem d_Mo_pass_108 : decode b_Mo_pass 108 = .ok (.aload_n 0, 1) := by decide +kernel
theorem d_Mo_pass_109 : decode b_Mo_pass 109 = .ok (.iload_n 1, 1) := by decide +kernel
theorem d_Mo_pass_110 : decode b_Mo_pass 110 = .ok (.iload_n 2, 1) := by decide +kernel
theorem d_Mo_pass_111 : decode b_Mo_pass 111 = .ok (.invokevirtual 171, 3) := by decide +kernel
theorem d_Mo_pass_114 : decode b_Mo_pass 114 = .ok (.iinc 2 (1), 3) := by decide +kernel
theorem d_Mo_pass_117 : decode b_Mo_pass 117 = .ok (.goto (-33), 3) := by decide +kernel
theorem d_Mo_pass_120 : decode b_Mo_pass 120 = .ok (.aload_n 0, 1) := by decide +kernel
theorem d_Mo_pass_121 : decode b_Mo_pass 121 = .ok (.getfield 92, 3) := by decide +kernel
theorem d_Mo_pass_124 : decode b_Mo_pass 124 = .ok (.iload_n 1, 1) := by decide +kernel
theorem d_Mo_pass_125 : decode b_Mo_pass 125 = .ok (.aload_n 0, 1) := by decide +kernel
theorem d_Mo_pass_126 : decode b_Mo_pass 126 = .ok (.getfield 92, 3) := by decide +kernel
theorem d_Mo_pass_129 : decode b_Mo_pass 129 = .ok (.iload_n 1, 1) := by decide +kernel
theorem d_Mo_pass_130 : decode b_Mo_pass 130 = .ok (.iaload, 1) := by decide +kernel
theorem d_Mo_pass_131 : decode b_Mo_pass 131 = .ok (.bipush (16), 2) := by decide +kernel
theorem d_Mo_pass_133 : decode b_Mo_pass 133 = .ok (.if_icmp .ge (14), 3) := by decide +kernel
theorem d_Mo_pass_136 : decode b_Mo_pass 136 = .ok (.iconst (2), 1) := by decide +kernel
theorem d_Mo_pass_137 : decode b_Mo_pass 137 = .ok (.aload_n 0, 1) := by decide +kernel
theorem d_Mo_pass_138 : decode b_Mo_pass 138 = .ok (.getfield 92, 3) := by decide +kernel
theorem d_Mo_pass_141 : decode b_Mo_pass 141 = .ok (.iload_n 1, 1) := by decide +kernel
theorem d_Mo_pass_142 : decode b_Mo_pass 142 = .ok (.iaload, 1) := by decide +kernel
theorem d_Mo_pass_143 : decode b_Mo_pass 143 = .ok (.imul, 1) := by decide +kernel
theorem d_Mo_pass_144 : decode b_Mo_pass 144 = .ok (.goto (5), 3) := by decide +kernel
theorem d_Mo_pass_147 : decode b_Mo_pass 147 = .ok (.bipush (32), 2) := by decide +kernel
theorem d_Mo_pass_149 : decode b_Mo_pass 149 = .ok (.iastore, 1) := by decide +kernel
theorem d_Mo_pass_150 : decode b_Mo_pass 150 = .ok (.aload_n 0, 1) := by decide +kernel
theorem d_Mo_pass_151 : decode b_Mo_pass 151 = .ok (.getfield 95, 3) := by decide +kernel
theorem d_Mo_pass_154 : decode b_Mo_pass 154 = .ok (.iload_n 1, 1) := by decide +kernel
theorem d_Mo_pass_155 : decode b_Mo_pass 155 = .ok (.aload_n 0, 1) := by decide +kernel
theorem d_Mo_pass_156 : decode b_Mo_pass 156 = .ok (.getfield 174, 3) := by decide +kernel
theorem d_Mo_pass_159 : decode b_Mo_pass 159 = .ok (.aload_n 0, 1) := by decide +kernel
theorem d_Mo_pass_160 : decode b_Mo_pass 160 = .ok (.getfield 92, 3) := by decide +kernel
theorem d_Mo_pass_163 : decode b_Mo_pass 163 = .ok (.iload_n 1, 1) := by decide +kernel
theorem d_Mo_pass_164 : decode b_Mo_pass 164 = .ok (.iaload, 1) := by decide +kernel
theorem d_Mo_pass_165 : decode b_Mo_pass 165 = .ok (.iadd, 1) := by decide +kernel
theorem d_Mo_pass_166 : decode b_Mo_pass 166 = .ok (.iastore, 1) := by decide +kernel
theorem d_Mo_pass_167 : decode b_Mo_pass 167 = .ok (.return_, 1) := by decide +kernel
theorem d_Mo_tick_0 : decode b_Mo_tick 0 = .ok (.aload_n 0, 1) := by decide +kernel
theorem d_Mo_tick_1 : decode b_Mo_tick 1 = .ok (.dup, 1) := by decide +kernel
theorem d_Mo_tick_2 : decode b_Mo_tick 2 = .ok (.getfield 174, 3) := by decide +kernel
theorem d_Mo_tick_5 : decode b_Mo_tick 5 = .ok (.iconst (1), 1) := by decide +kernel
theorem d_Mo_tick_6 : decode b_Mo_tick 6 = .ok (.iadd, 1) := by decide +kernel
theorem d_Mo_tick_7 : decode b_Mo_tick 7 = .ok (.putfield 174, 3) := by decide +kernel
theorem d_Mo_tick_10 : decode b_Mo_tick 10 = .ok (.aload_n 0, 1) := by decide +kernel
theorem d_Mo_tick_11 : decode b_Mo_tick 11 = .ok (.iconst (0), 1) := by decide +kernel
theorem d_Mo_tick_12 : decode b_Mo_tick 12 = .ok (.putfield 150, 3) := by decide +kernel
theorem d_Mo_tick_15 : decode b_Mo_tick 15 = .ok (.aload_n 0, 1) := by decide +kernel
theorem d_Mo_tick_16 : decode b_Mo_tick 16 = .ok (.iconst (0), 1) := by decide +kernel
theorem d_Mo_tick_17 : decode b_Mo_tick 17 = .ok (.invokevirtual 195, 3) := by decide +kernel
theorem d_Mo_tick_20 : decode b_Mo_tick 20 = .ok (.aload_n 0, 1) := by decide +kernel
theorem d_Mo_tick_21 : decode b_Mo_tick 21 = .ok (.iconst (1), 1) := by decide +kernel
theorem d_Mo_tick_22 : decode b_Mo_tick 22 = .ok (.invokevirtual 195, 3) := by decide +kernel
theorem d_Mo_tick_25 : decode b_Mo_tick 25 = .ok (.aload_n 0, 1) := by decide +kernel
theorem d_Mo_tick_26 : decode b_Mo_tick 26 = .ok (.getfield 150, 3) := by decide +kernel
theorem d_Mo_tick_29 : decode b_Mo_tick 29 = .ok (.ireturn, 1) := by decide +kernel
theorem d_Mo_send_0 : decode b_Mo_send 0 = .ok (.iload_n 1, 1) := by decide +kernel
theorem d_Mo_send_1 : decode b_Mo_send 1 = .ok (.ifCond .lt (27), 3) := by decide +kernel
theorem d_Mo_send_4 : decode b_Mo_send 4 = .ok (.iload_n 1, 1) := by decide +kernel
theorem d_Mo_send_5 : decode b_Mo_send 5 = .ok (.iconst (1), 1) := by decide +kernel
theorem d_Mo_send_6 : decode b_Mo_send 6 = .ok (.if_icmp .gt (22), 3) := by decide +kernel
theorem d_Mo_send_9 : decode b_Mo_send 9 = .ok (.aload_n 0, 1) := by decide +kernel
theorem d_Mo_send_10 : decode b_Mo_send 10 = .ok (.getfield 41, 3) := by decide +kernel
theorem d_Mo_send_13 : decode b_Mo_send 13 = .ok (.iload_n 1, 1) := by decide +kernel
theorem d_Mo_send_14 : decode b_Mo_send 14 = .ok (.iaload, 1) := by decide +kernel
theorem d_Mo_send_15 : decode b_Mo_send 15 = .ok (.iconst (5), 1) := by decide +kernel
theorem d_Mo_send_16 : decode b_Mo_send 16 = .ok (.if_icmp .eq (12), 3) := by decide +kernel
theorem d_Mo_send_19 : decode b_Mo_send 19 = .ok (.aload_n 0, 1) := by decide +kernel
theorem d_Mo_send_20 : decode b_Mo_send 20 = .ok (.iload_n 1, 1) := by decide +kernel
theorem d_Mo_send_21 : decode b_Mo_send 21 = .ok (.iconst (3), 1) := by decide +kernel
theorem d_Mo_send_22 : decode b_Mo_send 22 = .ok (.invokevirtual 177, 3) := by decide +kernel
theorem d_Mo_send_25 : decode b_Mo_send 25 = .ok (.ifCond .ne (5), 3) := by decide +kernel
theorem d_Mo_send_28 : decode b_Mo_send 28 = .ok (.iconst (0), 1) := by decide +kernel
theorem d_Mo_send_29 : decode b_Mo_send 29 = .ok (.ireturn, 1) := by decide +kernel
theorem d_Mo_send_30 : decode b_Mo_send 30 = .ok (.aload_n 0, 1) := by decide +kernel
theorem d_Mo_send_31 : decode b_Mo_send 31 = .ok (.getfield 47, 3) := by decide +kernel
theorem d_Mo_send_34 : decode b_Mo_send 34 = .ok (.iconst (4), 1) := by decide +kernel
theorem d_Mo_send_35 : decode b_Mo_send 35 = .ok (.iload_n 1, 1) := by decide +kernel
theorem d_Mo_send_36 : decode b_Mo_send 36 = .ok (.imul, 1) := by decide +kernel
theorem d_Mo_send_37 : decode b_Mo_send 37 = .ok (.iconst (3), 1) := by decide +kernel
theorem d_Mo_send_38 : decode b_Mo_send 38 = .ok (.iadd, 1) := by decide +kernel
theorem d_Mo_send_39 : decode b_Mo_send 39 = .ok (.iaload, 1) := by decide +kernel
theorem d_Mo_send_40 : decode b_Mo_send 40 = .ok (.istore_n 3, 1) := by decide +kernel
theorem d_Mo_send_41 : decode b_Mo_send 41 = .ok (.aload_n 0, 1) := by decide +kernel
theorem d_Mo_send_42 : decode b_Mo_send 42 = .ok (.getfield 47, 3) := by decide +kernel
theorem d_Mo_send_45 : decode b_Mo_send 45 = .ok (.iconst (4), 1) := by decide +kernel
theorem d_Mo_send_46 : decode b_Mo_send 46 = .ok (.iload_n 1, 1) := by decide +kernel
theorem d_Mo_send_47 : decode b_Mo_send 47 = .ok (.imul, 1) := by decide +kernel
theorem d_Mo_send_48 : decode b_Mo_send 48 = .ok (.iconst (3), 1) := by decide +kernel
theorem d_Mo_send_49 : decode b_Mo_send 49 = .ok (.iadd, 1) := by decide +kernel
theorem d_Mo_send_50 : decode b_Mo_send 50 = .ok (.dup2, 1) := by decide +kernel
theorem d_Mo_send_51 : decode b_Mo_send 51 = .ok (.iaload, 1) := by decide +kernel
theorem d_Mo_send_52 : decode b_Mo_send 52 = .ok (.iconst (1), 1) := by decide +kernel
theorem d_Mo_send_53 : decode b_Mo_send 53 = .ok (.iadd, 1) := by decide +kernel
theorem d_Mo_send_54 : decode b_Mo_send 54 = .ok (.iastore, 1) := by decide +kernel
theorem d_Mo_send_55 : decode b_Mo_send 55 = .ok (.aload_n 0, 1) := by decide +kernel
theorem d_Mo_send_56 : decode b_Mo_send 56 = .ok (.iload_n 1, 1) := by decide +kernel
theorem d_Mo_send_57 : decode b_Mo_send 57 = .ok (.iconst (2), 1) := by decide +kernel
theorem d_Mo_send_58 : decode b_Mo_send 58 = .ok (.iconst (3), 1) := by decide +kernel
theorem d_Mo_send_59 : decode b_Mo_send 59 = .ok (.iload_n 3, 1) := by decide +kernel
theorem d_Mo_send_60 : decode b_Mo_send 60 = .ok (.invokevirtual 167, 3) := by decide +kernel
theorem d_Mo_send_63 : decode b_Mo_send 63 = .ok (.istore 4, 2) := by decide +kernel
theorem d_Mo_send_65 : decode b_Mo_send 65 = .ok (.iload 4, 2) := by decide +kernel
theorem d_Mo_send_67 : decode b_Mo_send 67 = .ok (.ifCond .lt (11), 3) := by decide +kernel
theorem d_Mo_send_70 : decode b_Mo_send 70 = .ok (.aload_n 0, 1) := by decide +kernel
theorem d_Mo_send_71 : decode b_Mo_send 71 = .ok (.getfield 26, 3) := by decide +kernel
theorem d_Mo_send_74 : decode b_Mo_send 74 = .ok (.iload 4, 2) := by decide +kernel
theorem d_Mo_send_76 : decode b_Mo_send 76 = .ok (.iload_n 2, 1) := by decide +kernel
theorem d_Mo_send_77 : decode b_Mo_send 77 = .ok (.iastore, 1) := by decide +kernel
theorem d_Mo_send_78 : decode b_Mo_send 78 = .ok (.iconst (1), 1) := by decide +kernel
theorem d_Mo_send_79 : decode b_Mo_send 79 = .ok (.ireturn, 1) := by decide +kernel
theorem d_Mo_isRecord_0 : decode b_Mo_isRecord 0 = .ok (.iload_n 1, 1) := by decide +kernel
theorem d_Mo_isRecord_1 : decode b_Mo_isRecord 1 = .ok (.ifCond .lt (15), 3) := by decide +kernel
theorem d_Mo_isRecord_4 : decode b_Mo_isRecord 4 = .ok (.iload_n 1, 1) := by decide +kernel
theorem d_Mo_isRecord_5 : decode b_Mo_isRecord 5 = .ok (.aload_n 0, 1) := by decide +kernel
theorem d_Mo_isRecord_6 : decode b_Mo_isRecord 6 = .ok (.getfield 153, 3) := by decide +kernel
theorem d_Mo_isRecord_9 : decode b_Mo_isRecord 9 = .ok (.if_icmp .ge (7), 3) := by decide +kernel
theorem d_Mo_isRecord_12 : decode b_Mo_isRecord 12 = .ok (.iconst (1), 1) := by decide +kernel
theorem d_Mo_isRecord_13 : decode b_Mo_isRecord 13 = .ok (.goto (4), 3) := by decide +kernel
theorem d_Mo_isRecord_16 : decode b_Mo_isRecord 16 = .ok (.iconst (0), 1) := by decide +kernel
theorem d_Mo_isRecord_17 : decode b_Mo_isRecord 17 = .ok (.ireturn, 1) := by decide +kernel
theorem d_Mo_reads_0 : decode b_Mo_reads 0 = .ok (.aload_n 0, 1) := by decide +kernel
theorem d_Mo_reads_1 : decode b_Mo_reads 1 = .ok (.getfield 44, 3) := by decide +kernel
theorem d_Mo_reads_4 : decode b_Mo_reads 4 = .ok (.iload_n 1, 1) := by decide +kernel
theorem d_Mo_reads_5 : decode b_Mo_reads 5 = .ok (.iaload, 1) := by decide +kernel
theorem d_Mo_reads_6 : decode b_Mo_reads 6 = .ok (.istore_n 3, 1) := by decide +kernel
theorem d_Mo_reads_7 : decode b_Mo_reads 7 = .ok (.iload_n 2, 1) := by decide +kernel
theorem d_Mo_reads_8 : decode b_Mo_reads 8 = .ok (.ifCond .eq (40), 3) := by decide +kernel
theorem d_Mo_reads_11 : decode b_Mo_reads 11 = .ok (.iload_n 2, 1) := by decide +kernel
theorem d_Mo_reads_12 : decode b_Mo_reads 12 = .ok (.iconst (2), 1) := by decide +kernel
theorem d_Mo_reads_13 : decode b_Mo_reads 13 = .ok (.if_icmp .ne (20), 3) := by decide +kernel
theorem d_Mo_reads_16 : decode b_Mo_reads 16 = .ok (.iload_n 3, 1) := by decide +kernel
theorem d_Mo_reads_17 : decode b_Mo_reads 17 = .ok (.iload_n 1, 1) := by decide +kernel
theorem d_Mo_reads_18 : decode b_Mo_reads 18 = .ok (.ifCond .ne (7), 3) := by decide +kernel
theorem d_Mo_reads_21 : decode b_Mo_reads 21 = .ok (.iconst (4), 1) := by decide +kernel
theorem d_Mo_reads_22 : decode b_Mo_reads 22 = .ok (.goto (5), 3) := by decide +kernel
theorem d_Mo_reads_25 : decode b_Mo_reads 25 = .ok (.bipush (7), 2) := by decide +kernel
theorem d_Mo_reads_27 : decode b_Mo_reads 27 = .ok (.if_icmp .lt (25), 3) := by decide +kernel
theorem d_Mo_reads_30 : decode b_Mo_reads 30 = .ok (.goto (18), 3) := by decide +kernel
theorem d_Mo_reads_33 : decode b_Mo_reads 33 = .ok (.iload_n 3, 1) := by decide +kernel
theorem d_Mo_reads_34 : decode b_Mo_reads 34 = .ok (.iload_n 1, 1) := by decide +kernel
theorem d_Mo_reads_35 : decode b_Mo_reads 35 = .ok (.ifCond .ne (8), 3) := by decide +kernel
theorem d_Mo_reads_38 : decode b_Mo_reads 38 = .ok (.bipush (7), 2) := by decide +kernel
theorem d_Mo_reads_40 : decode b_Mo_reads 40 = .ok (.goto (5), 3) := by decide +kernel
theorem d_Mo_reads_43 : decode b_Mo_reads 43 = .ok (.bipush (8), 2) := by decide +kernel
theorem d_Mo_reads_45 : decode b_Mo_reads 45 = .ok (.if_icmp .lt (7), 3) := by decide +kernel
theorem d_Mo_reads_48 : decode b_Mo_reads 48 = .ok (.iconst (1), 1) := by decide +kernel
theorem d_Mo_reads_49 : decode b_Mo_reads 49 = .ok (.goto (4), 3) := by decide +kernel
theorem d_Mo_reads_52 : decode b_Mo_reads 52 = .ok (.iconst (0), 1) := by decide +kernel
theorem d_Mo_reads_53 : decode b_Mo_reads 53 = .ok (.ireturn, 1) := by decide +kernel
theorem d_Mo_isOld_0 : decode b_Mo_isOld 0 = .ok (.iconst (4), 1) := by decide +kernel
theorem d_Mo_isOld_1 : decode b_Mo_isOld 1 = .ok (.iload_n 1, 1) := by decide +kernel
theorem d_Mo_isOld_2 : decode b_Mo_isOld 2 = .ok (.imul, 1) := by decide +kernel
theorem d_Mo_isOld_3 : decode b_Mo_isOld 3 = .ok (.iload_n 2, 1) := by decide +kernel
theorem d_Mo_isOld_4 : decode b_Mo_isOld 4 = .ok (.iadd, 1) := by decide +kernel
theorem d_Mo_isOld_5 : decode b_Mo_isOld 5 = .ok (.istore 4, 2) := by decide +kernel
theorem d_Mo_isOld_7 : decode b_Mo_isOld 7 = .ok (.aload_n 0, 1) := by decide +kernel
theorem d_Mo_isOld_8 : decode b_Mo_isOld 8 = .ok (.getfield 50, 3) := by decide +kernel
theorem d_Mo_isOld_11 : decode b_Mo_isOld 11 = .ok (.iload 4, 2) := by decide +kernel
theorem d_Mo_isOld_13 : decode b_Mo_isOld 13 = .ok (.iaload, 1) := by decide +kernel
theorem d_Mo_isOld_14 : decode b_Mo_isOld 14 = .ok (.iload_n 3, 1) := by decide +kernel
theorem d_Mo_isOld_15 : decode b_Mo_isOld 15 = .ok (.isub, 1) := by decide +kernel
theorem d_Mo_isOld_16 : decode b_Mo_isOld 16 = .ok (.bipush (16), 2) := by decide +kernel
theorem d_Mo_isOld_18 : decode b_Mo_isOld 18 = .ok (.if_icmp .ge (22), 3) := by decide +kernel
theorem d_Mo_isOld_21 : decode b_Mo_isOld 21 = .ok (.aload_n 0, 1) := by decide +kernel
theorem d_Mo_isOld_22 : decode b_Mo_isOld 22 = .ok (.getfield 53, 3) := by decide +kernel
theorem d_Mo_isOld_25 : decode b_Mo_isOld 25 = .ok (.bipush (16), 2) := by decide +kernel
theorem d_Mo_isOld_27 : decode b_Mo_isOld 27 = .ok (.iload 4, 2) := by decide +kernel
theorem d_Mo_isOld_29 : decode b_Mo_isOld 29 = .ok (.imul, 1) := by decide +kernel
theorem d_Mo_isOld_30 : decode b_Mo_isOld 30 = .ok (.iload_n 3, 1) := by decide +kernel
theorem d_Mo_isOld_31 : decode b_Mo_isOld 31 = .ok (.bipush (16), 2) := by decide +kernel
theorem d_Mo_isOld_33 : decode b_Mo_isOld 33 = .ok (.irem, 1) := by decide +kernel
theorem d_Mo_isOld_34 : decode b_Mo_isOld 34 = .ok (.iadd, 1) := by decide +kernel
theorem d_Mo_isOld_35 : decode b_Mo_isOld 35 = .ok (.iaload, 1) := by decide +kernel
theorem d_Mo_isOld_36 : decode b_Mo_isOld 36 = .ok (.iload_n 3, 1) := by decide +kernel
