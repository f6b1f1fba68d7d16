theorem d_Mo_deliver_84 : decode b_Mo_deliver 84 = .ok (.goto (4), 3) := by decide +kernel
theorem d_Mo_deliver_87 : decode b_Mo_deliver 87 = .ok (.iconst (0), 1) := by decide +kernel
theorem d_Mo_deliver_88 : decode b_Mo_deliver 88 = .ok (.istore 9, 2) := by decide +kernel
theorem d_Mo_deliver_90 : decode b_Mo_deliver 90 = .ok (.aload_n 0, 1) := by decide +kernel
theorem d_Mo_deliver_91 : decode b_Mo_deliver 91 = .ok (.getfield 22, 3) := by decide +kernel
theorem d_Mo_deliver_94 : decode b_Mo_deliver 94 = .ok (.iload_n 1, 1) := by decide +kernel
theorem d_Mo_deliver_95 : decode b_Mo_deliver 95 = .ok (.baload, 1) := by decide +kernel
theorem d_Mo_deliver_96 : decode b_Mo_deliver 96 = .ok (.ifCond .ne (38), 3) := by decide +kernel
theorem d_Mo_deliver_99 : decode b_Mo_deliver 99 = .ok (.aload_n 0, 1) := by decide +kernel
theorem d_Mo_deliver_100 : decode b_Mo_deliver 100 = .ok (.getfield 41, 3) := by decide +kernel
theorem d_Mo_deliver_103 : decode b_Mo_deliver 103 = .ok (.iload_n 2, 1) := by decide +kernel
theorem d_Mo_deliver_104 : decode b_Mo_deliver 104 = .ok (.iaload, 1) := by decide +kernel
theorem d_Mo_deliver_105 : decode b_Mo_deliver 105 = .ok (.iconst (5), 1) := by decide +kernel
theorem d_Mo_deliver_106 : decode b_Mo_deliver 106 = .ok (.if_icmp .eq (28), 3) := by decide +kernel
theorem d_Mo_deliver_109 : decode b_Mo_deliver 109 = .ok (.aload_n 0, 1) := by decide +kernel
theorem d_Mo_deliver_110 : decode b_Mo_deliver 110 = .ok (.iload_n 2, 1) := by decide +kernel
theorem d_Mo_deliver_111 : decode b_Mo_deliver 111 = .ok (.iload_n 3, 1) := by decide +kernel
theorem d_Mo_deliver_112 : decode b_Mo_deliver 112 = .ok (.invokevirtual 213, 3) := by decide +kernel
theorem d_Mo_deliver_115 : decode b_Mo_deliver 115 = .ok (.ifCond .eq (19), 3) := by decide +kernel
theorem d_Mo_deliver_118 : decode b_Mo_deliver 118 = .ok (.iload 9, 2) := by decide +kernel
theorem d_Mo_deliver_120 : decode b_Mo_deliver 120 = .ok (.ifCond .eq (18), 3) := by decide +kernel
theorem d_Mo_deliver_123 : decode b_Mo_deliver 123 = .ok (.aload_n 0, 1) := by decide +kernel
theorem d_Mo_deliver_124 : decode b_Mo_deliver 124 = .ok (.iload_n 2, 1) := by decide +kernel
theorem d_Mo_deliver_125 : decode b_Mo_deliver 125 = .ok (.iload_n 3, 1) := by decide +kernel
theorem d_Mo_deliver_126 : decode b_Mo_deliver 126 = .ok (.iload 4, 2) := by decide +kernel
theorem d_Mo_deliver_128 : decode b_Mo_deliver 128 = .ok (.invokevirtual 216, 3) := by decide +kernel
theorem d_Mo_deliver_131 : decode b_Mo_deliver 131 = .ok (.ifCond .eq (7), 3) := by decide +kernel
theorem d_Mo_deliver_134 : decode b_Mo_deliver 134 = .ok (.iconst (1), 1) := by decide +kernel
theorem d_Mo_deliver_135 : decode b_Mo_deliver 135 = .ok (.goto (4), 3) := by decide +kernel
theorem d_Mo_deliver_138 : decode b_Mo_deliver 138 = .ok (.iconst (0), 1) := by decide +kernel
theorem d_Mo_deliver_139 : decode b_Mo_deliver 139 = .ok (.istore 10, 2) := by decide +kernel
theorem d_Mo_deliver_141 : decode b_Mo_deliver 141 = .ok (.iload 10, 2) := by decide +kernel
theorem d_Mo_deliver_143 : decode b_Mo_deliver 143 = .ok (.ifCond .ne (20), 3) := by decide +kernel
theorem d_Mo_deliver_146 : decode b_Mo_deliver 146 = .ok (.iload 5, 2) := by decide +kernel
theorem d_Mo_deliver_148 : decode b_Mo_deliver 148 = .ok (.iconst (1), 1) := by decide +kernel
theorem d_Mo_deliver_149 : decode b_Mo_deliver 149 = .ok (.if_icmp .ne (14), 3) := by decide +kernel
theorem d_Mo_deliver_152 : decode b_Mo_deliver 152 = .ok (.iload 9, 2) := by decide +kernel
theorem d_Mo_deliver_154 : decode b_Mo_deliver 154 = .ok (.ifCond .eq (9), 3) := by decide +kernel
theorem d_Mo_deliver_157 : decode b_Mo_deliver 157 = .ok (.aload_n 0, 1) := by decide +kernel
theorem d_Mo_deliver_158 : decode b_Mo_deliver 158 = .ok (.iload_n 2, 1) := by decide +kernel
theorem d_Mo_deliver_159 : decode b_Mo_deliver 159 = .ok (.iload_n 1, 1) := by decide +kernel
theorem d_Mo_deliver_160 : decode b_Mo_deliver 160 = .ok (.invokevirtual 220, 3) := by decide +kernel
theorem d_Mo_deliver_163 : decode b_Mo_deliver 163 = .ok (.aload_n 0, 1) := by decide +kernel
theorem d_Mo_deliver_164 : decode b_Mo_deliver 164 = .ok (.iload_n 1, 1) := by decide +kernel
theorem d_Mo_deliver_165 : decode b_Mo_deliver 165 = .ok (.invokevirtual 223, 3) := by decide +kernel
theorem d_Mo_deliver_168 : decode b_Mo_deliver 168 = .ok (.pop, 1) := by decide +kernel
theorem d_Mo_deliver_169 : decode b_Mo_deliver 169 = .ok (.iload 10, 2) := by decide +kernel
theorem d_Mo_deliver_171 : decode b_Mo_deliver 171 = .ok (.ifCond .eq (5), 3) := by decide +kernel
theorem d_Mo_deliver_174 : decode b_Mo_deliver 174 = .ok (.iconst (0), 1) := by decide +kernel
theorem d_Mo_deliver_175 : decode b_Mo_deliver 175 = .ok (.ireturn, 1) := by decide +kernel
theorem d_Mo_deliver_176 : decode b_Mo_deliver 176 = .ok (.iload 9, 2) := by decide +kernel
theorem d_Mo_deliver_178 : decode b_Mo_deliver 178 = .ok (.ifCond .ne (25), 3) := by decide +kernel
theorem d_Mo_deliver_181 : decode b_Mo_deliver 181 = .ok (.iload 5, 2) := by decide +kernel
theorem d_Mo_deliver_183 : decode b_Mo_deliver 183 = .ok (.ifCond .ne (18), 3) := by decide +kernel
theorem d_Mo_deliver_186 : decode b_Mo_deliver 186 = .ok (.aload_n 0, 1) := by decide +kernel
theorem d_Mo_deliver_187 : decode b_Mo_deliver 187 = .ok (.iload 6, 2) := by decide +kernel
theorem d_Mo_deliver_189 : decode b_Mo_deliver 189 = .ok (.iload 4, 2) := by decide +kernel
theorem d_Mo_deliver_191 : decode b_Mo_deliver 191 = .ok (.invokevirtual 226, 3) := by decide +kernel
theorem d_Mo_deliver_194 : decode b_Mo_deliver 194 = .ok (.ifCond .eq (7), 3) := by decide +kernel
theorem d_Mo_deliver_197 : decode b_Mo_deliver 197 = .ok (.iconst (1), 1) := by decide +kernel
theorem d_Mo_deliver_198 : decode b_Mo_deliver 198 = .ok (.goto (4), 3) := by decide +kernel
theorem d_Mo_deliver_201 : decode b_Mo_deliver 201 = .ok (.iconst (0), 1) := by decide +kernel
theorem d_Mo_deliver_202 : decode b_Mo_deliver 202 = .ok (.ireturn, 1) := by decide +kernel
theorem d_Mo_deliver_203 : decode b_Mo_deliver 203 = .ok (.aload_n 0, 1) := by decide +kernel
theorem d_Mo_deliver_204 : decode b_Mo_deliver 204 = .ok (.iload_n 2, 1) := by decide +kernel
theorem d_Mo_deliver_205 : decode b_Mo_deliver 205 = .ok (.iload_n 3, 1) := by decide +kernel
theorem d_Mo_deliver_206 : decode b_Mo_deliver 206 = .ok (.iload 4, 2) := by decide +kernel
theorem d_Mo_deliver_208 : decode b_Mo_deliver 208 = .ok (.invokevirtual 201, 3) := by decide +kernel
theorem d_Mo_deliver_211 : decode b_Mo_deliver 211 = .ok (.iload 5, 2) := by decide +kernel
theorem d_Mo_deliver_213 : decode b_Mo_deliver 213 = .ok (.ifCond .ne (17), 3) := by decide +kernel
theorem d_Mo_deliver_216 : decode b_Mo_deliver 216 = .ok (.aload_n 0, 1) := by decide +kernel
theorem d_Mo_deliver_217 : decode b_Mo_deliver 217 = .ok (.iload_n 2, 1) := by decide +kernel
theorem d_Mo_deliver_218 : decode b_Mo_deliver 218 = .ok (.iload 6, 2) := by decide +kernel
theorem d_Mo_deliver_220 : decode b_Mo_deliver 220 = .ok (.iload 7, 2) := by decide +kernel
theorem d_Mo_deliver_222 : decode b_Mo_deliver 222 = .ok (.iload 8, 2) := by decide +kernel
theorem d_Mo_deliver_224 : decode b_Mo_deliver 224 = .ok (.iload_n 3, 1) := by decide +kernel
theorem d_Mo_deliver_225 : decode b_Mo_deliver 225 = .ok (.iload 4, 2) := by decide +kernel
theorem d_Mo_deliver_227 : decode b_Mo_deliver 227 = .ok (.invokevirtual 229, 3) := by decide +kernel
theorem d_Mo_deliver_230 : decode b_Mo_deliver 230 = .ok (.iload 5, 2) := by decide +kernel
theorem d_Mo_deliver_232 : decode b_Mo_deliver 232 = .ok (.iconst (2), 1) := by decide +kernel
theorem d_Mo_deliver_233 : decode b_Mo_deliver 233 = .ok (.if_icmp .ne (42), 3) := by decide +kernel
theorem d_Mo_deliver_236 : decode b_Mo_deliver 236 = .ok (.aload_n 0, 1) := by decide +kernel
theorem d_Mo_deliver_237 : decode b_Mo_deliver 237 = .ok (.getfield 107, 3) := by decide +kernel
theorem d_Mo_deliver_240 : decode b_Mo_deliver 240 = .ok (.iload_n 2, 1) := by decide +kernel
theorem d_Mo_deliver_241 : decode b_Mo_deliver 241 = .ok (.iaload, 1) := by decide +kernel
theorem d_Mo_deliver_242 : decode b_Mo_deliver 242 = .ok (.bipush (60), 2) := by decide +kernel
theorem d_Mo_deliver_244 : decode b_Mo_deliver 244 = .ok (.if_icmp .ge (31), 3) := by decide +kernel
theorem d_Mo_deliver_247 : decode b_Mo_deliver 247 = .ok (.aload_n 0, 1) := by decide +kernel
theorem d_Mo_deliver_248 : decode b_Mo_deliver 248 = .ok (.getfield 104, 3) := by decide +kernel
theorem d_Mo_deliver_251 : decode b_Mo_deliver 251 = .ok (.bipush (60), 2) := by decide +kernel
theorem d_Mo_deliver_253 : decode b_Mo_deliver 253 = .ok (.iload_n 2, 1) := by decide +kernel
theorem d_Mo_deliver_254 : decode b_Mo_deliver 254 = .ok (.imul, 1) := by decide +kernel
theorem d_Mo_deliver_255 : decode b_Mo_deliver 255 = .ok (.aload_n 0, 1) := by decide +kernel
theorem d_Mo_deliver_256 : decode b_Mo_deliver 256 = .ok (.getfield 107, 3) := by decide +kernel
theorem d_Mo_deliver_259 : decode b_Mo_deliver 259 = .ok (.iload_n 2, 1) := by decide +kernel
theorem d_Mo_deliver_260 : decode b_Mo_deliver 260 = .ok (.iaload, 1) := by decide +kernel
theorem d_Mo_deliver_261 : decode b_Mo_deliver 261 = .ok (.iadd, 1) := by decide +kernel
theorem d_Mo_deliver_262 : decode b_Mo_deliver 262 = .ok (.iload 6, 2) := by decide +kernel
theorem d_Mo_deliver_264 : decode b_Mo_deliver 264 = .ok (.iastore, 1) := by decide +kernel
theorem d_Mo_deliver_265 : decode b_Mo_deliver 265 = .ok (.aload_n 0, 1) := by decide +kernel
theorem d_Mo_deliver_266 : decode b_Mo_deliver 266 = .ok (.getfield 107, 3) := by decide +kernel
theorem d_Mo_deliver_269 : decode b_Mo_deliver 269 = .ok (.iload_n 2, 1) := by decide +kernel
theorem d_Mo_deliver_270 : decode b_Mo_deliver 270 = .ok (.dup2, 1) := by decide +kernel
theorem d_Mo_deliver_271 : decode b_Mo_deliver 271 = .ok (.iaload, 1) := by decide +kernel
theorem d_Mo_deliver_272 : decode b_Mo_deliver 272 = .ok (.iconst (1), 1) := by decide +kernel
theorem d_Mo_deliver_273 : decode b_Mo_deliver 273 = .ok (.iadd, 1) := by decide +kernel
theorem d_Mo_deliver_274 : decode b_Mo_deliver 274 = .ok (.iastore, 1) := by decide +kernel
theorem d_Mo_deliver_275 : decode b_Mo_deliver 275 = .ok (.iconst (1), 1) := by decide +kernel
theorem d_Mo_deliver_276 : decode b_Mo_deliver 276 = .ok (.ireturn, 1) := by decide +kernel
theorem d_Mo_copy_0 : decode b_Mo_copy 0 = .ok (.aload_n 0, 1) := by decide +kernel
theorem d_Mo_copy_1 : decode b_Mo_copy 1 = .ok (.iload_n 1, 1) := by decide +kernel
theorem d_Mo_copy_2 : decode b_Mo_copy 2 = .ok (.invokevirtual 159, 3) := by decide +kernel
theorem d_Mo_copy_5 : decode b_Mo_copy 5 = .ok (.ifCond .eq (12), 3) := by decide +kernel
theorem d_Mo_copy_8 : decode b_Mo_copy 8 = .ok (.aload_n 0, 1) := by decide +kernel
theorem d_Mo_copy_9 : decode b_Mo_copy 9 = .ok (.getfield 153, 3) := by decide +kernel
theorem d_Mo_copy_12 : decode b_Mo_copy 12 = .ok (.bipush (60), 2) := by decide +kernel
theorem d_Mo_copy_14 : decode b_Mo_copy 14 = .ok (.if_icmp .ne (5), 3) := by decide +kernel
theorem d_Mo_copy_17 : decode b_Mo_copy 17 = .ok (.iconst (0), 1) := by decide +kernel
theorem d_Mo_copy_18 : decode b_Mo_copy 18 = .ok (.ireturn, 1) := by decide +kernel
theorem d_Mo_copy_19 : decode b_Mo_copy 19 = .ok (.aload_n 0, 1) := by decide +kernel
theorem d_Mo_copy_20 : decode b_Mo_copy 20 = .ok (.iload_n 1, 1) := by decide +kernel
theorem d_Mo_copy_21 : decode b_Mo_copy 21 = .ok (.aload_n 0, 1) := by decide +kernel
theorem d_Mo_copy_22 : decode b_Mo_copy 22 = .ok (.getfield 153, 3) := by decide +kernel
theorem d_Mo_copy_25 : decode b_Mo_copy 25 = .ok (.invokevirtual 163, 3) := by decide +kernel
theorem d_Mo_copy_28 : decode b_Mo_copy 28 = .ok (.aload_n 0, 1) := by decide +kernel
theorem d_Mo_copy_29 : decode b_Mo_copy 29 = .ok (.dup, 1) := by decide +kernel
theorem d_Mo_copy_30 : decode b_Mo_copy 30 = .ok (.getfield 153, 3) := by decide +kernel
theorem d_Mo_copy_33 : decode b_Mo_copy 33 = .ok (.iconst (1), 1) := by decide +kernel
theorem d_Mo_copy_34 : decode b_Mo_copy 34 = .ok (.iadd, 1) := by decide +kernel
theorem d_Mo_copy_35 : decode b_Mo_copy 35 = .ok (.putfield 153, 3) := by decide +kernel
theorem d_Mo_copy_38 : decode b_Mo_copy 38 = .ok (.iconst (1), 1) := by decide +kernel
theorem d_Mo_copy_39 : decode b_Mo_copy 39 = .ok (.ireturn, 1) := by decide +kernel
theorem d_Mo_spoil_0 : decode b_Mo_spoil 0 = .ok (.aload_n 0, 1) := by decide +kernel
theorem d_Mo_spoil_1 : decode b_Mo_spoil 1 = .ok (.iload_n 1, 1) := by decide +kernel
theorem d_Mo_spoil_2 : decode b_Mo_spoil 2 = .ok (.invokevirtual 159, 3) := by decide +kernel
theorem d_Mo_spoil_5 : decode b_Mo_spoil 5 = .ok (.ifCond .ne (5), 3) := by decide +kernel
theorem d_Mo_spoil_8 : decode b_Mo_spoil 8 = .ok (.iconst (0), 1) := by decide +kernel
theorem d_Mo_spoil_9 : decode b_Mo_spoil 9 = .ok (.ireturn, 1) := by decide +kernel
theorem d_Mo_spoil_10 : decode b_Mo_spoil 10 = .ok (.aload_n 0, 1) := by decide +kernel
theorem d_Mo_spoil_11 : decode b_Mo_spoil 11 = .ok (.getfield 22, 3) := by decide +kernel
theorem d_Mo_spoil_14 : decode b_Mo_spoil 14 = .ok (.iload_n 1, 1) := by decide +kernel
theorem d_Mo_spoil_15 : decode b_Mo_spoil 15 = .ok (.iconst (1), 1) := by decide +kernel
theorem d_Mo_spoil_16 : decode b_Mo_spoil 16 = .ok (.bastore, 1) := by decide +kernel
theorem d_Mo_spoil_17 : decode b_Mo_spoil 17 = .ok (.iconst (1), 1) := by decide +kernel
theorem d_Mo_spoil_18 : decode b_Mo_spoil 18 = .ok (.ireturn, 1) := by decide +kernel
theorem d_Mo_waiting_0 : decode b_Mo_waiting 0 = .ok (.aload_n 0, 1) := by decide +kernel
theorem d_Mo_waiting_1 : decode b_Mo_waiting 1 = .ok (.getfield 153, 3) := by decide +kernel
theorem d_Mo_waiting_4 : decode b_Mo_waiting 4 = .ok (.ireturn, 1) := by decide +kernel
theorem d_Mo_lost_0 : decode b_Mo_lost 0 = .ok (.aload_n 0, 1) := by decide +kernel
theorem d_Mo_lost_1 : decode b_Mo_lost 1 = .ok (.getfield 156, 3) := by decide +kernel
theorem d_Mo_lost_4 : decode b_Mo_lost 4 = .ok (.ireturn, 1) := by decide +kernel
theorem d_Mo_record_0 : decode b_Mo_record 0 = .ok (.aload_n 0, 1) := by decide +kernel
theorem d_Mo_record_1 : decode b_Mo_record 1 = .ok (.iload_n 1, 1) := by decide +kernel
theorem d_Mo_record_2 : decode b_Mo_record 2 = .ok (.invokevirtual 159, 3) := by decide +kernel
theorem d_Mo_record_5 : decode b_Mo_record 5 = .ok (.ifCond .eq (47), 3) := by decide +kernel
theorem d_Mo_record_8 : decode b_Mo_record 8 = .ok (.ldc 233, 2) := by decide +kernel
theorem d_Mo_record_10 : decode b_Mo_record 10 = .ok (.aload_n 0, 1) := by decide +kernel
theorem d_Mo_record_11 : decode b_Mo_record 11 = .ok (.getfield 7, 3) := by decide +kernel
theorem d_Mo_record_14 : decode b_Mo_record 14 = .ok (.iload_n 1, 1) := by decide +kernel
theorem d_Mo_record_15 : decode b_Mo_record 15 = .ok (.iaload, 1) := by decide +kernel
theorem d_Mo_record_16 : decode b_Mo_record 16 = .ok (.imul, 1) := by decide +kernel
theorem d_Mo_record_17 : decode b_Mo_record 17 = .ok (.ldc 234, 2) := by decide +kernel
theorem d_Mo_record_19 : decode b_Mo_record 19 = .ok (.aload_n 0, 1) := by decide +kernel
theorem d_Mo_record_20 : decode b_Mo_record 20 = .ok (.getfield 13, 3) := by decide +kernel
theorem d_Mo_record_23 : decode b_Mo_record 23 = .ok (.iload_n 1, 1) := by decide +kernel
theorem d_Mo_record_24 : decode b_Mo_record 24 = .ok (.iaload, 1) := by decide +kernel
theorem d_Mo_record_25 : decode b_Mo_record 25 = .ok (.imul, 1) := by decide +kernel
theorem d_Mo_record_26 : decode b_Mo_record 26 = .ok (.iadd, 1) := by decide +kernel
theorem d_Mo_record_27 : decode b_Mo_record 27 = .ok (.sipush (10000), 3) := by decide +kernel
theorem d_Mo_record_30 : decode b_Mo_record 30 = .ok (.aload_n 0, 1) := by decide +kernel
theorem d_Mo_record_31 : decode b_Mo_record 31 = .ok (.getfield 16, 3) := by decide +kernel
theorem d_Mo_record_34 : decode b_Mo_record 34 = .ok (.iload_n 1, 1) := by decide +kernel
theorem d_Mo_record_35 : decode b_Mo_record 35 = .ok (.iaload, 1) := by decide +kernel
theorem d_Mo_record_36 : decode b_Mo_record 36 = .ok (.imul, 1) := by decide +kernel
theorem d_Mo_record_37 : decode b_Mo_record 37 = .ok (.iadd, 1) := by decide +kernel
theorem d_Mo_record_38 : decode b_Mo_record 38 = .ok (.aload_n 0, 1) := by decide +kernel
theorem d_Mo_record_39 : decode b_Mo_record 39 = .ok (.getfield 19, 3) := by decide +kernel
theorem d_Mo_record_42 : decode b_Mo_record 42 = .ok (.iload_n 1, 1) := by decide +kernel
theorem d_Mo_record_43 : decode b_Mo_record 43 = .ok (.iaload, 1) := by decide +kernel
theorem d_Mo_record_44 : decode b_Mo_record 44 = .ok (.sipush (10000), 3) := by decide +kernel
theorem d_Mo_record_47 : decode b_Mo_record 47 = .ok (.irem, 1) := by decide +kernel
theorem d_Mo_record_48 : decode b_Mo_record 48 = .ok (.iadd, 1) := by decide +kernel
theorem d_Mo_record_49 : decode b_Mo_record 49 = .ok (.goto (4), 3) := by decide +kernel
theorem d_Mo_record_52 : decode b_Mo_record 52 = .ok (.iconst (-1), 1) := by decide +kernel
theorem d_Mo_record_53 : decode b_Mo_record 53 = .ok (.ireturn, 1) := by decide +kernel
theorem d_Mo_numberOf_0 : decode b_Mo_numberOf 0 = .ok (.iload_n 0, 1) := by decide +kernel
theorem d_Mo_numberOf_1 : decode b_Mo_numberOf 1 = .ok (.iconst (2), 1) := by decide +kernel
theorem d_Mo_numberOf_2 : decode b_Mo_numberOf 2 = .ok (.if_icmp .ne (7), 3) := by decide +kernel
theorem d_Mo_numberOf_5 : decode b_Mo_numberOf 5 = .ok (.iconst (1), 1) := by decide +kernel
theorem d_Mo_numberOf_6 : decode b_Mo_numberOf 6 = .ok (.goto (25), 3) := by decide +kernel
theorem d_Mo_numberOf_9 : decode b_Mo_numberOf 9 = .ok (.iload_n 0, 1) := by decide +kernel
theorem d_Mo_numberOf_10 : decode b_Mo_numberOf 10 = .ok (.bipush (7), 2) := by decide +kernel
theorem d_Mo_numberOf_12 : decode b_Mo_numberOf 12 = .ok (.if_icmp .ne (7), 3) := by decide +kernel
theorem d_Mo_numberOf_15 : decode b_Mo_numberOf 15 = .ok (.iconst (2), 1) := by decide +kernel
theorem d_Mo_numberOf_16 : decode b_Mo_numberOf 16 = .ok (.goto (15), 3) := by decide +kernel
theorem d_Mo_numberOf_19 : decode b_Mo_numberOf 19 = .ok (.iload_n 0, 1) := by decide +kernel
theorem d_Mo_numberOf_20 : decode b_Mo_numberOf 20 = .ok (.iconst (2), 1) := by decide +kernel
theorem d_Mo_numberOf_21 : decode b_Mo_numberOf 21 = .ok (.if_icmp .ge (7), 3) := by decide +kernel
theorem d_Mo_numberOf_24 : decode b_Mo_numberOf 24 = .ok (.iconst (0), 1) := by decide +kernel
theorem d_Mo_numberOf_25 : decode b_Mo_numberOf 25 = .ok (.goto (6), 3) := by decide +kernel
theorem d_Mo_numberOf_28 : decode b_Mo_numberOf 28 = .ok (.iload_n 0, 1) := by decide +kernel
theorem d_Mo_numberOf_29 : decode b_Mo_numberOf 29 = .ok (.iconst (2), 1) := by decide +kernel
theorem d_Mo_numberOf_30 : decode b_Mo_numberOf 30 = .ok (.isub, 1) := by decide +kernel
theorem d_Mo_numberOf_31 : decode b_Mo_numberOf 31 = .ok (.ireturn, 1) := by decide +kernel
theorem d_Mo_content1_0 : decode b_Mo_content1 0 = .ok (.aload_n 0, 1) := by decide +kernel
theorem d_Mo_content1_1 : decode b_Mo_content1 1 = .ok (.iload_n 1, 1) := by decide +kernel
theorem d_Mo_content1_2 : decode b_Mo_content1 2 = .ok (.invokevirtual 159, 3) := by decide +kernel
theorem d_Mo_content1_5 : decode b_Mo_content1 5 = .ok (.ifCond .ne (5), 3) := by decide +kernel
theorem d_Mo_content1_8 : decode b_Mo_content1 8 = .ok (.iconst (-1), 1) := by decide +kernel
theorem d_Mo_content1_9 : decode b_Mo_content1 9 = .ok (.ireturn, 1) := by decide +kernel
theorem d_Mo_content1_10 : decode b_Mo_content1 10 = .ok (.aload_n 0, 1) := by decide +kernel
theorem d_Mo_content1_11 : decode b_Mo_content1 11 = .ok (.getfield 13, 3) := by decide +kernel
theorem d_Mo_content1_14 : decode b_Mo_content1 14 = .ok (.iload_n 1, 1) := by decide +kernel
theorem d_Mo_content1_15 : decode b_Mo_content1 15 = .ok (.iaload, 1) := by decide +kernel
theorem d_Mo_content1_16 : decode b_Mo_content1 16 = .ok (.ifCond .ne (36), 3) := by decide +kernel
theorem d_Mo_content1_19 : decode b_Mo_content1 19 = .ok (.sipush (10000), 3) := by decide +kernel
theorem d_Mo_content1_22 : decode b_Mo_content1 22 = .ok (.aload_n 0, 1) := by decide +kernel
theorem d_Mo_content1_23 : decode b_Mo_content1 23 = .ok (.getfield 26, 3) := by decide +kernel
theorem d_Mo_content1_26 : decode b_Mo_content1 26 = .ok (.iload_n 1, 1) := by decide +kernel
theorem d_Mo_content1_27 : decode b_Mo_content1 27 = .ok (.iaload, 1) := by decide +kernel
theorem d_Mo_content1_28 : decode b_Mo_content1 28 = .ok (.invokestatic 235, 3) := by decide +kernel
theorem d_Mo_content1_31 : decode b_Mo_content1 31 = .ok (.imul, 1) := by decide +kernel
theorem d_Mo_content1_32 : decode b_Mo_content1 32 = .ok (.bipush (100), 2) := by decide +kernel
theorem d_Mo_content1_34 : decode b_Mo_content1 34 = .ok (.aload_n 0, 1) := by decide +kernel
theorem d_Mo_content1_35 : decode b_Mo_content1 35 = .ok (.getfield 29, 3) := by decide +kernel
theorem d_Mo_content1_38 : decode b_Mo_content1 38 = .ok (.iload_n 1, 1) := by decide +kernel
theorem d_Mo_content1_39 : decode b_Mo_content1 39 = .ok (.iaload, 1) := by decide +kernel
theorem d_Mo_content1_40 : decode b_Mo_content1 40 = .ok (.imul, 1) := by decide +kernel
theorem d_Mo_content1_41 : decode b_Mo_content1 41 = .ok (.iadd, 1) := by decide +kernel
theorem d_Mo_content1_42 : decode b_Mo_content1 42 = .ok (.aload_n 0, 1) := by decide +kernel
theorem d_Mo_content1_43 : decode b_Mo_content1 43 = .ok (.getfield 32, 3) := by decide +kernel
theorem d_Mo_content1_46 : decode b_Mo_content1 46 = .ok (.iload_n 1, 1) := by decide +kernel
theorem d_Mo_content1_47 : decode b_Mo_content1 47 = .ok (.iaload, 1) := by decide +kernel
theorem d_Mo_content1_48 : decode b_Mo_content1 48 = .ok (.iadd, 1) := by decide +kernel
theorem d_Mo_content1_49 : decode b_Mo_content1 49 = .ok (.goto (23), 3) := by decide +kernel
theorem d_Mo_content1_52 : decode b_Mo_content1 52 = .ok (.aload_n 0, 1) := by decide +kernel
theorem d_Mo_content1_53 : decode b_Mo_content1 53 = .ok (.getfield 13, 3) := by decide +kernel
theorem d_Mo_content1_56 : decode b_Mo_content1 56 = .ok (.iload_n 1, 1) := by decide +kernel
theorem d_Mo_content1_57 : decode b_Mo_content1 57 = .ok (.iaload, 1) := by decide +kernel
theorem d_Mo_content1_58 : decode b_Mo_content1 58 = .ok (.iconst (1), 1) := by decide +kernel
theorem d_Mo_content1_59 : decode b_Mo_content1 59 = .ok (.if_icmp .ne (12), 3) := by decide +kernel
theorem d_Mo_content1_62 : decode b_Mo_content1 62 = .ok (.aload_n 0, 1) := by decide +kernel
theorem d_Mo_content1_63 : decode b_Mo_content1 63 = .ok (.getfield 26, 3) := by decide +kernel
theorem d_Mo_content1_66 : decode b_Mo_content1 66 = .ok (.iload_n 1, 1) := by decide +kernel
theorem d_Mo_content1_67 : decode b_Mo_content1 67 = .ok (.iaload, 1) := by decide +kernel
theorem d_Mo_content1_68 : decode b_Mo_content1 68 = .ok (.goto (4), 3) := by decide +kernel
theorem d_Mo_content1_71 : decode b_Mo_content1 71 = .ok (.iconst (0), 1) := by decide +kernel
theorem d_Mo_content1_72 : decode b_Mo_content1 72 = .ok (.ireturn, 1) := by decide +kernel
theorem d_Mo_byteOf_0 : decode b_Mo_byteOf 0 = .ok (.aload_n 0, 1) := by decide +kernel
theorem d_Mo_byteOf_1 : decode b_Mo_byteOf 1 = .ok (.iload_n 1, 1) := by decide +kernel
theorem d_Mo_byteOf_2 : decode b_Mo_byteOf 2 = .ok (.invokevirtual 159, 3) := by decide +kernel
theorem d_Mo_byteOf_5 : decode b_Mo_byteOf 5 = .ok (.ifCond .eq (47), 3) := by decide +kernel
theorem d_Mo_byteOf_8 : decode b_Mo_byteOf 8 = .ok (.aload_n 0, 1) := by decide +kernel
theorem d_Mo_byteOf_9 : decode b_Mo_byteOf 9 = .ok (.getfield 13, 3) := by decide +kernel
theorem d_Mo_byteOf_12 : decode b_Mo_byteOf 12 = .ok (.iload_n 1, 1) := by decide +kernel
theorem d_Mo_byteOf_13 : decode b_Mo_byteOf 13 = .ok (.iaload, 1) := by decide +kernel
theorem d_Mo_byteOf_14 : decode b_Mo_byteOf 14 = .ok (.ifCond .ne (38), 3) := by decide +kernel
theorem d_Mo_byteOf_17 : decode b_Mo_byteOf 17 = .ok (.iload_n 2, 1) := by decide +kernel
theorem d_Mo_byteOf_18 : decode b_Mo_byteOf 18 = .ok (.ifCond .lt (34), 3) := by decide +kernel
theorem d_Mo_byteOf_21 : decode b_Mo_byteOf 21 = .ok (.iload_n 2, 1) := by decide +kernel
theorem d_Mo_byteOf_22 : decode b_Mo_byteOf 22 = .ok (.aload_n 0, 1) := by decide +kernel
theorem d_Mo_byteOf_23 : decode b_Mo_byteOf 23 = .ok (.getfield 32, 3) := by decide +kernel
theorem d_Mo_byteOf_26 : decode b_Mo_byteOf 26 = .ok (.iload_n 1, 1) := by decide +kernel
theorem d_Mo_byteOf_27 : decode b_Mo_byteOf 27 = .ok (.iaload, 1) := by decide +kernel
theorem d_Mo_byteOf_28 : decode b_Mo_byteOf 28 = .ok (.if_icmp .ge (24), 3) := by decide +kernel
theorem d_Mo_byteOf_31 : decode b_Mo_byteOf 31 = .ok (.aload_n 0, 1) := by decide +kernel
theorem d_Mo_byteOf_32 : decode b_Mo_byteOf 32 = .ok (.aload_n 0, 1) := by decide +kernel
theorem d_Mo_byteOf_33 : decode b_Mo_byteOf 33 = .ok (.getfield 26, 3) := by decide +kernel
theorem d_Mo_byteOf_36 : decode b_Mo_byteOf 36 = .ok (.iload_n 1, 1) := by decide +kernel
theorem d_Mo_byteOf_37 : decode b_Mo_byteOf 37 = .ok (.iaload, 1) := by decide +kernel
theorem d_Mo_byteOf_38 : decode b_Mo_byteOf 38 = .ok (.aload_n 0, 1) := by decide +kernel
theorem d_Mo_byteOf_39 : decode b_Mo_byteOf 39 = .ok (.getfield 29, 3) := by decide +kernel
theorem d_Mo_byteOf_42 : decode b_Mo_byteOf 42 = .ok (.iload_n 1, 1) := by decide +kernel
theorem d_Mo_byteOf_43 : decode b_Mo_byteOf 43 = .ok (.iaload, 1) := by decide +kernel
theorem d_Mo_byteOf_44 : decode b_Mo_byteOf 44 = .ok (.iload_n 2, 1) := by decide +kernel
theorem d_Mo_byteOf_45 : decode b_Mo_byteOf 45 = .ok (.iadd, 1) := by decide +kernel
theorem d_Mo_byteOf_46 : decode b_Mo_byteOf 46 = .ok (.invokevirtual 147, 3) := by decide +kernel
theorem d_Mo_byteOf_49 : decode b_Mo_byteOf 49 = .ok (.goto (4), 3) := by decide +kernel
theorem d_Mo_byteOf_52 : decode b_Mo_byteOf 52 = .ok (.iconst (-1), 1) := by decide +kernel
theorem d_Mo_byteOf_53 : decode b_Mo_byteOf 53 = .ok (.ireturn, 1) := by decide +kernel
theorem d_Mo_noSide_0 : decode b_Mo_noSide 0 = .ok (.iload_n 0, 1) := by decide +kernel
theorem d_Mo_noSide_1 : decode b_Mo_noSide 1 = .ok (.ifCond .lt (8), 3) := by decide +kernel
theorem d_Mo_noSide_4 : decode b_Mo_noSide 4 = .ok (.iload_n 0, 1) := by decide +kernel
theorem d_Mo_noSide_5 : decode b_Mo_noSide 5 = .ok (.iconst (1), 1) := by decide +kernel
theorem d_Mo_noSide_6 : decode b_Mo_noSide 6 = .ok (.if_icmp .le (7), 3) := by decide +kernel
theorem d_Mo_noSide_9 : decode b_Mo_noSide 9 = .ok (.iconst (1), 1) := by decide +kernel
theorem d_Mo_noSide_10 : decode b_Mo_noSide 10 = .ok (.goto (4), 3) := by decide +kernel
theorem d_Mo_noSide_13 : decode b_Mo_noSide 13 = .ok (.iconst (0), 1) := by decide +kernel
theorem d_Mo_noSide_14 : decode b_Mo_noSide 14 = .ok (.ireturn, 1) := by decide +kernel
theorem d_Mo_state_0 : decode b_Mo_state 0 = .ok (.iload_n 1, 1) := by decide +kernel
theorem d_Mo_state_1 : decode b_Mo_state 1 = .ok (.invokestatic 238, 3) := by decide +kernel
theorem d_Mo_state_4 : decode b_Mo_state 4 = .ok (.ifCond .eq (7), 3) := by decide +kernel
theorem d_Mo_state_7 : decode b_Mo_state 7 = .ok (.iconst (-1), 1) := by decide +kernel
theorem d_Mo_state_8 : decode b_Mo_state 8 = .ok (.goto (9), 3) := by decide +kernel
theorem d_Mo_state_11 : decode b_Mo_state 11 = .ok (.aload_n 0, 1) := by decide +kernel
theorem d_Mo_state_12 : decode b_Mo_state 12 = .ok (.getfield 41, 3) := by decide +kernel
theorem d_Mo_state_15 : decode b_Mo_state 15 = .ok (.iload_n 1, 1) := by decide +kernel
theorem d_Mo_state_16 : decode b_Mo_state 16 = .ok (.iaload, 1) := by decide +kernel
theorem d_Mo_state_17 : decode b_Mo_state 17 = .ok (.ireturn, 1) := by decide +kernel
theorem d_Mo_transcript_0 : decode b_Mo_transcript 0 = .ok (.iload_n 1, 1) := by decide +kernel
theorem d_Mo_transcript_1 : decode b_Mo_transcript 1 = .ok (.invokestatic 238, 3) := by decide +kernel
theorem d_Mo_transcript_4 : decode b_Mo_transcript 4 = .ok (.ifCond .eq (7), 3) := by decide +kernel
theorem d_Mo_transcript_7 : decode b_Mo_transcript 7 = .ok (.iconst (0), 1) := by decide +kernel
theorem d_Mo_transcript_8 : decode b_Mo_transcript 8 = .ok (.goto (13), 3) := by decide +kernel
theorem d_Mo_transcript_11 : decode b_Mo_transcript 11 = .ok (.aload_n 0, 1) := by decide +kernel
theorem d_Mo_transcript_12 : decode b_Mo_transcript 12 = .ok (.aload_n 0, 1) := by decide +kernel
theorem d_Mo_transcript_13 : decode b_Mo_transcript 13 = .ok (.getfield 44, 3) := by decide +kernel
theorem d_Mo_transcript_16 : decode b_Mo_transcript 16 = .ok (.iload_n 1, 1) := by decide +kernel
theorem d_Mo_transcript_17 : decode b_Mo_transcript 17 = .ok (.iaload, 1) := by decide +kernel
theorem d_Mo_transcript_18 : decode b_Mo_transcript 18 = .ok (.invokevirtual 130, 3) := by decide +kernel
theorem d_Mo_transcript_21 : decode b_Mo_transcript 21 = .ok (.ireturn, 1) := by decide +kernel
theorem d_Mo_open_0 : decode b_Mo_open 0 = .ok (.iload_n 1, 1) := by decide +kernel
theorem d_Mo_open_1 : decode b_Mo_open 1 = .ok (.invokestatic 238, 3) := by decide +kernel
theorem d_Mo_open_4 : decode b_Mo_open 4 = .ok (.ifCond .eq (7), 3) := by decide +kernel
theorem d_Mo_open_7 : decode b_Mo_open 7 = .ok (.iconst (-1), 1) := by decide +kernel
theorem d_Mo_open_8 : decode b_Mo_open 8 = .ok (.goto (8), 3) := by decide +kernel
theorem d_Mo_open_11 : decode b_Mo_open 11 = .ok (.aload_n 0, 1) := by decide +kernel
theorem d_Mo_open_12 : decode b_Mo_open 12 = .ok (.iload_n 1, 1) := by decide +kernel
theorem d_Mo_open_13 : decode b_Mo_open 13 = .ok (.invokevirtual 192, 3) := by decide +kernel
theorem d_Mo_open_16 : decode b_Mo_open 16 = .ok (.ireturn, 1) := by decide +kernel
theorem d_Mo_kept_0 : decode b_Mo_kept 0 = .ok (.iload_n 1, 1) := by decide +kernel
theorem d_Mo_kept_1 : decode b_Mo_kept 1 = .ok (.invokestatic 238, 3) := by decide +kernel
theorem d_Mo_kept_4 : decode b_Mo_kept 4 = .ok (.ifCond .eq (5), 3) := by decide +kernel
theorem d_Mo_kept_7 : decode b_Mo_kept 7 = .ok (.iconst (-1), 1) := by decide +kernel
theorem d_Mo_kept_8 : decode b_Mo_kept 8 = .ok (.ireturn, 1) := by decide +kernel
theorem d_Mo_kept_9 : decode b_Mo_kept 9 = .ok (.iconst (0), 1) := by decide +kernel
theorem d_Mo_kept_10 : decode b_Mo_kept 10 = .ok (.istore_n 2, 1) := by decide +kernel
theorem d_Mo_kept_11 : decode b_Mo_kept 11 = .ok (.iconst (3), 1) := by decide +kernel
theorem d_Mo_kept_12 : decode b_Mo_kept 12 = .ok (.istore_n 3, 1) := by decide +kernel
theorem d_Mo_kept_13 : decode b_Mo_kept 13 = .ok (.iload_n 3, 1) := by decide +kernel
theorem d_Mo_kept_14 : decode b_Mo_kept 14 = .ok (.bipush (6), 2) := by decide +kernel
theorem d_Mo_kept_16 : decode b_Mo_kept 16 = .ok (.if_icmp .gt (64), 3) := by decide +kernel
theorem d_Mo_kept_19 : decode b_Mo_kept 19 = .ok (.iconst (0), 1) := by decide +kernel
theorem d_Mo_kept_20 : decode b_Mo_kept 20 = .ok (.istore 4, 2) := by decide +kernel
theorem d_Mo_kept_22 : decode b_Mo_kept 22 = .ok (.iload 4, 2) := by decide +kernel
theorem d_Mo_kept_24 : decode b_Mo_kept 24 = .ok (.bipush (48), 2) := by decide +kernel
theorem d_Mo_kept_26 : decode b_Mo_kept 26 = .ok (.if_icmp .ge (48), 3) := by decide +kernel
theorem d_Mo_kept_29 : decode b_Mo_kept 29 = .ok (.iload_n 2, 1) := by decide +kernel
theorem d_Mo_kept_30 : decode b_Mo_kept 30 = .ok (.iload_n 1, 1) := by decide +kernel
theorem d_Mo_kept_31 : decode b_Mo_kept 31 = .ok (.ifCond .ne (34), 3) := by decide +kernel
theorem d_Mo_kept_34 : decode b_Mo_kept 34 = .ok (.iload_n 3, 1) := by decide +kernel
theorem d_Mo_kept_35 : decode b_Mo_kept 35 = .ok (.aload_n 0, 1) := by decide +kernel
theorem d_Mo_kept_36 : decode b_Mo_kept 36 = .ok (.getfield 44, 3) := by decide +kernel
theorem d_Mo_kept_39 : decode b_Mo_kept 39 = .ok (.iconst (0), 1) := by decide +kernel
theorem d_Mo_kept_40 : decode b_Mo_kept 40 = .ok (.iaload, 1) := by decide +kernel
theorem d_Mo_kept_41 : decode b_Mo_kept 41 = .ok (.if_icmp .lt (24), 3) := by decide +kernel
theorem d_Mo_kept_44 : decode b_Mo_kept 44 = .ok (.aload_n 0, 1) := by decide +kernel
theorem d_Mo_kept_45 : decode b_Mo_kept 45 = .ok (.getfield 101, 3) := by decide +kernel
theorem d_Mo_kept_48 : decode b_Mo_kept 48 = .ok (.bipush (48), 2) := by decide +kernel
theorem d_Mo_kept_50 : decode b_Mo_kept 50 = .ok (.iload_n 3, 1) := by decide +kernel
theorem d_Mo_kept_51 : decode b_Mo_kept 51 = .ok (.iconst (3), 1) := by decide +kernel
theorem d_Mo_kept_52 : decode b_Mo_kept 52 = .ok (.isub, 1) := by decide +kernel
theorem d_Mo_kept_53 : decode b_Mo_kept 53 = .ok (.imul, 1) := by decide +kernel
theorem d_Mo_kept_54 : decode b_Mo_kept 54 = .ok (.iload 4, 2) := by decide +kernel
theorem d_Mo_kept_56 : decode b_Mo_kept 56 = .ok (.iadd, 1) := by decide +kernel
theorem d_Mo_kept_57 : decode b_Mo_kept 57 = .ok (.baload, 1) := by decide +kernel
theorem d_Mo_kept_58 : decode b_Mo_kept 58 = .ok (.ifCond .eq (7), 3) := by decide +kernel
theorem d_Mo_kept_61 : decode b_Mo_kept 61 = .ok (.iconst (1), 1) := by decide +kernel
theorem d_Mo_kept_62 : decode b_Mo_kept 62 = .ok (.goto (4), 3) := by decide +kernel
theorem d_Mo_kept_65 : decode b_Mo_kept 65 = .ok (.iconst (0), 1) := by decide +kernel
theorem d_Mo_kept_66 : decode b_Mo_kept 66 = .ok (.iadd, 1) := by decide +kernel
theorem d_Mo_kept_67 : decode b_Mo_kept 67 = .ok (.istore_n 2, 1) := by decide +kernel
theorem d_Mo_kept_68 : decode b_Mo_kept 68 = .ok (.iinc 4 (1), 3) := by decide +kernel
theorem d_Mo_kept_71 : decode b_Mo_kept 71 = .ok (.goto (-49), 3) := by decide +kernel
theorem d_Mo_kept_74 : decode b_Mo_kept 74 = .ok (.iinc 3 (1), 3) := by decide +kernel
theorem d_Mo_kept_77 : decode b_Mo_kept 77 = .ok (.goto (-64), 3) := by decide +kernel
theorem d_Mo_kept_80 : decode b_Mo_kept 80 = .ok (.iload_n 2, 1) := by decide +kernel
theorem d_Mo_kept_81 : decode b_Mo_kept 81 = .ok (.ireturn, 1) := by decide +kernel
theorem d_Mo_received_0 : decode b_Mo_received 0 = .ok (.iload_n 1, 1) := by decide +kernel
theorem d_Mo_received_1 : decode b_Mo_received 1 = .ok (.invokestatic 238, 3) := by decide +kernel
theorem d_Mo_received_4 : decode b_Mo_received 4 = .ok (.ifCond .eq (7), 3) := by decide +kernel
theorem d_Mo_received_7 : decode b_Mo_received 7 = .ok (.iconst (-1), 1) := by decide +kernel
theorem d_Mo_received_8 : decode b_Mo_received 8 = .ok (.goto (9), 3) := by decide +kernel
theorem d_Mo_received_11 : decode b_Mo_received 11 = .ok (.aload_n 0, 1) := by decide +kernel
theorem d_Mo_received_12 : decode b_Mo_received 12 = .ok (.getfield 107, 3) := by decide +kernel
theorem d_Mo_received_15 : decode b_Mo_received 15 = .ok (.iload_n 1, 1) := by decide +kernel
theorem d_Mo_received_16 : decode b_Mo_received 16 = .ok (.iaload, 1) := by decide +kernel
theorem d_Mo_received_17 : decode b_Mo_received 17 = .ok (.ireturn, 1) := by decide +kernel
theorem d_Mo_value_0 : decode b_Mo_value 0 = .ok (.iload_n 1, 1) := by decide +kernel
theorem d_Mo_value_1 : decode b_Mo_value 1 = .ok (.invokestatic 238, 3) := by decide +kernel
theorem d_Mo_value_4 : decode b_Mo_value 4 = .ok (.ifCond .ne (17), 3) := by decide +kernel
theorem d_Mo_value_7 : decode b_Mo_value 7 = .ok (.iload_n 2, 1) := by decide +kernel
theorem d_Mo_value_8 : decode b_Mo_value 8 = .ok (.ifCond .lt (13), 3) := by decide +kernel
theorem d_Mo_value_11 : decode b_Mo_value 11 = .ok (.iload_n 2, 1) := by decide +kernel
theorem d_Mo_value_12 : decode b_Mo_value 12 = .ok (.aload_n 0, 1) := by decide +kernel
theorem d_Mo_value_13 : decode b_Mo_value 13 = .ok (.getfield 107, 3) := by decide +kernel
theorem d_Mo_value_16 : decode b_Mo_value 16 = .ok (.iload_n 1, 1) := by decide +kernel
theorem d_Mo_value_17 : decode b_Mo_value 17 = .ok (.iaload, 1) := by decide +kernel
theorem d_Mo_value_18 : decode b_Mo_value 18 = .ok (.if_icmp .lt (7), 3) := by decide +kernel
theorem d_Mo_value_21 : decode b_Mo_value 21 = .ok (.iconst (0), 1) := by decide +kernel
theorem d_Mo_value_22 : decode b_Mo_value 22 = .ok (.goto (14), 3) := by decide +kernel
theorem d_Mo_value_25 : decode b_Mo_value 25 = .ok (.aload_n 0, 1) := by decide +kernel
theorem d_Mo_value_26 : decode b_Mo_value 26 = .ok (.getfield 104, 3) := by decide +kernel
theorem d_Mo_value_29 : decode b_Mo_value 29 = .ok (.bipush (60), 2) := by decide +kernel
theorem d_Mo_value_31 : decode b_Mo_value 31 = .ok (.iload_n 1, 1) := by decide +kernel
theorem d_Mo_value_32 : decode b_Mo_value 32 = .ok (.imul, 1) := by decide +kernel
theorem d_Mo_value_33 : decode b_Mo_value 33 = .ok (.iload_n 2, 1) := by decide +kernel
theorem d_Mo_value_34 : decode b_Mo_value 34 = .ok (.iadd, 1) := by decide +kernel
theorem d_Mo_value_35 : decode b_Mo_value 35 = .ok (.iaload, 1) := by decide +kernel
theorem d_Mo_value_36 : decode b_Mo_value 36 = .ok (.ireturn, 1) := by decide +kernel
