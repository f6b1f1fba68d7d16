section LY
variable {sd : Int32} {T : mT} {R : mR} {T2 : mT} {R2 : mR}
theorem LC.r_1_0 (h : LC sd T R) : R 1 0 = 2 := h.rf (by decide) (by decide) (by decide) (by decide) rfl
theorem LC.r_1_1 (h : LC sd T R) : R 1 1 = 128 := h.rf (by decide) (by decide) (by decide) (by decide) rfl
theorem LC.r_1_2 (h : LC sd T R) : R 1 2 = 152 := h.rf (by decide) (by decide) (by decide) (by decide) rfl
theorem LC.r_2_0 (h : LC sd T R) : R 2 0 = 3 := h.rf (by decide) (by decide) (by decide) (by decide) rfl
theorem LC.r_2_2 (h : LC sd T R) : R 2 2 = 6 := h.rf (by decide) (by decide) (by decide) (by decide) rfl
theorem LC.r_128_2 (h : LC sd T R) : R 128 2 = 2 := h.rf (by decide) (by decide) (by decide) (by decide) rfl
theorem LC.r_128_3 (h : LC sd T R) : R 128 3 = 134 := h.rf (by decide) (by decide) (by decide) (by decide) rfl
theorem LC.r_128_4 (h : LC sd T R) : R 128 4 = 129 := h.rf (by decide) (by decide) (by decide) (by decide) rfl
theorem LC.r_128_5 (h : LC sd T R) : R 128 5 = 131 := h.rf (by decide) (by decide) (by decide) (by decide) rfl
theorem LC.r_128_6 (h : LC sd T R) : R 128 6 = 132 := h.rf (by decide) (by decide) (by decide) (by decide) rfl
theorem LC.r_128_7 (h : LC sd T R) : R 128 7 = 133 := h.rf (by decide) (by decide) (by decide) (by decide) rfl
theorem LC.r_128_15 (h : LC sd T R) : R 128 15 = 143 := h.rf (by decide) (by decide) (by decide) (by decide) rfl
theorem LC.r_128_16 (h : LC sd T R) : R 128 16 = 145 := h.rf (by decide) (by decide) (by decide) (by decide) rfl
theorem LC.r_128_17 (h : LC sd T R) : R 128 17 = 147 := h.rf (by decide) (by decide) (by decide) (by decide) rfl
theorem LC.r_128_18 (h : LC sd T R) : R 128 18 = 149 := h.rf (by decide) (by decide) (by decide) (by decide) rfl
theorem LC.r_129_0 (h : LC sd T R) : R 129 0 = 130 := h.rf (by decide) (by decide) (by decide) (by decide) rfl
theorem LC.r_131_0 (h : LC sd T R) : R 131 0 = 139 := h.rf (by decide) (by decide) (by decide) (by decide) rfl
theorem LC.r_131_1 (h : LC sd T R) : R 131 1 = 140 := h.rf (by decide) (by decide) (by decide) (by decide) rfl
theorem LC.r_131_2 (h : LC sd T R) : R 131 2 = 141 := h.rf (by decide) (by decide) (by decide) (by decide) rfl
theorem LC.r_131_3 (h : LC sd T R) : R 131 3 = 142 := h.rf (by decide) (by decide) (by decide) (by decide) rfl
theorem LC.r_134_0 (h : LC sd T R) : R 134 0 = 135 := h.rf (by decide) (by decide) (by decide) (by decide) rfl
theorem LC.r_135_0 (h : LC sd T R) : R 135 0 = 136 := h.rf (by decide) (by decide) (by decide) (by decide) rfl
theorem LC.r_136_0 (h : LC sd T R) : R 136 0 = 137 := h.rf (by decide) (by decide) (by decide) (by decide) rfl
theorem LC.r_136_1 (h : LC sd T R) : R 136 1 = 138 := h.rf (by decide) (by decide) (by decide) (by decide) rfl
theorem LC.r_143_2 (h : LC sd T R) : R 143 2 = 144 := h.rf (by decide) (by decide) (by decide) (by decide) rfl
theorem LC.r_145_2 (h : LC sd T R) : R 145 2 = 146 := h.rf (by decide) (by decide) (by decide) (by decide) rfl
theorem LC.r_147_2 (h : LC sd T R) : R 147 2 = 148 := h.rf (by decide) (by decide) (by decide) (by decide) rfl
theorem LC.r_149_0 (h : LC sd T R) : R 149 0 = 150 := h.rf (by decide) (by decide) (by decide) (by decide) rfl
theorem LC.r_149_1 (h : LC sd T R) : R 149 1 = 151 := h.rf (by decide) (by decide) (by decide) (by decide) rfl
theorem LC.r_152_2 (h : LC sd T R) : R 152 2 = 2 := h.rf (by decide) (by decide) (by decide) (by decide) rfl
theorem LC.r_152_3 (h : LC sd T R) : R 152 3 = 158 := h.rf (by decide) (by decide) (by decide) (by decide) rfl
theorem LC.r_152_4 (h : LC sd T R) : R 152 4 = 153 := h.rf (by decide) (by decide) (by decide) (by decide) rfl
theorem LC.r_152_5 (h : LC sd T R) : R 152 5 = 155 := h.rf (by decide) (by decide) (by decide) (by decide) rfl
theorem LC.r_152_6 (h : LC sd T R) : R 152 6 = 156 := h.rf (by decide) (by decide) (by decide) (by decide) rfl
theorem LC.r_152_7 (h : LC sd T R) : R 152 7 = 157 := h.rf (by decide) (by decide) (by decide) (by decide) rfl
theorem LC.r_152_15 (h : LC sd T R) : R 152 15 = 191 := h.rf (by decide) (by decide) (by decide) (by decide) rfl
theorem LC.r_152_16 (h : LC sd T R) : R 152 16 = 193 := h.rf (by decide) (by decide) (by decide) (by decide) rfl
theorem LC.r_152_17 (h : LC sd T R) : R 152 17 = 195 := h.rf (by decide) (by decide) (by decide) (by decide) rfl
theorem LC.r_152_18 (h : LC sd T R) : R 152 18 = 199 := h.rf (by decide) (by decide) (by decide) (by decide) rfl
theorem LC.r_152_19 (h : LC sd T R) : R 152 19 = 197 := h.rf (by decide) (by decide) (by decide) (by decide) rfl
theorem LC.r_153_0 (h : LC sd T R) : R 153 0 = 154 := h.rf (by decide) (by decide) (by decide) (by decide) rfl
theorem LC.r_155_0 (h : LC sd T R) : R 155 0 = 187 := h.rf (by decide) (by decide) (by decide) (by decide) rfl
theorem LC.r_155_1 (h : LC sd T R) : R 155 1 = 188 := h.rf (by decide) (by decide) (by decide) (by decide) rfl
theorem LC.r_155_2 (h : LC sd T R) : R 155 2 = 189 := h.rf (by decide) (by decide) (by decide) (by decide) rfl
theorem LC.r_155_3 (h : LC sd T R) : R 155 3 = 190 := h.rf (by decide) (by decide) (by decide) (by decide) rfl
theorem LC.r_158_0 (h : LC sd T R) : R 158 0 = 159 := h.rf (by decide) (by decide) (by decide) (by decide) rfl
theorem LC.r_191_2 (h : LC sd T R) : R 191 2 = 192 := h.rf (by decide) (by decide) (by decide) (by decide) rfl
theorem LC.r_193_2 (h : LC sd T R) : R 193 2 = 194 := h.rf (by decide) (by decide) (by decide) (by decide) rfl
theorem LC.r_195_2 (h : LC sd T R) : R 195 2 = 196 := h.rf (by decide) (by decide) (by decide) (by decide) rfl
theorem LC.r_197_2 (h : LC sd T R) : R 197 2 = 198 := h.rf (by decide) (by decide) (by decide) (by decide) rfl
theorem LC.r_199_2 (h : LC sd T R) : R 199 2 = 200 := h.rf (by decide) (by decide) (by decide) (by decide) rfl
theorem LC.o_1 (h : LC sd T R) : ok T 200 1 10 := h.tk (by decide) (by decide) rfl
theorem LC.o_2 (h : LC sd T R) : ok T 200 2 4 := h.tk (by decide) (by decide) rfl
theorem LC.o_3 (h : LC sd T R) : ok T 200 3 102 := h.tk (by decide) (by decide) rfl
theorem LC.l_3 (h : LC sd T R) : (T 3).2 = 60 := (h.len (by decide) (by decide)).trans rfl
theorem LC.o_128 (h : LC sd T R) : ok T 200 128 8 := h.tk (by decide) (by decide) rfl
theorem LC.o_129 (h : LC sd T R) : ok T 200 129 6 := h.tk (by decide) (by decide) rfl
theorem LC.o_130 (h : LC sd T R) : ok T 200 130 100 := h.tk (by decide) (by decide) rfl
theorem LC.l_130 (h : LC sd T R) : (T 130).2 = 8 := (h.len (by decide) (by decide)).trans rfl
theorem LC.o_131 (h : LC sd T R) : ok T 200 131 104 := h.tk (by decide) (by decide) rfl
theorem LC.l_131 (h : LC sd T R) : (T 131).2 = 4 := (h.len (by decide) (by decide)).trans rfl
theorem LC.o_132 (h : LC sd T R) : ok T 200 132 100 := h.tk (by decide) (by decide) rfl
theorem LC.l_132 (h : LC sd T R) : (T 132).2 = 4 := (h.len (by decide) (by decide)).trans rfl
theorem LC.o_133 (h : LC sd T R) : ok T 200 133 100 := h.tk (by decide) (by decide) rfl
theorem LC.l_133 (h : LC sd T R) : (T 133).2 = 60 := (h.len (by decide) (by decide)).trans rfl
theorem LC.o_134 (h : LC sd T R) : ok T 200 134 2 := h.tk (by decide) (by decide) rfl
theorem LC.o_135 (h : LC sd T R) : ok T 200 135 103 := h.tk (by decide) (by decide) rfl
theorem LC.l_135 (h : LC sd T R) : (T 135).2 = 1 := (h.len (by decide) (by decide)).trans rfl
theorem LC.o_136 (h : LC sd T R) : ok T 200 136 1 := h.tk (by decide) (by decide) rfl
theorem LC.o_137 (h : LC sd T R) : ok T 200 137 100 := h.tk (by decide) (by decide) rfl
theorem LC.l_137 (h : LC sd T R) : (T 137).2 = 24 := (h.len (by decide) (by decide)).trans rfl
theorem LC.o_138 (h : LC sd T R) : ok T 200 138 100 := h.tk (by decide) (by decide) rfl
theorem LC.l_138 (h : LC sd T R) : (T 138).2 = 7 := (h.len (by decide) (by decide)).trans rfl
theorem LC.o_139 (h : LC sd T R) : ok T 200 139 5 := h.tk (by decide) (by decide) rfl
theorem LC.o_140 (h : LC sd T R) : ok T 200 140 5 := h.tk (by decide) (by decide) rfl
theorem LC.o_141 (h : LC sd T R) : ok T 200 141 5 := h.tk (by decide) (by decide) rfl
theorem LC.o_142 (h : LC sd T R) : ok T 200 142 5 := h.tk (by decide) (by decide) rfl
theorem LC.o_143 (h : LC sd T R) : ok T 200 143 0 := h.tk (by decide) (by decide) rfl
theorem LC.o_144 (h : LC sd T R) : ok T 200 144 100 := h.tk (by decide) (by decide) rfl
theorem LC.l_144 (h : LC sd T R) : (T 144).2 = 8 := (h.len (by decide) (by decide)).trans rfl
theorem LC.o_145 (h : LC sd T R) : ok T 200 145 0 := h.tk (by decide) (by decide) rfl
theorem LC.o_146 (h : LC sd T R) : ok T 200 146 100 := h.tk (by decide) (by decide) rfl
theorem LC.l_146 (h : LC sd T R) : (T 146).2 = 8 := (h.len (by decide) (by decide)).trans rfl
theorem LC.o_147 (h : LC sd T R) : ok T 200 147 0 := h.tk (by decide) (by decide) rfl
theorem LC.o_148 (h : LC sd T R) : ok T 200 148 100 := h.tk (by decide) (by decide) rfl
theorem LC.l_148 (h : LC sd T R) : (T 148).2 = 4 := (h.len (by decide) (by decide)).trans rfl
theorem LC.o_149 (h : LC sd T R) : ok T 200 149 7 := h.tk (by decide) (by decide) rfl
theorem LC.o_150 (h : LC sd T R) : ok T 200 150 100 := h.tk (by decide) (by decide) rfl
theorem LC.l_150 (h : LC sd T R) : (T 150).2 = 6 := (h.len (by decide) (by decide)).trans rfl
theorem LC.o_151 (h : LC sd T R) : ok T 200 151 100 := h.tk (by decide) (by decide) rfl
theorem LC.l_151 (h : LC sd T R) : (T 151).2 = 14 + plS sd := (h.len (by decide) (by decide)).trans rfl
theorem LC.o_152 (h : LC sd T R) : ok T 200 152 9 := h.tk (by decide) (by decide) rfl
theorem LC.o_153 (h : LC sd T R) : ok T 200 153 6 := h.tk (by decide) (by decide) rfl
theorem LC.o_154 (h : LC sd T R) : ok T 200 154 100 := h.tk (by decide) (by decide) rfl
theorem LC.l_154 (h : LC sd T R) : (T 154).2 = 8 := (h.len (by decide) (by decide)).trans rfl
theorem LC.o_155 (h : LC sd T R) : ok T 200 155 104 := h.tk (by decide) (by decide) rfl
theorem LC.l_155 (h : LC sd T R) : (T 155).2 = 4 := (h.len (by decide) (by decide)).trans rfl
theorem LC.o_156 (h : LC sd T R) : ok T 200 156 100 := h.tk (by decide) (by decide) rfl
theorem LC.l_156 (h : LC sd T R) : (T 156).2 = 4 := (h.len (by decide) (by decide)).trans rfl
theorem LC.o_157 (h : LC sd T R) : ok T 200 157 100 := h.tk (by decide) (by decide) rfl
theorem LC.l_157 (h : LC sd T R) : (T 157).2 = 60 := (h.len (by decide) (by decide)).trans rfl
theorem LC.o_158 (h : LC sd T R) : ok T 200 158 2 := h.tk (by decide) (by decide) rfl
theorem LC.o_159 (h : LC sd T R) : ok T 200 159 103 := h.tk (by decide) (by decide) rfl
theorem LC.l_159 (h : LC sd T R) : (T 159).2 = 9 := (h.len (by decide) (by decide)).trans rfl
theorem LC.o_187 (h : LC sd T R) : ok T 200 187 5 := h.tk (by decide) (by decide) rfl
theorem LC.o_188 (h : LC sd T R) : ok T 200 188 5 := h.tk (by decide) (by decide) rfl
theorem LC.o_189 (h : LC sd T R) : ok T 200 189 5 := h.tk (by decide) (by decide) rfl
theorem LC.o_190 (h : LC sd T R) : ok T 200 190 5 := h.tk (by decide) (by decide) rfl
theorem LC.o_191 (h : LC sd T R) : ok T 200 191 0 := h.tk (by decide) (by decide) rfl
theorem LC.o_192 (h : LC sd T R) : ok T 200 192 100 := h.tk (by decide) (by decide) rfl
theorem LC.l_192 (h : LC sd T R) : (T 192).2 = 4 := (h.len (by decide) (by decide)).trans rfl
theorem LC.o_193 (h : LC sd T R) : ok T 200 193 0 := h.tk (by decide) (by decide) rfl
theorem LC.o_194 (h : LC sd T R) : ok T 200 194 100 := h.tk (by decide) (by decide) rfl
theorem LC.l_194 (h : LC sd T R) : (T 194).2 = 4 := (h.len (by decide) (by decide)).trans rfl
theorem LC.o_195 (h : LC sd T R) : ok T 200 195 0 := h.tk (by decide) (by decide) rfl
theorem LC.o_196 (h : LC sd T R) : ok T 200 196 100 := h.tk (by decide) (by decide) rfl
theorem LC.l_196 (h : LC sd T R) : (T 196).2 = 6 := (h.len (by decide) (by decide)).trans rfl
theorem LC.o_197 (h : LC sd T R) : ok T 200 197 0 := h.tk (by decide) (by decide) rfl
theorem LC.o_198 (h : LC sd T R) : ok T 200 198 100 := h.tk (by decide) (by decide) rfl
theorem LC.l_198 (h : LC sd T R) : (T 198).2 = 4 := (h.len (by decide) (by decide)).trans rfl
theorem LC.o_199 (h : LC sd T R) : ok T 200 199 0 := h.tk (by decide) (by decide) rfl
theorem LC.o_200 (h : LC sd T R) : ok T 200 200 100 := h.tk (by decide) (by decide) rfl
theorem LC.l_200 (h : LC sd T R) : (T 200).2 = plS sd := (h.len (by decide) (by decide)).trans rfl
theorem LM.r_11 (h : LM T2 R2) : R2 1 11 = 2 := h.2 11 (by decide) (by decide)
theorem LM.r_12 (h : LM T2 R2) : R2 1 12 = 3 := h.2 12 (by decide) (by decide)
theorem LM.r_13 (h : LM T2 R2) : R2 1 13 = 4 := h.2 13 (by decide) (by decide)
theorem LM.r_14 (h : LM T2 R2) : R2 1 14 = 5 := h.2 14 (by decide) (by decide)
theorem LM.r_15 (h : LM T2 R2) : R2 1 15 = 6 := h.2 15 (by decide) (by decide)
theorem LM.r_16 (h : LM T2 R2) : R2 1 16 = 7 := h.2 16 (by decide) (by decide)
theorem LM.r_17 (h : LM T2 R2) : R2 1 17 = 8 := h.2 17 (by decide) (by decide)
theorem LM.r_18 (h : LM T2 R2) : R2 1 18 = 9 := h.2 18 (by decide) (by decide)
theorem LM.r_19 (h : LM T2 R2) : R2 1 19 = 10 := h.2 19 (by decide) (by decide)
theorem LM.r_20 (h : LM T2 R2) : R2 1 20 = 11 := h.2 20 (by decide) (by decide)
theorem LM.r_21 (h : LM T2 R2) : R2 1 21 = 12 := h.2 21 (by decide) (by decide)
theorem LM.r_22 (h : LM T2 R2) : R2 1 22 = 13 := h.2 22 (by decide) (by decide)
theorem LM.r_23 (h : LM T2 R2) : R2 1 23 = 14 := h.2 23 (by decide) (by decide)
theorem LM.r_24 (h : LM T2 R2) : R2 1 24 = 15 := h.2 24 (by decide) (by decide)
theorem LM.r_25 (h : LM T2 R2) : R2 1 25 = 16 := h.2 25 (by decide) (by decide)
theorem LM.r_26 (h : LM T2 R2) : R2 1 26 = 17 := h.2 26 (by decide) (by decide)
theorem LM.r_27 (h : LM T2 R2) : R2 1 27 = 18 := h.2 27 (by decide) (by decide)
theorem LM.r_28 (h : LM T2 R2) : R2 1 28 = 19 := h.2 28 (by decide) (by decide)
theorem LM.r_29 (h : LM T2 R2) : R2 1 29 = 20 := h.2 29 (by decide) (by decide)
theorem LM.r_30 (h : LM T2 R2) : R2 1 30 = 21 := h.2 30 (by decide) (by decide)
theorem LM.r_31 (h : LM T2 R2) : R2 1 31 = 22 := h.2 31 (by decide) (by decide)
theorem LM.r_32 (h : LM T2 R2) : R2 1 32 = 23 := h.2 32 (by decide) (by decide)
theorem LM.r_33 (h : LM T2 R2) : R2 1 33 = 24 := h.2 33 (by decide) (by decide)
theorem LM.r_34 (h : LM T2 R2) : R2 1 34 = 25 := h.2 34 (by decide) (by decide)
theorem LM.r_35 (h : LM T2 R2) : R2 1 35 = 26 := h.2 35 (by decide) (by decide)
theorem LM.r_36 (h : LM T2 R2) : R2 1 36 = 27 := h.2 36 (by decide) (by decide)
theorem LM.r_37 (h : LM T2 R2) : R2 1 37 = 28 := h.2 37 (by decide) (by decide)
theorem LM.r_38 (h : LM T2 R2) : R2 1 38 = 29 := h.2 38 (by decide) (by decide)
theorem LM.r_39 (h : LM T2 R2) : R2 1 39 = 30 := h.2 39 (by decide) (by decide)
theorem LM.r_40 (h : LM T2 R2) : R2 1 40 = 31 := h.2 40 (by decide) (by decide)
theorem LM.r_41 (h : LM T2 R2) : R2 1 41 = 32 := h.2 41 (by decide) (by decide)
theorem LM.r_42 (h : LM T2 R2) : R2 1 42 = 33 := h.2 42 (by decide) (by decide)
theorem LM.r_43 (h : LM T2 R2) : R2 1 43 = 34 := h.2 43 (by decide) (by decide)
theorem LM.o_1 (h : LM T2 R2) : ok T2 34 1 11 := ⟨by decide, by decide, by rw [h.1 1 (by decide) (by decide)]; rfl⟩
theorem LM.o_2 (h : LM T2 R2) : ok T2 34 2 100 := ⟨by decide, by decide, by rw [h.1 2 (by decide) (by decide)]; rfl⟩
theorem LM.l_2 (h : LM T2 R2) : (T2 2).2 = 60 := by rw [h.1 2 (by decide) (by decide)]; rfl
theorem LM.o_3 (h : LM T2 R2) : ok T2 34 3 100 := ⟨by decide, by decide, by rw [h.1 3 (by decide) (by decide)]; rfl⟩
theorem LM.l_3 (h : LM T2 R2) : (T2 3).2 = 60 := by rw [h.1 3 (by decide) (by decide)]; rfl
theorem LM.o_4 (h : LM T2 R2) : ok T2 34 4 100 := ⟨by decide, by decide, by rw [h.1 4 (by decide) (by decide)]; rfl⟩
theorem LM.l_4 (h : LM T2 R2) : (T2 4).2 = 60 := by rw [h.1 4 (by decide) (by decide)]; rfl
theorem LM.o_5 (h : LM T2 R2) : ok T2 34 5 100 := ⟨by decide, by decide, by rw [h.1 5 (by decide) (by decide)]; rfl⟩
theorem LM.l_5 (h : LM T2 R2) : (T2 5).2 = 60 := by rw [h.1 5 (by decide) (by decide)]; rfl
theorem LM.o_6 (h : LM T2 R2) : ok T2 34 6 101 := ⟨by decide, by decide, by rw [h.1 6 (by decide) (by decide)]; rfl⟩
theorem LM.l_6 (h : LM T2 R2) : (T2 6).2 = 60 := by rw [h.1 6 (by decide) (by decide)]; rfl
theorem LM.o_7 (h : LM T2 R2) : ok T2 34 7 100 := ⟨by decide, by decide, by rw [h.1 7 (by decide) (by decide)]; rfl⟩
theorem LM.l_7 (h : LM T2 R2) : (T2 7).2 = 60 := by rw [h.1 7 (by decide) (by decide)]; rfl
theorem LM.o_8 (h : LM T2 R2) : ok T2 34 8 100 := ⟨by decide, by decide, by rw [h.1 8 (by decide) (by decide)]; rfl⟩
theorem LM.l_8 (h : LM T2 R2) : (T2 8).2 = 60 := by rw [h.1 8 (by decide) (by decide)]; rfl
theorem LM.o_9 (h : LM T2 R2) : ok T2 34 9 100 := ⟨by decide, by decide, by rw [h.1 9 (by decide) (by decide)]; rfl⟩
theorem LM.l_9 (h : LM T2 R2) : (T2 9).2 = 60 := by rw [h.1 9 (by decide) (by decide)]; rfl
theorem LM.o_10 (h : LM T2 R2) : ok T2 34 10 100 := ⟨by decide, by decide, by rw [h.1 10 (by decide) (by decide)]; rfl⟩
theorem LM.l_10 (h : LM T2 R2) : (T2 10).2 = 480 := by rw [h.1 10 (by decide) (by decide)]; rfl
theorem LM.o_11 (h : LM T2 R2) : ok T2 34 11 100 := ⟨by decide, by decide, by rw [h.1 11 (by decide) (by decide)]; rfl⟩
theorem LM.l_11 (h : LM T2 R2) : (T2 11).2 = 480 := by rw [h.1 11 (by decide) (by decide)]; rfl
theorem LM.o_12 (h : LM T2 R2) : ok T2 34 12 100 := ⟨by decide, by decide, by rw [h.1 12 (by decide) (by decide)]; rfl⟩
theorem LM.l_12 (h : LM T2 R2) : (T2 12).2 = 2 := by rw [h.1 12 (by decide) (by decide)]; rfl
theorem LM.o_13 (h : LM T2 R2) : ok T2 34 13 100 := ⟨by decide, by decide, by rw [h.1 13 (by decide) (by decide)]; rfl⟩
theorem LM.l_13 (h : LM T2 R2) : (T2 13).2 = 2 := by rw [h.1 13 (by decide) (by decide)]; rfl
theorem LM.o_14 (h : LM T2 R2) : ok T2 34 14 100 := ⟨by decide, by decide, by rw [h.1 14 (by decide) (by decide)]; rfl⟩
theorem LM.l_14 (h : LM T2 R2) : (T2 14).2 = 8 := by rw [h.1 14 (by decide) (by decide)]; rfl
theorem LM.o_15 (h : LM T2 R2) : ok T2 34 15 100 := ⟨by decide, by decide, by rw [h.1 15 (by decide) (by decide)]; rfl⟩
theorem LM.l_15 (h : LM T2 R2) : (T2 15).2 = 8 := by rw [h.1 15 (by decide) (by decide)]; rfl
theorem LM.o_16 (h : LM T2 R2) : ok T2 34 16 100 := ⟨by decide, by decide, by rw [h.1 16 (by decide) (by decide)]; rfl⟩
theorem LM.l_16 (h : LM T2 R2) : (T2 16).2 = 128 := by rw [h.1 16 (by decide) (by decide)]; rfl
theorem LM.o_17 (h : LM T2 R2) : ok T2 34 17 100 := ⟨by decide, by decide, by rw [h.1 17 (by decide) (by decide)]; rfl⟩
theorem LM.l_17 (h : LM T2 R2) : (T2 17).2 = 2 := by rw [h.1 17 (by decide) (by decide)]; rfl
theorem LM.o_18 (h : LM T2 R2) : ok T2 34 18 100 := ⟨by decide, by decide, by rw [h.1 18 (by decide) (by decide)]; rfl⟩
theorem LM.l_18 (h : LM T2 R2) : (T2 18).2 = 16 := by rw [h.1 18 (by decide) (by decide)]; rfl
theorem LM.o_19 (h : LM T2 R2) : ok T2 34 19 100 := ⟨by decide, by decide, by rw [h.1 19 (by decide) (by decide)]; rfl⟩
theorem LM.l_19 (h : LM T2 R2) : (T2 19).2 = 16 := by rw [h.1 19 (by decide) (by decide)]; rfl
theorem LM.o_20 (h : LM T2 R2) : ok T2 34 20 100 := ⟨by decide, by decide, by rw [h.1 20 (by decide) (by decide)]; rfl⟩
theorem LM.l_20 (h : LM T2 R2) : (T2 20).2 = 2 := by rw [h.1 20 (by decide) (by decide)]; rfl
theorem LM.o_21 (h : LM T2 R2) : ok T2 34 21 100 := ⟨by decide, by decide, by rw [h.1 21 (by decide) (by decide)]; rfl⟩
theorem LM.l_21 (h : LM T2 R2) : (T2 21).2 = 2 := by rw [h.1 21 (by decide) (by decide)]; rfl
theorem LM.o_22 (h : LM T2 R2) : ok T2 34 22 100 := ⟨by decide, by decide, by rw [h.1 22 (by decide) (by decide)]; rfl⟩
theorem LM.l_22 (h : LM T2 R2) : (T2 22).2 = 24 := by rw [h.1 22 (by decide) (by decide)]; rfl
theorem LM.o_23 (h : LM T2 R2) : ok T2 34 23 100 := ⟨by decide, by decide, by rw [h.1 23 (by decide) (by decide)]; rfl⟩
theorem LM.l_23 (h : LM T2 R2) : (T2 23).2 = 24 := by rw [h.1 23 (by decide) (by decide)]; rfl
theorem LM.o_24 (h : LM T2 R2) : ok T2 34 24 101 := ⟨by decide, by decide, by rw [h.1 24 (by decide) (by decide)]; rfl⟩
theorem LM.l_24 (h : LM T2 R2) : (T2 24).2 = 24 := by rw [h.1 24 (by decide) (by decide)]; rfl
theorem LM.o_25 (h : LM T2 R2) : ok T2 34 25 100 := ⟨by decide, by decide, by rw [h.1 25 (by decide) (by decide)]; rfl⟩
theorem LM.l_25 (h : LM T2 R2) : (T2 25).2 = 2 := by rw [h.1 25 (by decide) (by decide)]; rfl
theorem LM.o_26 (h : LM T2 R2) : ok T2 34 26 100 := ⟨by decide, by decide, by rw [h.1 26 (by decide) (by decide)]; rfl⟩
theorem LM.l_26 (h : LM T2 R2) : (T2 26).2 = 160 := by rw [h.1 26 (by decide) (by decide)]; rfl
theorem LM.o_27 (h : LM T2 R2) : ok T2 34 27 100 := ⟨by decide, by decide, by rw [h.1 27 (by decide) (by decide)]; rfl⟩
theorem LM.l_27 (h : LM T2 R2) : (T2 27).2 = 160 := by rw [h.1 27 (by decide) (by decide)]; rfl
theorem LM.o_28 (h : LM T2 R2) : ok T2 34 28 100 := ⟨by decide, by decide, by rw [h.1 28 (by decide) (by decide)]; rfl⟩
theorem LM.l_28 (h : LM T2 R2) : (T2 28).2 = 160 := by rw [h.1 28 (by decide) (by decide)]; rfl
theorem LM.o_29 (h : LM T2 R2) : ok T2 34 29 100 := ⟨by decide, by decide, by rw [h.1 29 (by decide) (by decide)]; rfl⟩
theorem LM.l_29 (h : LM T2 R2) : (T2 29).2 = 2 := by rw [h.1 29 (by decide) (by decide)]; rfl
theorem LM.o_30 (h : LM T2 R2) : ok T2 34 30 100 := ⟨by decide, by decide, by rw [h.1 30 (by decide) (by decide)]; rfl⟩
theorem LM.l_30 (h : LM T2 R2) : (T2 30).2 = 2 := by rw [h.1 30 (by decide) (by decide)]; rfl
theorem LM.o_31 (h : LM T2 R2) : ok T2 34 31 100 := ⟨by decide, by decide, by rw [h.1 31 (by decide) (by decide)]; rfl⟩
theorem LM.l_31 (h : LM T2 R2) : (T2 31).2 = 2 := by rw [h.1 31 (by decide) (by decide)]; rfl
theorem LM.o_32 (h : LM T2 R2) : ok T2 34 32 101 := ⟨by decide, by decide, by rw [h.1 32 (by decide) (by decide)]; rfl⟩
theorem LM.l_32 (h : LM T2 R2) : (T2 32).2 = 192 := by rw [h.1 32 (by decide) (by decide)]; rfl
theorem LM.o_33 (h : LM T2 R2) : ok T2 34 33 100 := ⟨by decide, by decide, by rw [h.1 33 (by decide) (by decide)]; rfl⟩
theorem LM.l_33 (h : LM T2 R2) : (T2 33).2 = 120 := by rw [h.1 33 (by decide) (by decide)]; rfl
theorem LM.o_34 (h : LM T2 R2) : ok T2 34 34 100 := ⟨by decide, by decide, by rw [h.1 34 (by decide) (by decide)]; rfl⟩
theorem LM.l_34 (h : LM T2 R2) : (T2 34).2 = 2 := by rw [h.1 34 (by decide) (by decide)]; rfl
end LY
