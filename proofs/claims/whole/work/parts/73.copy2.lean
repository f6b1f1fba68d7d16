section AD
variable {sd : Int32} {c c' mt k m : Nat} {T T2 : mT} {R R2 : mR} {M M' M2 M2' : mM}
/-- a record more, behind all others -/
theorem NetRel.add (h : NetRel sd c R (nw M) (nv M2)) (hc : c ≤ c') (hm : m < 60) (e1 : M 2 3 = nI m) (hM : ∀ a, 2 < a → a < 128 → a ≠ R 3 m → a ≠ R 3 m + 1 → M' a = M a) (h3 : M' 2 3 = nI (m + 1)) (h4 : M' 2 4 = M 2 4) (hv8 : M2' 1 8 = nI (m + 1)) (hv9 : M2' 1 9 = M2 1 9) (hV : ∀ a, 2 ≤ a → a ≤ 9 → ∀ i, i < m → M2' a i = M2 a i) (hV2 : ∀ a, a = 10 ∨ a = 11 → ∀ q, q < 8 * m → M2' a q = M2 a q) (hr : recR sd c' (nw M') (nv M2') (R 3 m) m) : NetRel sd c' R (nw M') (nv M2') := by
  obtain ⟨hro, hl, m', hm', hu, hv, hrec⟩ := h
  have : m' = m := by
    rw [nw_at (by decide)] at hu
    exact (nI_eq (by omega) (by omega)).mp (hu.symm.trans e1)
  subst this
  rw [nw_at (by decide), nv_at (by decide)] at hl
  refine ⟨hro, ?_, m' + 1, by omega, ?_, ?_, fun i hi => ?_⟩
  · rw [nw_at (by decide), nv_at (by decide), h4, hv9]; exact hl
  · rw [nw_at (by decide)]; exact h3
  · rw [nv_at (by decide)]; exact hv8
  · by_cases q : i = m'
    · subst q; exact hr
    · have hi' : i < m' := by omega
      obtain ⟨⟨d1, d2, d3⟩, d4⟩ := hro.1 i (by omega)
      obtain ⟨⟨b1, b2, b3⟩, b4⟩ := hro.1 m' hm
      have hne : R 3 i ≠ R 3 m' := fun q2 => q (hro.2.2.1 i m' (by omega) hm q2)
      refine recR_mono hc (recR_congr (hrec i hi') (fun j => ?_) ?_ (fun a ha hb => ?_) (fun j hj => ?_) (fun j hj => ?_))
      · rw [nw_at ⟨by omega, by omega⟩, nw_at ⟨by omega, by omega⟩, hM _ (by omega) (by omega) hne (by omega)]
      · funext j; rw [nw_at ⟨by omega, by omega⟩, nw_at ⟨by omega, by omega⟩, hM _ (by omega) (by omega) (by omega) (by omega)]
      · rw [nv_at (Or.inr ⟨ha, by omega⟩), nv_at (Or.inr ⟨ha, by omega⟩), hV a ha hb i hi']
      · rw [nv_at (Or.inr ⟨by decide, by decide⟩), nv_at (Or.inr ⟨by decide, by decide⟩), hV2 10 (Or.inl rfl) _ (by omega)]
      · rw [nv_at (Or.inr ⟨by decide, by decide⟩), nv_at (Or.inr ⟨by decide, by decide⟩), hV2 11 (Or.inr rfl) _ (by omega)]
end AD
theorem sim_copy : ∀ (c : Nat) (T : mT) (R : mR) (M : mM) (T2 : mT) (R2 : mR) (M2 : mM) (u1 : Int32), c < 512 → Sim c T R M T2 R2 M2 → w_X_copy 200 T R M 1 u1 (fun r M' => w_Mo_copy 34 T2 R2 M2 1 u1 (fun r2 M2' => r = r2 ∧ Sim (c + 1) T R M' T2 R2 M2')) := by
  intro c T R M T2 R2 M2 u1 hc h
  have hn := h.next hc
  obtain ⟨h0, sd, mt, k, hk, hL, hM, hP⟩ := h
  obtain ⟨m, hm, e1, e2, e3, hrow, hrec⟩ := cnt_eq hP
  refine ⟨hL.o_1, ?_⟩
  simp only [hL.r_1_0, hL.r_1_1, hL.r_1_2, hL.r_2_0, hL.r_2_2, hL.r_128_2, hL.r_128_3, hL.r_128_4, hL.r_128_5, hL.r_128_6, hL.r_128_7, hL.r_128_15, hL.r_128_16, hL.r_128_17, hL.r_128_18, hL.r_129_0, hL.r_131_0, hL.r_131_1, hL.r_131_2, hL.r_131_3, hL.r_134_0, hL.r_135_0, hL.r_136_0, hL.r_136_1, hL.r_143_2, hL.r_145_2, hL.r_147_2, hL.r_149_0, hL.r_149_1, hL.r_152_2, hL.r_152_3, hL.r_152_4, hL.r_152_5, hL.r_152_6, hL.r_152_7, hL.r_152_15, hL.r_152_16, hL.r_152_17, hL.r_152_18, hL.r_152_19, hL.r_153_0, hL.r_155_0, hL.r_155_1, hL.r_155_2, hL.r_155_3, hL.r_158_0, hL.r_191_2, hL.r_193_2, hL.r_195_2, hL.r_197_2, hL.r_199_2, hL.l_3, hL.l_130, hL.l_131, hL.l_132, hL.l_133, hL.l_135, hL.l_137, hL.l_138, hL.l_144, hL.l_146, hL.l_148, hL.l_150, hL.l_151, hL.l_154, hL.l_155, hL.l_156, hL.l_157, hL.l_159, hL.l_192, hL.l_194, hL.l_196, hL.l_198, hL.l_200]
  refine ⟨hL.o_2, has_w hm hL.o_2 e1 (fun hno => ⟨fun _ => ⟨hM.ok1, isrec_w hm hM e2 (fun _ => ⟨fun _ => ⟨rfl, hn⟩, fun q => absurd rfl q⟩) (fun i hi hu => absurd ⟨i, hi, hu⟩ hno)⟩, fun q => absurd rfl q⟩) (fun i hi hu => ⟨fun q => absurd q (by decide), fun _ => ⟨hL.o_2, ?_⟩⟩)⟩
  subst hu
  simp only [hL.r_1_0, hL.r_1_1, hL.r_1_2, hL.r_2_0, hL.r_2_2, hL.r_128_2, hL.r_128_3, hL.r_128_4, hL.r_128_5, hL.r_128_6, hL.r_128_7, hL.r_128_15, hL.r_128_16, hL.r_128_17, hL.r_128_18, hL.r_129_0, hL.r_131_0, hL.r_131_1, hL.r_131_2, hL.r_131_3, hL.r_134_0, hL.r_135_0, hL.r_136_0, hL.r_136_1, hL.r_143_2, hL.r_145_2, hL.r_147_2, hL.r_149_0, hL.r_149_1, hL.r_152_2, hL.r_152_3, hL.r_152_4, hL.r_152_5, hL.r_152_6, hL.r_152_7, hL.r_152_15, hL.r_152_16, hL.r_152_17, hL.r_152_18, hL.r_152_19, hL.r_153_0, hL.r_155_0, hL.r_155_1, hL.r_155_2, hL.r_155_3, hL.r_158_0, hL.r_191_2, hL.r_193_2, hL.r_195_2, hL.r_197_2, hL.r_199_2, hL.l_3, hL.l_130, hL.l_131, hL.l_132, hL.l_133, hL.l_135, hL.l_137, hL.l_138, hL.l_144, hL.l_146, hL.l_148, hL.l_150, hL.l_151, hL.l_154, hL.l_155, hL.l_156, hL.l_157, hL.l_159, hL.l_192, hL.l_194, hL.l_196, hL.l_198, hL.l_200]
  have hi60 : i < 60 := by omega
  obtain ⟨a0, a1, a2, a3, a4⟩ := row_ok hL hrow hi60
  rw [e1]
  refine ⟨hL.o_3, fun hlt => ?_, fun hge => ?_⟩
  · have hm60 : m < 60 := (nI_ltI (by omega) (by decide)).mp hlt
    obtain ⟨b0, b1, b2, b3, b4⟩ := row_ok hL hrow hm60
    rw [nI_clamp (by omega), nI_clamp (by omega)]
    obtain ⟨⟨d1, d2, d3, d4, d5⟩, d6, d7, d8, d9⟩ := rec_at (U := M) (V := M) a0 (hrec i hi)
    obtain ⟨z, hz24, hz⟩ := rec_len (hrec i hi)
    obtain ⟨x1, x2, x3⟩ := a0
    obtain ⟨y1, y2, y3⟩ := b0
    rw [nw_at ⟨by omega, by omega⟩] at hz
    have hne : R 3 m ≠ R 3 i := fun q => by have := hrow.2.2.1 m i hm60 hi60 q; omega
    refine ⟨vp_in_nI hm60 (by decide), b1, vp_in_nI hi60 (by decide), a1, wc_like hL ⟨y1, y2, y3⟩ ⟨x1, x2, x3⟩ hne hz hz24 (by rw [d5]; exact d7) (fun M' g1 g2 g3 => ?_)⟩
    intro M7 e7
    have c23 : M' 2 3 = nI m := by rw [g3 2 (by omega) (by omega)]; exact e1
    rw [c23, nI_1] at e7
    refine ⟨fun q => absurd q (by decide), fun _ => ⟨hM.ok1, isrec_w hm hM e2 (fun hno => absurd ⟨i, hi, rfl⟩ hno) (fun i' _ _ => ⟨fun q => absurd q (by decide), fun _ => ⟨fun q => ?_, fun _ => ?_⟩⟩)⟩⟩
    · rw [e2] at q
      have := (nI_eq (a := m) (b := 60) (by omega) (by decide)).mp q
      omega
    · rw [e2]
      refine wm_copyTo hM (by omega) hi60 hm60 (sp_all hP hm e2 i hi) (fun M4 e4 => ?_)
      have c18 : cpT M2 i m 1 8 = nI m := by simp only [cpT]; rw [if_neg (by omega), if_neg (by omega)]; exact e2
      rw [c18, nI_1] at e4
      refine ⟨rfl, by omega, sd, mt, k, by omega, hL, hM, ?_⟩
      subst e7; subst e4
      refine (hP.mono (c' := 16 * (c + 1)) (by omega) (by omega)).net (fun a ha => ?_) (fun a ha => ?_) (fun j h8 h9 h10 => ?_) ?_
      · rw [sM_k a (by omega), g3 a (by omega) (by omega)]
      · rw [sM_k a (by omega)]; funext j; simp only [cpT]; rw [if_neg (by omega), if_neg (by omega)]
      · rw [sM_j j h8]; simp only [cpT]; rw [if_neg (by omega), if_neg (by omega)]
      · refine hP.2.2.2.1.add (m := m) (by omega) hm60 e1 (fun a ha hb hc1 hc2 => ?_) (sM_e) ?_ (sM_e) ?_ (fun a ha hb j hj => ?_) (fun a ha q hq => ?_) ?_
        · rw [sM_k a (by omega), g3 a hc1 hc2]
        · rw [sM_j 4 (by decide), g3 2 (by omega) (by omega)]
        · rw [sM_j 9 (by decide)]; simp only [cpT]; rw [if_neg (by omega), if_neg (by omega)]
        · rw [sM_k a (by omega)]; simp only [cpT]; rw [if_neg (by omega), if_neg (by omega)]
        · rw [sM_k a (by omega)]; simp only [cpT]; rw [if_neg (by omega), if_neg (by omega)]
        · refine recR_mono (c := 16 * c) (by omega) (recR_copy (hrec i hi) (z := z) (by rw [nw_at ⟨by omega, by omega⟩]; exact hz) hz24 (fun j h1 h8 => ?_) (fun j hj => ?_) (fun a ha hb => ?_) (fun j hj => ?_) (fun j hj => ?_))
          · rw [nw_at ⟨by omega, by omega⟩, nw_at ⟨by omega, by omega⟩, sM_k _ (by omega), g1 j h1 h8]
          · rw [nw_at ⟨by omega, by omega⟩, nw_at ⟨by omega, by omega⟩, sM_k _ (by omega), g2 j hj]
          · rw [nv_at (Or.inr ⟨ha, by omega⟩), nv_at (Or.inr ⟨ha, by omega⟩), sM_k a (by omega)]
            simp only [cpT]; rw [if_pos ⟨ha, hb, trivial⟩]
          · rw [nv_at (Or.inr ⟨by decide, by decide⟩), nv_at (Or.inr ⟨by decide, by decide⟩), sM_k 10 (by decide)]
            show cpT M2 i m 10 (8 * m + j) = _
            unfold cpT; rw [if_neg (by omega), if_pos ⟨Or.inl rfl, by omega, by omega⟩]; congr 1; omega
          · rw [nv_at (Or.inr ⟨by decide, by decide⟩), nv_at (Or.inr ⟨by decide, by decide⟩), sM_k 11 (by decide)]
            show cpT M2 i m 11 (8 * m + j) = _
            unfold cpT; rw [if_neg (by omega), if_pos ⟨Or.inr rfl, by omega, by omega⟩]; congr 1; omega
  · have hm60 : m = 60 := by
      have : ¬ m < 60 := fun q => hge (nI_lt q (by decide))
      omega
    refine ⟨fun _ => ⟨hM.ok1, isrec_w hm hM e2 (fun hno => absurd ⟨i, hi, rfl⟩ hno) (fun i' _ _ => ⟨fun q => absurd q (by decide), fun _ => ⟨fun _ => ⟨rfl, hn⟩, fun q => absurd (by rw [e2, hm60]; rfl) q⟩⟩)⟩, fun q => absurd trivial q⟩
