/-! record, content, byteOf; state, received, value -/
section OB2
variable {sd : Int32} {c : Nat} {T : mT} {R : mR} {M : mM} {T2 : mT} {R2 : mR} {M2 : mM}
theorem row_ok {i : Nat} (hL : LC sd T R) (hr : rowsOK R) (hi : i < 60) : isRec (R 3 i) ∧ ok T 200 (R 3 i) 3 ∧ R (R 3 i) 0 = R 3 i + 1 ∧ ok T 200 (R 3 i + 1) 100 ∧ (T (R 3 i + 1)).2 = 24 := by
  have h := (hr.1 i hi).1
  exact ⟨h, hL.rec h⟩
theorem rec_at {U V : mM} {r i : Nat} (hr : isRec r) (h : recR sd c (nw M) (nv M2) r i) :
    (M r 2 = M2 2 i ∧ M r 3 = M2 3 i ∧ M r 4 = M2 4 i ∧ M r 5 = M2 5 i ∧ M r 8 = M2 6 i) ∧ (M2 2 i = 0 ∨ M2 2 i = 1) ∧ (M2 6 i = 0 ∨ M2 6 i = 1) ∧ (∃ a : Nat, a ≤ c ∧ M2 5 i = nI a) ∧
    bodyR sd c (M2 2 i) (M2 3 i) (M2 4 i) (M2 7 i) (M2 8 i) (M2 9 i) (fun j => M2 10 (8 * i + j)) (fun j => M2 11 (8 * i + j)) (M r 6) (M r 7) (M r 1) (M (r + 1)) := by
  obtain ⟨h1, h2, h3⟩ := hr
  have e : ∀ j, nw M r j = M r j := fun j => nw_at ⟨by omega, by omega⟩
  have e1 : nw M (r + 1) = M (r + 1) := by funext j; exact nw_at ⟨by omega, by omega⟩
  have v : ∀ a, 2 ≤ a → a ≤ 11 → ∀ j, nv M2 a j = M2 a j := fun a h1 h2 j => nv_at (Or.inr ⟨h1, h2⟩)
  unfold recR at h
  simp only [e, e1, v 2 (by decide) (by decide), v 3 (by decide) (by decide), v 4 (by decide) (by decide), v 5 (by decide) (by decide), v 6 (by decide) (by decide), v 7 (by decide) (by decide), v 8 (by decide) (by decide), v 9 (by decide) (by decide), v 10 (by decide) (by decide), v 11 (by decide) (by decide)] at h
  exact h
theorem sim_record : ∀ (c : Nat) (T : mT) (R : mR) (M : mM) (T2 : mT) (R2 : mR) (M2 : mM) (u1 : Int32), c < 512 → Sim c T R M T2 R2 M2 → w_X_record 200 T R M 1 u1 (fun r  => w_Mo_record 34 T2 R2 M2 1 u1 (fun r2  => r = r2 ∧ Sim (c + 1) T R M T2 R2 M2)) := by
  intro c T R M T2 R2 M2 u1 hc h
  have hn := h.next hc
  obtain ⟨h0, sd, mt, k, hk, hL, hM, hP⟩ := h
  obtain ⟨m, hm, e1, e2, e3, hrow, hrec⟩ := cnt_eq hP
  refine ⟨hL.o_1, ?_⟩
  simp only [hL.r_1_0, hL.r_1_1, hL.r_1_2, hL.r_2_0, hL.r_2_2, hL.r_128_2, hL.r_128_3, hL.r_128_4, hL.r_128_5, hL.r_128_6, hL.r_128_7, hL.r_128_15, hL.r_128_16, hL.r_128_17, hL.r_128_18, hL.r_129_0, hL.r_131_0, hL.r_131_1, hL.r_131_2, hL.r_131_3, hL.r_134_0, hL.r_135_0, hL.r_136_0, hL.r_136_1, hL.r_143_2, hL.r_145_2, hL.r_147_2, hL.r_149_0, hL.r_149_1, hL.r_152_2, hL.r_152_3, hL.r_152_4, hL.r_152_5, hL.r_152_6, hL.r_152_7, hL.r_152_15, hL.r_152_16, hL.r_152_17, hL.r_152_18, hL.r_152_19, hL.r_153_0, hL.r_155_0, hL.r_155_1, hL.r_155_2, hL.r_155_3, hL.r_158_0, hL.r_191_2, hL.r_193_2, hL.r_195_2, hL.r_197_2, hL.r_199_2, hL.l_3, hL.l_130, hL.l_131, hL.l_132, hL.l_133, hL.l_135, hL.l_137, hL.l_138, hL.l_144, hL.l_146, hL.l_148, hL.l_150, hL.l_151, hL.l_154, hL.l_155, hL.l_156, hL.l_157, hL.l_159, hL.l_192, hL.l_194, hL.l_196, hL.l_198, hL.l_200]
  refine ⟨hL.o_2, has_w hm hL.o_2 e1 (fun hno => ⟨fun _ => ⟨hM.ok1, isrec_w hm hM e2 (fun _ => ⟨fun _ => ⟨rfl, hn⟩, fun q => absurd rfl q⟩) (fun i hi hu => absurd ⟨i, hi, hu⟩ hno)⟩, fun q => absurd rfl q⟩) (fun i hi hu => ⟨fun q => absurd q (by decide), fun _ => ?_⟩)⟩
  subst hu
  have hi60 : i < 60 := by omega
  obtain ⟨a0, a1, a2, a3, a4⟩ := row_ok hL hrow hi60
  rw [nI_clamp (by omega)]
  have hin : vp_in (nI i) 60 := vp_in_nI hi60 (by decide)
  refine ⟨hL.o_3, hin, a1, a1, hM.ok1, isrec_w hm hM e2 (fun hno => absurd ⟨i, hi, rfl⟩ hno) (fun i' _ _ => ⟨fun q => absurd q (by decide), fun _ => ?_⟩)⟩
  simp only [hM.r_11, hM.r_12, hM.r_13, hM.r_14, hM.r_15, hM.r_16, hM.r_17, hM.r_18, hM.r_19, hM.r_20, hM.r_21, hM.r_22, hM.r_23, hM.r_24, hM.r_25, hM.r_26, hM.r_27, hM.r_28, hM.r_29, hM.r_30, hM.r_31, hM.r_32, hM.r_33, hM.r_34, hM.r_35, hM.r_36, hM.r_37, hM.r_38, hM.r_39, hM.r_40, hM.r_41, hM.r_42, hM.r_43, hM.l_2, hM.l_3, hM.l_4, hM.l_5, hM.l_6, hM.l_7, hM.l_8, hM.l_9, hM.l_10, hM.l_11, hM.l_12, hM.l_13, hM.l_14, hM.l_15, hM.l_16, hM.l_17, hM.l_18, hM.l_19, hM.l_20, hM.l_21, hM.l_22, hM.l_23, hM.l_24, hM.l_25, hM.l_26, hM.l_27, hM.l_28, hM.l_29, hM.l_30, hM.l_31, hM.l_32, hM.l_33, hM.l_34]
  rw [nI_clamp (by omega)]
  obtain ⟨⟨b1, b2, b3, b4, b5⟩, -⟩ := rec_at (U := M) (V := M) a0 (hrec i hi)
  exact ⟨hM.o_2, hin, hM.o_3, hin, hM.o_4, hin, hM.o_5, hin, by rw [b1, b2, b3, b4], hn⟩
theorem wm_numberOf {n : Nat} {T : mT} {R : mR} {M : mM} {p : Nat} (hp : p ≤ 7) {Q : Int32 → Prop} (h : Q (nI (noP p))) : w_Mo_numberOf n T R M (nI p) Q := by
  have : ∀ p, p ≤ 7 → (nI p = 2 ↔ p = 2) ∧ (nI p = 7 ↔ p = 7) ∧ ((2 : Int32) ≤ nI p ↔ 2 ≤ p) ∧ (2 ≤ p → nI p - 2 = nI (p - 2)) := by decide +kernel
  obtain ⟨q1, q2, q3, q4⟩ := this p hp
  unfold noP at h
  refine ⟨fun e => ?_, fun e => ⟨fun e2 => ?_, fun e2 => ⟨fun e3 => ?_, fun e3 => ?_⟩⟩⟩
  · rw [if_pos (q1.mp e)] at h; exact h
  · rw [if_neg (fun z => e (q1.mpr z)), if_pos (q2.mp e2)] at h; exact h
  · rw [if_neg (fun z => e (q1.mpr z)), if_neg (fun z => e2 (q2.mpr z)), if_neg (by have := q3.mp e3; omega)] at h
    rw [q4 (q3.mp e3)]; exact h
  · rw [if_neg (fun z => e (q1.mpr z)), if_neg (fun z => e2 (q2.mpr z)), if_pos (Nat.not_le.mp fun z => e3 (q3.mpr z))] at h; exact h
theorem sim_content : ∀ (c : Nat) (T : mT) (R : mR) (M : mM) (T2 : mT) (R2 : mR) (M2 : mM) (u1 : Int32), c < 512 → Sim c T R M T2 R2 M2 → w_X_content 200 T R M 1 u1 (fun r  => w_Mo_content1 34 T2 R2 M2 1 u1 (fun r2  => r = r2 ∧ Sim (c + 1) T R M T2 R2 M2)) := by
  intro c T R M T2 R2 M2 u1 hc h
  have hn := h.next hc
  obtain ⟨h0, sd, mt, k, hk, hL, hM, hP⟩ := h
  obtain ⟨m, hm, e1, e2, e3, hrow, hrec⟩ := cnt_eq hP
  refine ⟨hL.o_1, ?_⟩
  simp only [hL.r_1_0, hL.r_1_1, hL.r_1_2, hL.r_2_0, hL.r_2_2, hL.r_128_2, hL.r_128_3, hL.r_128_4, hL.r_128_5, hL.r_128_6, hL.r_128_7, hL.r_128_15, hL.r_128_16, hL.r_128_17, hL.r_128_18, hL.r_129_0, hL.r_131_0, hL.r_131_1, hL.r_131_2, hL.r_131_3, hL.r_134_0, hL.r_135_0, hL.r_136_0, hL.r_136_1, hL.r_143_2, hL.r_145_2, hL.r_147_2, hL.r_149_0, hL.r_149_1, hL.r_152_2, hL.r_152_3, hL.r_152_4, hL.r_152_5, hL.r_152_6, hL.r_152_7, hL.r_152_15, hL.r_152_16, hL.r_152_17, hL.r_152_18, hL.r_152_19, hL.r_153_0, hL.r_155_0, hL.r_155_1, hL.r_155_2, hL.r_155_3, hL.r_158_0, hL.r_191_2, hL.r_193_2, hL.r_195_2, hL.r_197_2, hL.r_199_2, hL.l_3, hL.l_130, hL.l_131, hL.l_132, hL.l_133, hL.l_135, hL.l_137, hL.l_138, hL.l_144, hL.l_146, hL.l_148, hL.l_150, hL.l_151, hL.l_154, hL.l_155, hL.l_156, hL.l_157, hL.l_159, hL.l_192, hL.l_194, hL.l_196, hL.l_198, hL.l_200]
  refine ⟨hL.o_2, has_w hm hL.o_2 e1 (fun hno => ⟨fun _ => ⟨hM.ok1, isrec_w hm hM e2 (fun _ => ⟨fun _ => ⟨rfl, hn⟩, fun q => absurd rfl q⟩) (fun i hi hu => absurd ⟨i, hi, hu⟩ hno)⟩, fun q => absurd rfl q⟩) (fun i hi hu => ⟨fun q => absurd q (by decide), fun _ => ?_⟩)⟩
  subst hu
  have hi60 : i < 60 := by omega
  obtain ⟨a0, a1, a2, a3, a4⟩ := row_ok hL hrow hi60
  rw [nI_clamp (by omega)]
  have hin : vp_in (nI i) 60 := vp_in_nI hi60 (by decide)
  obtain ⟨⟨b1, b2, b3, b4, b5⟩, b6, b7, b8, b9⟩ := rec_at (U := M) (V := M) a0 (hrec i hi)
  have go : ∀ r : Int32, (M2 3 i = 0 → ∀ p q z : Nat, p ≤ 7 → M2 7 i = nI p → M2 8 i = nI q → M2 9 i = nI z → r = 10000 * nI (noP p) + 100 * nI q + nI z) → (M2 3 i = 1 → r = M2 7 i) → (M2 3 i = 2 → r = 0) → w_Mo_content1 34 T2 R2 M2 1 (nI i) (fun r2 => r = r2 ∧ Sim (c + 1) T R M T2 R2 M2) := by
    intro r g0 g1 g2
    refine ⟨hM.ok1, isrec_w hm hM e2 (fun hno => absurd ⟨i, hi, rfl⟩ hno) (fun i' _ _ => ⟨fun q => absurd q (by decide), fun _ => ?_⟩)⟩
    simp only [hM.r_11, hM.r_12, hM.r_13, hM.r_14, hM.r_15, hM.r_16, hM.r_17, hM.r_18, hM.r_19, hM.r_20, hM.r_21, hM.r_22, hM.r_23, hM.r_24, hM.r_25, hM.r_26, hM.r_27, hM.r_28, hM.r_29, hM.r_30, hM.r_31, hM.r_32, hM.r_33, hM.r_34, hM.r_35, hM.r_36, hM.r_37, hM.r_38, hM.r_39, hM.r_40, hM.r_41, hM.r_42, hM.r_43, hM.l_2, hM.l_3, hM.l_4, hM.l_5, hM.l_6, hM.l_7, hM.l_8, hM.l_9, hM.l_10, hM.l_11, hM.l_12, hM.l_13, hM.l_14, hM.l_15, hM.l_16, hM.l_17, hM.l_18, hM.l_19, hM.l_20, hM.l_21, hM.l_22, hM.l_23, hM.l_24, hM.l_25, hM.l_26, hM.l_27, hM.l_28, hM.l_29, hM.l_30, hM.l_31, hM.l_32, hM.l_33, hM.l_34]
    rw [nI_clamp (by omega)]
    refine ⟨hM.o_3, hin, fun hk0 => ?_, fun hk0 => ⟨hin, fun hk1 => ⟨hM.o_7, hin, g1 hk1, hn⟩, fun hk1 => ?_⟩⟩
    · rcases b9 with ⟨c1, p, q, z, c2, c3, c4, c5, c6⟩ | ⟨c1, -⟩ | ⟨c1, -⟩
      · have hp7 : p ≤ 7 := by rcases c2.1 with ⟨-, w⟩ | ⟨-, w⟩ <;> omega
        refine ⟨hM.o_7, hin, ?_⟩
        rw [c3]
        refine wm_numberOf hp7 ⟨hM.o_8, hin, hM.o_9, hin, ?_, hn⟩
        rw [g0 hk0 p q z hp7 c3 c4 c5, c4, c5]
      · rw [c1] at hk0; exact absurd hk0 (by decide)
      · rw [c1] at hk0; exact absurd hk0 (by decide)
    · rcases b9 with ⟨c1, -⟩ | ⟨c1, -⟩ | ⟨c1, -⟩
      · exact absurd c1 hk0
      · exact absurd c1 hk1
      · exact ⟨g2 c1, hn⟩
  refine ⟨hL.o_3, hin, a1, a1, fun hk0 => ?_, fun hk1 => ?_, fun hk0 hk1 => ?_⟩
  · rw [b2] at hk0
    rcases b9 with ⟨c1, p, q, z, c2, c3, c4, c5, c6, c7, c8, c9, c10⟩ | ⟨c1, -⟩ | ⟨c1, -⟩
    · refine go _ (fun _ p' q' z' hp' d1 d2 d3 => ?_) (fun q => absurd (hk0.symm.trans q) (by decide)) (fun q => absurd (hk0.symm.trans q) (by decide))
      have hp7 : p ≤ 7 := by rcases c2.1 with ⟨-, w⟩ | ⟨-, w⟩ <;> omega
      have : p = p' := (nI_eq (by omega) (by omega)).mp (c3.symm.trans d1)
      rw [c7, c8, c9, ← d2, ← d3, ← this, c4, c5]
    · rw [c1] at hk0; exact absurd hk0 (by decide)
    · rw [c1] at hk0; exact absurd hk0 (by decide)
  · rw [b2] at hk1
    rcases b9 with ⟨c1, -⟩ | ⟨c1, c2, z, c3, c4, c5, c6⟩ | ⟨c1, -⟩
    · rw [c1] at hk1; exact absurd hk1 (by decide)
    · exact go _ (fun q => absurd (hk1.symm.trans q) (by decide)) (fun _ => by rw [c4, c5]) (fun q => absurd (hk1.symm.trans q) (by decide))
    · rw [c1] at hk1; exact absurd hk1 (by decide)
  · rw [b2] at hk0 hk1
    exact go _ (fun q => absurd q hk0) (fun q => absurd q hk1) (fun _ => rfl)
end OB2
