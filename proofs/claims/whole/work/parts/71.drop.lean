/-! the reference's drop and copy -/
/-- record a is copied to place b -/
def cpT (M : mM) (a b : Nat) : mM := fun k j => if 2 ≤ k ∧ k ≤ 9 ∧ j = b then M k a else if (k = 10 ∨ k = 11) ∧ 8 * b ≤ j ∧ j < 8 * b + 8 then M k (8 * a + (j - 8 * b)) else M k j
def cp1 (M : mM) (a b : Nat) : mM := fun k j => if 2 ≤ k ∧ k ≤ 9 ∧ j = b then M k a else M k j
def cp2 (M : mM) (a b x : Nat) : mM := fun k j => if 2 ≤ k ∧ k ≤ 9 ∧ j = b then M k a else if (k = 10 ∨ k = 11) ∧ 8 * b ≤ j ∧ j < 8 * b + x then M k (8 * a + (j - 8 * b)) else M k j
theorem cp2_t (M : mM) (a b x k j : Nat) : cp2 M a b x k j = if 2 ≤ k ∧ k ≤ 9 ∧ j = b then M k a else if (k = 10 ∨ k = 11) ∧ 8 * b ≤ j ∧ j < 8 * b + x then M k (8 * a + (j - 8 * b)) else M k j := rfl
/-- records i .. x - 1 have moved down -/
def shM (M : mM) (i x : Nat) : mM := fun k j => if 2 ≤ k ∧ k ≤ 9 ∧ i ≤ j ∧ j < x then M k (j + 1) else if (k = 10 ∨ k = 11) ∧ 8 * i ≤ j ∧ j < 8 * x then M k (j + 8) else M k j
section DM
variable {sd : Int32} {mt k c m i a b : Nat} {T T2 : mT} {R R2 : mR} {M M2 : mM}
theorem cp2_s {x : Nat} (hab : a ≠ b) (hx : x < 8) : sM (sM (cp2 M a b x) 10 (8 * b + x) (cp2 M a b x 10 (8 * a + x))) 11 (8 * b + x) (sM (cp2 M a b x) 10 (8 * b + x) (cp2 M a b x 10 (8 * a + x)) 11 (8 * a + x)) = cp2 M a b (x + 1) := by
  have v10 : cp2 M a b x 10 (8 * a + x) = M 10 (8 * a + x) := by
    simp only [cp2]; rw [if_neg (by omega), if_neg (by omega)]
  have v11 : cp2 M a b x 11 (8 * a + x) = M 11 (8 * a + x) := by
    simp only [cp2]; rw [if_neg (by omega), if_neg (by omega)]
  rw [v10, sMt _ _ _ 11, if_neg (by omega), v11]
  funext k j
  simp only [sMt]
  by_cases h11 : k = 11 ∧ j = 8 * b + x
  · obtain ⟨rfl, rfl⟩ := h11
    rw [if_pos ⟨rfl, rfl⟩, cp2_t, if_neg (by omega), if_pos (by omega)]
    congr 1; omega
  · rw [if_neg h11]
    by_cases h10 : k = 10 ∧ j = 8 * b + x
    · obtain ⟨rfl, rfl⟩ := h10
      rw [if_pos ⟨rfl, rfl⟩, cp2_t, if_neg (by omega), if_pos (by omega)]
      congr 1; omega
    · rw [if_neg h10]
      simp only [cp2]
      by_cases q1 : 2 ≤ k ∧ k ≤ 9 ∧ j = b
      · rw [if_pos q1, if_pos q1]
      · rw [if_neg q1, if_neg q1]
        by_cases q2 : (k = 10 ∨ k = 11) ∧ 8 * b ≤ j ∧ j < 8 * b + x
        · rw [if_pos q2, if_pos (by omega)]
        · rw [if_neg q2, if_neg (by omega)]
theorem cp1_e (hab : a ≠ b) : cp2 M a b 0 = cp1 M a b := by
  funext k j
  simp only [cp2, cp1]
  by_cases q1 : 2 ≤ k ∧ k ≤ 9 ∧ j = b
  · rw [if_pos q1, if_pos q1]
  · rw [if_neg q1, if_neg q1, if_neg (by omega)]
theorem cp1_s (hab : a ≠ b) {x : Nat} (h2 : 2 ≤ x) (h9 : x ≤ 9) : ∀ N : mM, (∀ k j, N k j = if 2 ≤ k ∧ k < x ∧ j = b then M k a else M k j) → ∀ k j, sM N x b (N x a) k j = if 2 ≤ k ∧ k < x + 1 ∧ j = b then M k a else M k j := by
  intro N hN k j
  have : N x a = M x a := by rw [hN, if_neg (by omega)]
  rw [this, sMt]
  by_cases q : k = x ∧ j = b
  · obtain ⟨rfl, rfl⟩ := q
    rw [if_pos ⟨rfl, rfl⟩, if_pos (by omega)]
  · rw [if_neg q, hN]
    by_cases q2 : 2 ≤ k ∧ k < x ∧ j = b
    · rw [if_pos q2, if_pos (by omega)]
    · rw [if_neg q2, if_neg (by omega)]
theorem wm_copyTo (hM : LM T2 R2) (hab : a ≠ b) (ha : a < 60) (hb : b < 60) (hz : M2 6 a = 0 ∨ M2 6 a = 1) {Q : mM → Prop} (hq : Q (cpT M2 a b)) : w_Mo_copyTo 34 T2 R2 M2 1 (nI a) (nI b) Q := by
  refine ⟨hM.ok1, ?_⟩
  simp only [hM.r_11, hM.r_12, hM.r_13, hM.r_14, hM.r_15, hM.r_16, hM.r_17, hM.r_18, hM.r_19, hM.r_20, hM.r_21, hM.r_22, hM.r_23, hM.r_24, hM.r_25, hM.r_26, hM.r_27, hM.r_28, hM.r_29, hM.r_30, hM.r_31, hM.r_32, hM.r_33, hM.r_34, hM.r_35, hM.r_36, hM.r_37, hM.r_38, hM.r_39, hM.r_40, hM.r_41, hM.r_42, hM.r_43, hM.l_2, hM.l_3, hM.l_4, hM.l_5, hM.l_6, hM.l_7, hM.l_8, hM.l_9, hM.l_10, hM.l_11, hM.l_12, hM.l_13, hM.l_14, hM.l_15, hM.l_16, hM.l_17, hM.l_18, hM.l_19, hM.l_20, hM.l_21, hM.l_22, hM.l_23, hM.l_24, hM.l_25, hM.l_26, hM.l_27, hM.l_28, hM.l_29, hM.l_30, hM.l_31, hM.l_32, hM.l_33, hM.l_34]
  rw [nI_clamp (by omega), nI_clamp (by omega)]
  have ia : vp_in (nI a) 60 := vp_in_nI ha (by decide)
  have ib : vp_in (nI b) 60 := vp_in_nI hb (by decide)
  refine ⟨hM.o_2, ia, ib, fun M4 e4 => ⟨hM.o_3, ia, ib, fun M8 e8 => ⟨hM.o_4, ia, ib, fun M12 e12 => ⟨hM.o_5, ia, ib, fun M16 e16 => ?_⟩⟩⟩⟩
  have f0 : ∀ k j, M2 k j = if 2 ≤ k ∧ k < 2 ∧ j = b then M2 k a else M2 k j := fun k j => by rw [if_neg (by omega)]
  have f4 := cp1_s hab (by decide) (by decide) M2 f0
  rw [← e4] at f4
  have f8 := cp1_s hab (by decide) (by decide) M4 f4
  rw [← e8] at f8
  have f12 := cp1_s hab (by decide) (by decide) M8 f8
  rw [← e12] at f12
  have f16 := cp1_s hab (by decide) (by decide) M12 f12
  rw [← e16] at f16
  have hz16 : M16 6 a = 0 ∨ M16 6 a = 1 := by rw [f16, if_neg (by omega)]; exact hz
  refine ⟨hM.o_6, ia, ib, hz16, fun M21 e21 => ⟨hM.o_7, ia, ib, fun M25 e25 => ⟨hM.o_8, ia, ib, fun M29 e29 => ⟨hM.o_9, ia, ib, fun M33 e33 => ⟨9, ?_⟩⟩⟩⟩⟩
  have f21 := cp1_s hab (by decide) (by decide) M16 f16
  rw [← e21] at f21
  have f25 := cp1_s hab (by decide) (by decide) M21 f21
  rw [← e25] at f25
  have f29 := cp1_s hab (by decide) (by decide) M25 f25
  rw [← e29] at f29
  have f33 := cp1_s hab (by decide) (by decide) M29 f29
  rw [← e33] at f33
  have e : M33 = cp2 M2 a b 0 := by
    rw [cp1_e hab]
    funext k j
    rw [f33]
    simp only [cp1]
    by_cases q : 2 ≤ k ∧ k ≤ 9 ∧ j = b
    · rw [if_pos q, if_pos (by omega)]
    · rw [if_neg q, if_neg (by omega)]
  rw [e]
  have lp : ∀ d x, x + d = 8 → w_Mo_copyTo_L98 34 T2 R2 Q 1 (nI a) (nI b) (d + 1) (nI x) (cp2 M2 a b x) := by
    intro d
    induction d with
    | zero =>
      intro x hx
      unfold w_Mo_copyTo_L98
      have hx : x = 8 := by omega
      subst hx
      refine ⟨fun _ => hq, fun q => absurd (show (8 : Int32) ≤ nI 8 by decide) q⟩
    | succ d ih =>
      intro x hx
      unfold w_Mo_copyTo_L98
      refine ⟨fun q => absurd q (nI_ge (b := 8) (by omega) (by decide)), fun _ => ?_⟩
      simp only [hM.r_19, hM.r_20, hM.l_10, hM.l_11]
      rw [show (8 : Int32) = nI 8 from rfl, i12, i12, nI_clamp (by omega), nI_clamp (by omega)]
      refine ⟨hM.o_10, vp_in_nI (by omega) (by decide), vp_in_nI (by omega) (by decide), fun M38 e38 => ⟨hM.o_11, vp_in_nI (by omega) (by decide), vp_in_nI (by omega) (by decide), fun M42 e42 v43 e43 => ?_⟩⟩
      subst e38; subst e42; subst e43
      rw [cp2_s hab (by omega), nI_1]
      exact ih (x + 1) (by omega)
  exact lp 8 0 (by omega)
theorem shM_s {x : Nat} (h : i ≤ x) : cpT (shM M i x) (x + 1) x = shM M i (x + 1) := by
  funext k j
  simp only [cpT]
  by_cases q1 : 2 ≤ k ∧ k ≤ 9 ∧ j = x
  · rw [if_pos q1]
    simp only [shM]
    rw [if_neg (by omega), if_neg (by omega), if_pos (by omega)]
    rw [q1.2.2]
  · rw [if_neg q1]
    by_cases q2 : (k = 10 ∨ k = 11) ∧ 8 * x ≤ j ∧ j < 8 * x + 8
    · rw [if_pos q2]
      simp only [shM]
      rw [if_neg (by omega), if_neg (by omega), if_neg (by omega), if_pos (by omega)]
      congr 1; omega
    · rw [if_neg q2]
      simp only [shM]
      by_cases q3 : 2 ≤ k ∧ k ≤ 9 ∧ i ≤ j ∧ j < x
      · rw [if_pos q3, if_pos (by omega)]
      · by_cases q4 : (k = 10 ∨ k = 11) ∧ 8 * i ≤ j ∧ j < 8 * x
        · rw [if_neg q3, if_pos q4, if_neg (by omega), if_pos (by omega)]
        · rw [if_neg q3, if_neg q4, if_neg (by omega), if_neg (by omega)]
/-- the memory without record i of m -/
def drM (M : mM) (i m : Nat) : mM := sM (shM M i (m - 1)) 1 8 (nI (m - 1))
theorem wm_dropL (hM : LM T2 R2) (hm : m ≤ 60) (hi : i < m) (e2 : M2 1 8 = nI m) (hz : ∀ j, j < m → M2 6 j = 0 ∨ M2 6 j = 1) {Q : Int32 → mM → Prop} (hq : Q 1 (drM M2 i m)) : ∃ N12, w_Mo_drop_L12 34 T2 R2 Q 1 N12 (nI i) M2 := by
  refine ⟨m - 1 - i + 1, ?_⟩
  have lp : ∀ d x, x + d = m - 1 → i ≤ x → w_Mo_drop_L12 34 T2 R2 Q 1 (d + 1) (nI x) (shM M2 i x) := by
    intro d
    induction d with
    | zero =>
      intro x hx hix
      unfold w_Mo_drop_L12
      have hx : x = m - 1 := by omega
      subst hx
      have h8 : shM M2 i (m - 1) 1 8 = nI m := by simp only [shM]; rw [if_neg (by omega), if_neg (by omega)]; exact e2
      rw [h8, nI_1]
      refine ⟨fun _ M4 e4 => ?_, fun q => absurd (nI_le (by omega) (by omega)) q⟩
      rw [show (1 : Int32) = nI 1 from rfl, pk_sub (by omega)] at e4
      subst e4
      exact hq
    | succ d ih =>
      intro x hx hix
      unfold w_Mo_drop_L12
      have h8 : shM M2 i x 1 8 = nI m := by simp only [shM]; rw [if_neg (by omega), if_neg (by omega)]; exact e2
      rw [h8, nI_1]
      refine ⟨fun q => absurd q (nI_ge (by omega) (by omega)), fun _ => ?_⟩
      refine wm_copyTo hM (by omega) (by omega) (by omega) ?_ (fun v6 e6 => ?_)
      · simp only [shM]; rw [if_neg (by omega), if_neg (by omega)]; exact hz (x + 1) (by omega)
      · subst e6
        rw [shM_s hix]
        exact ih (x + 1) (by omega) (by omega)
  have s0 : shM M2 i i = M2 := by
    funext k j
    simp only [shM]
    rw [if_neg (by omega), if_neg (by omega)]
  have := lp (m - 1 - i) i (by omega) (Nat.le_refl i)
  rw [s0] at this
  exact this
/-- the net's relation when record i is taken out on both sides -/
theorem NetRel.drop (h : NetRel sd c R (nw M) (nv M2)) (hm : m ≤ 60) (hi : i < m) (e1 : M 2 3 = nI m) : NetRel sd c (tkR R i m) (nw (sM M 2 3 (nI (m - 1)))) (nv (drM M2 i m)) := by
  obtain ⟨hr, hl, m', hm', hu, hv, hrec⟩ := h
  have : m' = m := by
    rw [nw_at (by decide)] at hu
    exact (nI_eq (by omega) (by omega)).mp (hu.symm.trans e1)
  subst this
  have vd : ∀ k j, nv (drM M2 i m') k j = if k = 1 ∧ j = 8 then nI (m' - 1) else if 2 ≤ k ∧ k ≤ 9 ∧ i ≤ j ∧ j < m' - 1 then nv M2 k (j + 1) else if (k = 10 ∨ k = 11) ∧ 8 * i ≤ j ∧ j < 8 * (m' - 1) then nv M2 k (j + 8) else nv M2 k j := by
    intro k j
    unfold drM
    rw [nv_in (by decide), sMt]
    by_cases q1 : k = 1 ∧ j = 8
    · rw [if_pos q1, if_pos q1]
    · rw [if_neg q1, if_neg q1]
      simp only [nv, shM]
      by_cases q2 : 2 ≤ k ∧ k ≤ 9 ∧ i ≤ j ∧ j < m' - 1
      · rw [if_pos q2, if_pos q2, if_pos (by omega), if_pos (by omega)]
      · rw [if_neg q2, if_neg q2]
        by_cases q3 : (k = 10 ∨ k = 11) ∧ 8 * i ≤ j ∧ j < 8 * (m' - 1)
        · rw [if_pos q3, if_pos q3, if_pos (by omega), if_pos (by omega)]
        · rw [if_neg q3, if_neg q3]
  rw [nw_in (by decide)]
  refine ⟨tkR_ok hr hi hm, ?_, m' - 1, by omega, ?_, ?_, fun j hj => ?_⟩
  · rw [vd, if_neg (by decide), if_neg (by omega), if_neg (by omega), sM_j 4 (by decide)]; exact hl
  · rw [sM_e]
  · rw [vd, if_pos ⟨rfl, rfl⟩]
  · have hj60 : j < 60 := by omega
    rw [tkR_row hi]
    by_cases q : j < i
    · rw [if_pos q]
      obtain ⟨⟨d1, d2, d3⟩, d4⟩ := hr.1 j hj60
      refine recR_congr (hrec j (by omega)) (fun q => by rw [sM_k _ (by omega)]) (sM_k _ (by omega)) (fun a ha hb => ?_) (fun x hx => ?_) (fun x hx => ?_)
      · rw [vd, if_neg (by omega), if_neg (by omega), if_neg (by omega)]
      · rw [vd, if_neg (by omega), if_neg (by omega), if_neg (by omega)]
      · rw [vd, if_neg (by omega), if_neg (by omega), if_neg (by omega)]
    · rw [if_neg q, if_pos hj]
      obtain ⟨⟨d1, d2, d3⟩, d4⟩ := hr.1 (j + 1) (by omega)
      refine recR_congr (hrec (j + 1) (by omega)) (fun q => by rw [sM_k _ (by omega)]) (sM_k _ (by omega)) (fun a ha hb => ?_) (fun x hx => ?_) (fun x hx => ?_)
      · rw [vd, if_neg (by omega), if_pos (by omega)]
      · rw [vd, if_neg (by omega), if_neg (by omega), if_pos (by omega)]; congr 1; omega
      · rw [vd, if_neg (by omega), if_neg (by omega), if_pos (by omega)]; congr 1; omega
theorem drM_o {k : Nat} (h : 12 ≤ k) : drM M i m k = M k := by
  funext j
  unfold drM
  rw [sM_k k (by omega)]
  simp only [shM]
  rw [if_neg (by omega), if_neg (by omega)]
theorem drM_1 {j : Nat} (h : j ≠ 8) : drM M i m 1 j = M 1 j := by
  unfold drM
  rw [sM_j j h]
  simp only [shM]
  rw [if_neg (by omega), if_neg (by omega)]
theorem SimP.drop (h : SimP sd mt k c R M M2) (hm : m ≤ 60) (hi : i < m) (e1 : M 2 3 = nI m) : SimP sd mt k c (tkR R i m) (sM M 2 3 (nI (m - 1))) (drM M2 i m) :=
  h.net (fun a ha => sM_k a (by omega)) (fun a ha => drM_o ha) (fun j h8 _ _ => drM_1 h8) (h.2.2.2.1.drop hm hi e1)
theorem sp_all (h : SimP sd mt k c R M M2) (hm : m ≤ 60) (e2 : M2 1 8 = nI m) : ∀ j, j < m → M2 6 j = 0 ∨ M2 6 j = 1 := by
  intro j hj
  obtain ⟨m', hm', e1', e2', -, hrow, hrec⟩ := cnt_eq h
  have : m = m' := (nI_eq (by omega) (by omega)).mp (e2.symm.trans e2')
  subst this
  exact (rec_at (U := M) (V := M) (hrow.1 j (by omega)).1 (hrec j hj)).2.2.1
end DM
theorem sim_drop : ∀ (c : Nat) (T : mT) (R : mR) (M : mM) (T2 : mT) (R2 : mR) (M2 : mM) (u1 : Int32), c < 512 → Sim c T R M T2 R2 M2 → w_X_drop 200 T R M 1 u1 (fun r R' M' => w_Mo_drop 34 T2 R2 M2 1 u1 (fun r2 M2' => r = r2 ∧ Sim (c + 1) T R' M' T2 R2 M2')) := by
  intro c T R M T2 R2 M2 u1 hc h
  have hn := h.next hc
  obtain ⟨h0, sd, mt, k, hk, hL, hM, hP⟩ := h
  obtain ⟨m, hm, e1, e2, e3, hrow, hrec⟩ := cnt_eq hP
  refine ⟨hL.o_1, ?_⟩
  simp only [hL.r_1_0, hL.r_1_1, hL.r_1_2, hL.r_2_0, hL.r_2_2, hL.r_128_2, hL.r_128_3, hL.r_128_4, hL.r_128_5, hL.r_128_6, hL.r_128_7, hL.r_128_15, hL.r_128_16, hL.r_128_17, hL.r_128_18, hL.r_129_0, hL.r_131_0, hL.r_131_1, hL.r_131_2, hL.r_131_3, hL.r_134_0, hL.r_135_0, hL.r_136_0, hL.r_136_1, hL.r_143_2, hL.r_145_2, hL.r_147_2, hL.r_149_0, hL.r_149_1, hL.r_152_2, hL.r_152_3, hL.r_152_4, hL.r_152_5, hL.r_152_6, hL.r_152_7, hL.r_152_15, hL.r_152_16, hL.r_152_17, hL.r_152_18, hL.r_152_19, hL.r_153_0, hL.r_155_0, hL.r_155_1, hL.r_155_2, hL.r_155_3, hL.r_158_0, hL.r_191_2, hL.r_193_2, hL.r_195_2, hL.r_197_2, hL.r_199_2, hL.l_3, hL.l_130, hL.l_131, hL.l_132, hL.l_133, hL.l_135, hL.l_137, hL.l_138, hL.l_144, hL.l_146, hL.l_148, hL.l_150, hL.l_151, hL.l_154, hL.l_155, hL.l_156, hL.l_157, hL.l_159, hL.l_192, hL.l_194, hL.l_196, hL.l_198, hL.l_200]
  refine ⟨hL.o_2, has_w hm hL.o_2 e1 (fun hno => ⟨fun _ => ⟨hM.ok1, isrec_w hm hM e2 (fun _ => ⟨fun _ => ⟨rfl, hn⟩, fun q => absurd rfl q⟩) (fun i hi hu => absurd ⟨i, hi, hu⟩ hno)⟩, fun q => absurd rfl q⟩) (fun i hi hu => ⟨fun q => absurd q (by decide), fun _ => ?_⟩)⟩
  subst hu
  refine wc_takeOut hL hrow hm hi e1 ⟨hM.ok1, isrec_w hm hM e2 (fun hno => absurd ⟨i, hi, rfl⟩ hno) (fun i' _ _ => ⟨fun q => absurd q (by decide), fun _ => ?_⟩)⟩
  refine wm_dropL hM hm hi e2 (sp_all hP hm e2) ⟨rfl, by omega, sd, mt, k, by omega, hL.rows (fun k j a b => tkR_o a b), hM, ?_⟩
  exact (hP.drop hm hi e1).mono (by omega) (by omega)
