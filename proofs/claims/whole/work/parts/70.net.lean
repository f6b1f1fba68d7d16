/-! the net: frames; spoil; drop; copy -/
section NF
variable {sd : Int32} {mt k c : Nat} {T T2 : mT} {R R' R2 : mR} {M M' M2 M2' : mM}
theorem uw_eq {cb w : Nat} (h : ∀ i, i < w → M' (cb + i) = M (cb + i)) : uw M' cb w = uw M cb w := by
  funext i j
  unfold uw
  by_cases hi : i < w
  · rw [if_pos hi, if_pos hi, h i hi]
  · rw [if_neg hi, if_neg hi]
theorem vw_eq {s : Nat} (h : ∀ a, 12 ≤ a → M2' a = M2 a) : vw M2' s = vw M2 s := by
  funext a j
  unfold vw
  by_cases hj : j < stA a
  · rw [if_pos hj, if_pos hj]
    have : 12 ≤ a := by
      by_cases q : 12 ≤ a
      · exact q
      · have z : ∀ a, a < 12 → stA a = 0 := by decide
        rw [z a (by omega)] at hj; omega
    rw [h a this]
  · rw [if_neg hj, if_neg hj]
/-- only the net's cells have changed -/
theorem SimP.net (h : SimP sd mt k c R M M2) (h1 : ∀ a, 128 ≤ a → M' a = M a) (h2 : ∀ a, 12 ≤ a → M2' a = M2 a) (h3 : ∀ j, j ≠ 8 → j ≠ 9 → j ≠ 10 → M2' 1 j = M2 1 j) (hN : NetRel sd c R' (nw M') (nv M2')) : SimP sd mt k c R' M' M2' := by
  obtain ⟨a1, a2, a3, a4, a5, a6, a7, a8⟩ := h
  have u0 : uw M' 128 24 = uw M 128 24 := uw_eq (fun i _ => h1 _ (by omega))
  have u1 : uw M' 152 49 = uw M 152 49 := uw_eq (fun i _ => h1 _ (by omega))
  refine ⟨a1, ?_, ?_, hN, ?_, ?_, ?_, ?_⟩
  · rw [h3 7 (by decide) (by decide) (by decide)]; exact a2
  · unfold conR at a3 ⊢
    rw [h3 0 (by decide) (by decide) (by decide), h3 1 (by decide) (by decide) (by decide), h3 2 (by decide) (by decide) (by decide), h3 3 (by decide) (by decide) (by decide), h3 4 (by decide) (by decide) (by decide), h3 5 (by decide) (by decide) (by decide), h3 6 (by decide) (by decide) (by decide)]
    exact a3
  · rw [u0, vw_eq h2]; exact a5
  · rw [u1, vw_eq h2]; exact a6
  · rw [u0, vw_eq h2, h2 32 (by decide)]; exact a7
  · rw [u1]; exact a8
theorem LC.rows (h : LC sd T R) (h1 : ∀ k j, k ≠ 3 → ¬ (k = 2 ∧ j = 1) → R' k j = R k j) : LC sd T R' := ⟨h.1, fun k j a b c d => by rw [h1 k j c d]; exact h.2 k j a b c d⟩
theorem recR_congr {U U' V V' : mM} {r r' i i' : Nat} (h : recR sd c U V r i) (h1 : ∀ j, U' r' j = U r j) (h2 : U' (r' + 1) = U (r + 1)) (h3 : ∀ a, 2 ≤ a → a ≤ 9 → V' a i' = V a i) (h4 : ∀ j, j < 8 → V' 10 (8 * i' + j) = V 10 (8 * i + j)) (h5 : ∀ j, j < 8 → V' 11 (8 * i' + j) = V 11 (8 * i + j)) : recR sd c U' V' r' i' := by
  unfold recR at h ⊢
  simp only [h1, h2, h3 2 (by decide) (by decide), h3 3 (by decide) (by decide), h3 4 (by decide) (by decide), h3 5 (by decide) (by decide), h3 6 (by decide) (by decide), h3 7 (by decide) (by decide), h3 8 (by decide) (by decide), h3 9 (by decide) (by decide)]
  obtain ⟨g1, g2, g3, g4, g5⟩ := h
  refine ⟨g1, g2, g3, g4, ?_⟩
  rcases g5 with g | ⟨q1, q2, z, q3, q4, q5, q6⟩ | g
  · exact Or.inl g
  · refine Or.inr (Or.inl ⟨q1, q2, z, q3, q4, q5, fun j hj => ?_⟩)
    have := q6 j hj
    show nameR c (V' 11 (8 * i' + j)) (V' 10 (8 * i' + j)) _
    rw [h4 j (by omega), h5 j (by omega)]
    exact this
  · exact Or.inr (Or.inr g)
theorem recR_mono {c' : Nat} {U V : mM} {r i : Nat} (hc : c ≤ c') (h : recR sd c U V r i) : recR sd c' U V r i := by
  obtain ⟨g1, g2, g3, ⟨a, g4, g5⟩, g6⟩ := h
  refine ⟨g1, g2, g3, ⟨a, Nat.le_trans g4 hc, g5⟩, ?_⟩
  rcases g6 with g | ⟨q1, q2, z, q3, q4, q5, q6⟩ | g
  · exact Or.inl g
  · refine Or.inr (Or.inl ⟨q1, q2, z, q3, q4, q5, fun j hj => ?_⟩)
    obtain ⟨a, b, w1, w2⟩ := q6 j hj
    exact ⟨a, b, Nat.le_trans w1 hc, w2⟩
  · exact Or.inr (Or.inr g)
end NF
theorem sim_spoil : ∀ (c : Nat) (T : mT) (R : mR) (M : mM) (T2 : mT) (R2 : mR) (M2 : mM) (u1 : Int32), c < 512 → Sim c T R M T2 R2 M2 → w_X_spoil 200 T R M 1 u1 (fun r M' => w_Mo_spoil 34 T2 R2 M2 1 u1 (fun r2 M2' => r = r2 ∧ Sim (c + 1) T R M' T2 R2 M2')) := by
  intro c T R M T2 R2 M2 u1 hc h
  have hn := h.next hc
  obtain ⟨h0, sd, mt, k, hk, hL, hM, hP⟩ := h
  obtain ⟨m, hm, e1, e2, e3, hrow, hrec⟩ := cnt_eq hP
  refine ⟨hL.o_1, ?_⟩
  simp only [hL.r_1_0, hL.r_1_1, hL.r_1_2, hL.r_2_0, hL.r_2_2, hL.r_128_2, hL.r_128_3, hL.r_128_4, hL.r_128_5, hL.r_128_6, hL.r_128_7, hL.r_128_15, hL.r_128_16, hL.r_128_17, hL.r_128_18, hL.r_129_0, hL.r_131_0, hL.r_131_1, hL.r_131_2, hL.r_131_3, hL.r_134_0, hL.r_135_0, hL.r_136_0, hL.r_136_1, hL.r_143_2, hL.r_145_2, hL.r_147_2, hL.r_149_0, hL.r_149_1, hL.r_152_2, hL.r_152_3, hL.r_152_4, hL.r_152_5, hL.r_152_6, hL.r_152_7, hL.r_152_15, hL.r_152_16, hL.r_152_17, hL.r_152_18, hL.r_152_19, hL.r_153_0, hL.r_155_0, hL.r_155_1, hL.r_155_2, hL.r_155_3, hL.r_158_0, hL.r_191_2, hL.r_193_2, hL.r_195_2, hL.r_197_2, hL.r_199_2, hL.l_3, hL.l_130, hL.l_131, hL.l_132, hL.l_133, hL.l_135, hL.l_137, hL.l_138, hL.l_144, hL.l_146, hL.l_148, hL.l_150, hL.l_151, hL.l_154, hL.l_155, hL.l_156, hL.l_157, hL.l_159, hL.l_192, hL.l_194, hL.l_196, hL.l_198, hL.l_200]
  refine ⟨hL.o_2, has_w hm hL.o_2 e1 (fun hno => ⟨fun _ => ⟨hM.ok1, isrec_w hm hM e2 (fun _ => ⟨fun _ => ⟨rfl, hn⟩, fun q => absurd rfl q⟩) (fun i hi hu => absurd ⟨i, hi, hu⟩ hno)⟩, fun q => absurd rfl q⟩) (fun i hi hu => ⟨fun q => absurd q (by decide), fun _ => ?_⟩)⟩
  subst hu
  have hi60 : i < 60 := by omega
  obtain ⟨a0, a1, a2, a3, a4⟩ := row_ok hL hrow hi60
  rw [nI_clamp (by omega)]
  have hin : vp_in (nI i) 60 := vp_in_nI hi60 (by decide)
  refine ⟨hL.o_3, hin, a1, fun M7 e7 => ⟨hM.ok1, isrec_w hm hM e2 (fun hno => absurd ⟨i, hi, rfl⟩ hno) (fun i' _ _ => ⟨fun q => absurd q (by decide), fun _ => ?_⟩)⟩⟩
  simp only [hM.r_11, hM.r_12, hM.r_13, hM.r_14, hM.r_15, hM.r_16, hM.r_17, hM.r_18, hM.r_19, hM.r_20, hM.r_21, hM.r_22, hM.r_23, hM.r_24, hM.r_25, hM.r_26, hM.r_27, hM.r_28, hM.r_29, hM.r_30, hM.r_31, hM.r_32, hM.r_33, hM.r_34, hM.r_35, hM.r_36, hM.r_37, hM.r_38, hM.r_39, hM.r_40, hM.r_41, hM.r_42, hM.r_43, hM.l_2, hM.l_3, hM.l_4, hM.l_5, hM.l_6, hM.l_7, hM.l_8, hM.l_9, hM.l_10, hM.l_11, hM.l_12, hM.l_13, hM.l_14, hM.l_15, hM.l_16, hM.l_17, hM.l_18, hM.l_19, hM.l_20, hM.l_21, hM.l_22, hM.l_23, hM.l_24, hM.l_25, hM.l_26, hM.l_27, hM.l_28, hM.l_29, hM.l_30, hM.l_31, hM.l_32, hM.l_33, hM.l_34]
  rw [nI_clamp (by omega)]
  refine ⟨hM.o_6, hin, fun M5 e5 => ⟨trivial, by omega, sd, mt, k, by omega, hL, hM, ?_⟩⟩
  subst e7; subst e5
  have hP' := hP.mono (c' := 16 * (c + 1)) (by omega) (by omega)
  obtain ⟨r1, r2, r3⟩ := a0
  refine hP'.net (fun a ha => sM_k a (by omega)) (fun a ha => sM_k a (by omega)) (fun j _ _ _ => by rw [sM_k 1 (by decide)]) ?_
  rw [nw_in ⟨by omega, by omega⟩, nv_in (by omega)]
  obtain ⟨hr, hl, m', hm', hu, hv, hrec'⟩ := hP'.2.2.2.1
  refine ⟨hr, ?_, m', hm', ?_, ?_, fun j hj => ?_⟩
  · rw [sM_k 2 (by omega), sM_k 1 (by decide)]; exact hl
  · rw [sM_k 2 (by omega)]; exact hu
  · rw [sM_k 1 (by decide)]; exact hv
  · have hj60 : j < 60 := by omega
    obtain ⟨⟨d1, d2, d3⟩, d4⟩ := hr.1 j hj60
    by_cases hij : j = i
    · subst hij
      obtain ⟨⟨g1, g2, g3, g4, g5⟩, g6, g7, g8, g9⟩ := hrec' j hj
      have x : ∀ q, q ≠ 8 → sM (nw M) (R 3 j) 8 1 (R 3 j) q = nw M (R 3 j) q := fun q hq => sM_j q hq
      have y : ∀ a, a ≠ 6 → sM (nv M2) 6 j 1 a = nv M2 a := fun a ha => sM_k a ha
      refine ⟨⟨?_, ?_, ?_, ?_, ?_⟩, ?_, ?_, ?_, ?_⟩
      · rw [x 2 (by decide), y 2 (by decide)]; exact g1
      · rw [x 3 (by decide), y 3 (by decide)]; exact g2
      · rw [x 4 (by decide), y 4 (by decide)]; exact g3
      · rw [x 5 (by decide), y 5 (by decide)]; exact g4
      · rw [sM_e, sM_e]
      · rw [y 2 (by decide)]; exact g6
      · rw [sM_e]; exact Or.inr rfl
      · rw [y 5 (by decide)]; exact g8
      · rw [x 6 (by decide), x 7 (by decide), x 1 (by decide), sM_k (R 3 j + 1) (by omega)]
        simp only [y 2 (by decide), y 3 (by decide), y 4 (by decide), y 7 (by decide), y 8 (by decide), y 9 (by decide), y 10 (by decide), y 11 (by decide)]
        exact g9
    · have hne : R 3 j ≠ R 3 i := fun q => hij (hr.2.2.1 j i hj60 hi60 q)
      refine recR_congr (hrec' j hj) (fun q => by rw [sM_k _ hne]) (sM_k _ (by omega)) (fun a b d => ?_) (fun q _ => by rw [sM_k 10 (by decide)]) (fun q _ => by rw [sM_k 11 (by decide)])
      simp only [sMt]
      rw [if_neg (by omega)]
/-! drop -/
/-- rows i .. x - 1 have moved down -/
def shR (R : mR) (i x : Nat) : mR := fun k j => if k = 3 ∧ i ≤ j ∧ j < x then R 3 (j + 1) else R k j
/-- row i of m is taken out -/
def tkR (R : mR) (i m : Nat) : mR := sR (sR (shR R i (m - 1)) 3 (m - 1) (R 2 1)) 2 1 (R 3 i)
theorem shR_s {R : mR} {i x : Nat} (h : i ≤ x) : sR (shR R i x) 3 x (shR R i x 3 (x + 1)) = shR R i (x + 1) := by
  funext k j
  simp only [sR, shR]
  by_cases hk : k = 3
  · subst hk
    by_cases hj : j = x
    · subst hj
      rw [if_pos ⟨rfl, rfl⟩, if_neg (by omega), if_pos (by omega)]
    · rw [if_neg (by omega)]
      by_cases q : i ≤ j ∧ j < x
      · rw [if_pos ⟨rfl, q⟩, if_pos (by omega)]
      · rw [if_neg (by omega), if_neg (by omega)]
  · rw [if_neg (by omega), if_neg (by omega), if_neg (by omega)]
section DR
variable {sd : Int32} {mt k c m i : Nat} {T T2 : mT} {R R2 : mR} {M M2 : mM}
theorem tkR_row (hi : i < m) (j : Nat) : tkR R i m 3 j = if j < i then R 3 j else if j < m - 1 then R 3 (j + 1) else if j = m - 1 then R 2 1 else R 3 j := by
  simp only [tkR, sR, shR]
  rw [if_neg (by omega)]
  by_cases h1 : j = m - 1
  · rw [if_pos ⟨trivial, h1⟩, if_neg (by omega), if_neg (by omega), if_pos h1]
  · rw [if_neg (by omega)]
    by_cases h2 : i ≤ j ∧ j < m - 1
    · rw [if_pos ⟨trivial, h2⟩, if_neg (by omega), if_pos (by omega)]
    · rw [if_neg (by omega)]
      by_cases h3 : j < i
      · rw [if_pos h3]
      · rw [if_neg h3, if_neg (by omega), if_neg h1]
theorem tkR_tk : tkR R i m 2 1 = R 3 i := by simp [tkR, sR]
theorem tkR_o {k j : Nat} (h3 : k ≠ 3) (h2 : ¬ (k = 2 ∧ j = 1)) : tkR R i m k j = R k j := by
  simp only [tkR, sR, shR]
  rw [if_neg h2, if_neg (by omega), if_neg (by omega)]
theorem tkR_ok (hr : rowsOK R) (hi : i < m) (hm : m ≤ 60) : rowsOK (tkR R i m) := by
  obtain ⟨h1, h2, h3, h4⟩ := hr
  refine ⟨fun j hj => ?_, ?_, fun j j' hj hj' e => ?_, fun j hj => ?_⟩
  · rw [tkR_row hi]
    split
    · exact h1 j hj
    · split
      · exact h1 (j + 1) (by omega)
      · split
        · exact h2
        · exact h1 j hj
  · rw [tkR_tk]; exact h1 i (by omega)
  · rw [tkR_row hi, tkR_row hi] at e
    have n1 : ∀ a b, a < 60 → b < 60 → a ≠ b → R 3 a ≠ R 3 b := fun a b x y z q => z (h3 a b x y q)
    by_cases a1 : j < i
    · rw [if_pos a1] at e
      by_cases b1 : j' < i
      · rw [if_pos b1] at e; exact h3 _ _ (by omega) (by omega) e
      · rw [if_neg b1] at e
        by_cases b2 : j' < m - 1
        · rw [if_pos b2] at e; exact absurd e (n1 _ _ (by omega) (by omega) (by omega))
        · rw [if_neg b2] at e
          by_cases b3 : j' = m - 1
          · rw [if_pos b3] at e; exact absurd e (h4 _ (by omega))
          · rw [if_neg b3] at e; exact h3 _ _ (by omega) (by omega) e
    · rw [if_neg a1] at e
      by_cases a2 : j < m - 1
      · rw [if_pos a2] at e
        by_cases b1 : j' < i
        · rw [if_pos b1] at e; exact absurd e (n1 _ _ (by omega) (by omega) (by omega))
        · rw [if_neg b1] at e
          by_cases b2 : j' < m - 1
          · rw [if_pos b2] at e; have := h3 _ _ (by omega) (by omega) e; omega
          · rw [if_neg b2] at e
            by_cases b3 : j' = m - 1
            · rw [if_pos b3] at e; exact absurd e (h4 _ (by omega))
            · rw [if_neg b3] at e; exact absurd e (n1 _ _ (by omega) (by omega) (by omega))
      · rw [if_neg a2] at e
        by_cases a3 : j = m - 1
        · rw [if_pos a3] at e
          by_cases b1 : j' < i
          · rw [if_pos b1] at e; exact absurd e.symm (h4 _ (by omega))
          · rw [if_neg b1] at e
            by_cases b2 : j' < m - 1
            · rw [if_pos b2] at e; exact absurd e.symm (h4 _ (by omega))
            · rw [if_neg b2] at e
              by_cases b3 : j' = m - 1
              · omega
              · rw [if_neg b3] at e; exact absurd e.symm (h4 _ (by omega))
        · rw [if_neg a3] at e
          by_cases b1 : j' < i
          · rw [if_pos b1] at e; exact h3 _ _ (by omega) (by omega) e
          · rw [if_neg b1] at e
            by_cases b2 : j' < m - 1
            · rw [if_pos b2] at e; exact absurd e (n1 _ _ (by omega) (by omega) (by omega))
            · rw [if_neg b2] at e
              by_cases b3 : j' = m - 1
              · rw [if_pos b3] at e; exact absurd e (h4 _ (by omega))
              · rw [if_neg b3] at e; exact h3 _ _ (by omega) (by omega) e
  · rw [tkR_row hi, tkR_tk]
    have n1 : ∀ a b, a < 60 → b < 60 → a ≠ b → R 3 a ≠ R 3 b := fun a b x y z q => z (h3 a b x y q)
    split
    · exact n1 _ _ (by omega) (by omega) (by omega)
    · split
      · exact n1 _ _ (by omega) (by omega) (by omega)
      · split
        · exact fun q => h4 i (by omega) q.symm
        · exact n1 _ _ (by omega) (by omega) (by omega)
theorem wc_takeOut (hL : LC sd T R) (hr : rowsOK R) (hm : m ≤ 60) (hi : i < m) (e1 : M 2 3 = nI m) {Q : Nat → mR → mM → Prop} (hq : Q (R 3 i) (tkR R i m) (sM M 2 3 (nI (m - 1)))) : w_Net_takeOut 200 T R M 2 (nI i) Q := by
  have hok : ∀ j, j < 60 → ok T 200 (R 3 j) 3 := fun j hj => (row_ok hL hr hj).2.1
  refine ⟨hL.o_2, ?_⟩
  simp only [hL.r_2_0, hL.l_3]
  rw [nI_clamp (by omega)]
  refine ⟨hL.o_3, vp_in_nI (by omega) (by decide), hok i (by omega), fun M4 e4 => ⟨m - 1 - i + 1, ?_⟩⟩
  have e4 : M4 = sM M 2 3 (nI (m - 1)) := by
    rw [e4, e1, show (1 : Int32) = nI 1 from rfl, pk_sub (by omega)]
  have h3 : M4 2 3 = nI (m - 1) := by rw [e4, sM_e]
  have lp : ∀ d x, x + d = m - 1 → i ≤ x → w_Net_takeOut_L19 200 T Q 2 (R 3 i) (d + 1) (nI x) (shR R i x) M4 := by
    intro d
    induction d with
    | zero =>
      intro x hx hix
      unfold w_Net_takeOut_L19
      have hx : x = m - 1 := by omega
      subst hx
      have q0 : shR R i (m - 1) 2 0 = 3 := by simp only [shR]; rw [if_neg (by omega)]; exact hL.r_2_0
      have q1 : shR R i (m - 1) 2 1 = R 2 1 := by simp only [shR]; rw [if_neg (by omega)]
      rw [h3]
      refine ⟨fun _ => ?_, fun q => absurd (nI_le (Nat.le_refl _) (by omega)) q⟩
      simp only [q0, q1, hL.l_3]
      rw [nI_clamp (by omega)]
      refine ⟨hL.o_3, (hL.rec hr.2.1.1).1, vp_in_nI (by omega) (by decide), fun R10 e10 R11 e11 => ?_⟩
      subst e10; subst e11; rw [e4]
      exact hq
    | succ d ih =>
      intro x hx hix
      unfold w_Net_takeOut_L19
      have q0 : shR R i x 2 0 = 3 := by simp only [shR]; rw [if_neg (by omega)]; exact hL.r_2_0
      have q2 : shR R i x 3 (x + 1) = R 3 (x + 1) := by simp only [shR]; rw [if_neg (by omega)]
      rw [h3]
      refine ⟨fun q => absurd q (nI_ge (by omega) (by omega)), fun _ => ?_⟩
      simp only [q0, hL.l_3]
      rw [nI_1, nI_clamp (by omega), nI_clamp (by omega)]
      refine ⟨hL.o_3, vp_in_nI (by omega) (by decide), by rw [q2]; exact hok (x + 1) (by omega), vp_in_nI (by omega) (by decide), fun R16 e16 v17 e17 => ?_⟩
      subst e16; subst e17
      rw [shR_s hix]
      exact ih (x + 1) (by omega) (by omega)
  have s0 : shR R i i = R := by
    funext k j
    simp only [shR]
    rw [if_neg (by omega)]
  have := lp (m - 1 - i) i (by omega) (Nat.le_refl i)
  rw [s0] at this
  exact this
end DR
