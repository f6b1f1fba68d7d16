/-! byteOf, state, received, value, transcript, spoil -/
theorem v0_at {M : mM} {k j : Nat} (h : j < stA k) : vw M 0 k j = M k j := by rw [vw_at h, Nat.mul_zero, Nat.zero_add]
theorem v1_at {M : mM} {k j : Nat} (h : j < stA k) : vw M 1 k j = M k (stA k + j) := by rw [vw_at h, Nat.mul_one]
theorem sim_byteOf : ∀ (c : Nat) (T : mT) (R : mR) (M : mM) (T2 : mT) (R2 : mR) (M2 : mM) (u1 : Int32) (u2 : Int32), c < 512 → Sim c T R M T2 R2 M2 → w_X_byteOf 200 T R M 1 u1 u2 (fun r  => w_Mo_byteOf 34 T2 R2 M2 1 u1 u2 (fun r2  => r = r2 ∧ Sim (c + 1) T R M T2 R2 M2)) := by
  intro c T R M T2 R2 M2 u1 u2 hc h
  have hn := h.next hc
  obtain ⟨h0, sd, mt, k, hk, hL, hM, hP⟩ := h
  obtain ⟨m, hm, e1, e2, e3, hrow, hrec⟩ := cnt_eq hP
  refine ⟨hL.o_1, ?_⟩
  simp only [hL.r_1_0, hL.r_1_1, hL.r_1_2, hL.r_2_0, hL.r_2_2, hL.r_128_2, hL.r_128_3, hL.r_128_4, hL.r_128_5, hL.r_128_6, hL.r_128_7, hL.r_128_15, hL.r_128_16, hL.r_128_17, hL.r_128_18, hL.r_129_0, hL.r_131_0, hL.r_131_1, hL.r_131_2, hL.r_131_3, hL.r_134_0, hL.r_135_0, hL.r_136_0, hL.r_136_1, hL.r_143_2, hL.r_145_2, hL.r_147_2, hL.r_149_0, hL.r_149_1, hL.r_152_2, hL.r_152_3, hL.r_152_4, hL.r_152_5, hL.r_152_6, hL.r_152_7, hL.r_152_15, hL.r_152_16, hL.r_152_17, hL.r_152_18, hL.r_152_19, hL.r_153_0, hL.r_155_0, hL.r_155_1, hL.r_155_2, hL.r_155_3, hL.r_158_0, hL.r_191_2, hL.r_193_2, hL.r_195_2, hL.r_197_2, hL.r_199_2, hL.l_3, hL.l_130, hL.l_131, hL.l_132, hL.l_133, hL.l_135, hL.l_137, hL.l_138, hL.l_144, hL.l_146, hL.l_148, hL.l_150, hL.l_151, hL.l_154, hL.l_155, hL.l_156, hL.l_157, hL.l_159, hL.l_192, hL.l_194, hL.l_196, hL.l_198, hL.l_200]
  refine ⟨hL.o_2, has_w hm hL.o_2 e1 (fun hno => ⟨fun _ => ⟨hM.ok1, isrec_w hm hM e2 (fun _ => ⟨fun _ => ⟨rfl, hn⟩, fun q => absurd rfl q⟩) (fun i hi hu => absurd ⟨i, hi, hu⟩ hno)⟩, fun q => absurd rfl q⟩) (fun i hi hu => ⟨fun q => absurd q (by decide), fun _ => ?_⟩)⟩
  subst hu
  have hi60 : i < 60 := by omega
  obtain ⟨a0, a1, a2, a3, a4⟩ := row_ok hL hrow hi60
  rw [nI_clamp (by omega)]
  have hin : vp_in (nI i) 60 := vp_in_nI hi60 (by decide)
  obtain ⟨⟨b1, b2, b3, b4, b5⟩, b6, b7, b8, b9⟩ := rec_at (U := M) (V := M) a0 (hrec i hi)
  have go : ∀ r : Int32, (M2 3 i = 0 → u2 < 0 → r = -1) → (M2 3 i = 0 → ¬ u2 < 0 → M2 9 i ≤ u2 → r = -1) → (¬ M2 3 i = 0 → r = -1) → (M2 3 i = 0 → ∀ p q z j : Nat, p ≤ 7 → q + z ≤ 43 → j < z → u2 = nI j → M2 7 i = nI p → M2 8 i = nI q → M2 9 i = nI z → r = CT sd p (q + j)) → w_Mo_byteOf 34 T2 R2 M2 1 (nI i) u2 (fun r2 => r = r2 ∧ Sim (c + 1) T R M T2 R2 M2) := by
    intro r g0 g1 g2 g3
    refine ⟨hM.ok1, isrec_w hm hM e2 (fun hno => absurd ⟨i, hi, rfl⟩ hno) (fun i' _ _ => ⟨fun q => absurd q (by decide), fun _ => ?_⟩)⟩
    simp only [hM.r_11, hM.r_12, hM.r_13, hM.r_14, hM.r_15, hM.r_16, hM.r_17, hM.r_18, hM.r_19, hM.r_20, hM.r_21, hM.r_22, hM.r_23, hM.r_24, hM.r_25, hM.r_26, hM.r_27, hM.r_28, hM.r_29, hM.r_30, hM.r_31, hM.r_32, hM.r_33, hM.r_34, hM.r_35, hM.r_36, hM.r_37, hM.r_38, hM.r_39, hM.r_40, hM.r_41, hM.r_42, hM.r_43, hM.l_2, hM.l_3, hM.l_4, hM.l_5, hM.l_6, hM.l_7, hM.l_8, hM.l_9, hM.l_10, hM.l_11, hM.l_12, hM.l_13, hM.l_14, hM.l_15, hM.l_16, hM.l_17, hM.l_18, hM.l_19, hM.l_20, hM.l_21, hM.l_22, hM.l_23, hM.l_24, hM.l_25, hM.l_26, hM.l_27, hM.l_28, hM.l_29, hM.l_30, hM.l_31, hM.l_32, hM.l_33, hM.l_34]
    rw [nI_clamp (by omega)]
    refine ⟨hM.o_3, hin, fun hk0 => ⟨fun hu => ⟨g0 hk0 hu, hn⟩, fun hu => ⟨hM.o_9, hin, fun hz => ⟨g1 hk0 hu hz, hn⟩, fun hz => ?_⟩⟩, fun hk0 => ⟨g2 hk0, hn⟩⟩
    rcases b9 with ⟨c1, p, q, z, c2, c3, c4, c5, c6⟩ | ⟨c1, -⟩ | ⟨c1, -⟩
    · have hp7 : p ≤ 7 := by rcases c2.1 with ⟨-, w⟩ | ⟨-, w⟩ <;> omega
      have hqz : q + z ≤ 43 := Nat.le_trans c2.2.2.2.1 (SZ_le sd p)
      obtain ⟨j, hj, rfl⟩ := nI_of hu
      rw [c5] at hz
      have hjz : j < z := Nat.not_le.mp fun w => hz (nI_le w hj)
      refine ⟨hM.o_7, hin, hM.o_8, hin, ?_⟩
      rw [c3, c4, nI_add]
      exact ct_w hM hP.2.2.1 hp7 (by omega) ⟨g3 hk0 p q z j hp7 hqz hjz rfl c3 c4 c5, hn⟩
    · rw [c1] at hk0; exact absurd hk0 (by decide)
    · rw [c1] at hk0; exact absurd hk0 (by decide)
  refine ⟨hL.o_3, hin, a1, a1, fun hk0 => ?_, fun hk0 => ?_⟩
  · rw [b2] at hk0
    rcases b9 with ⟨c1, p, q, z, c2, c3, c4, c5, c6, c7, c8, c9, c10⟩ | ⟨c1, -⟩ | ⟨c1, -⟩
    · have hp7 : p ≤ 7 := by rcases c2.1 with ⟨-, w⟩ | ⟨-, w⟩ <;> omega
      have hz24 : z ≤ 24 := c2.2.2.1
      refine ⟨fun hu => go _ (fun _ _ => rfl) (fun _ w _ => absurd hu w) (fun w => absurd hk0 w) (fun _ p' q' z' j _ _ _ hj => ?_), fun hu => ⟨fun hz => go _ (fun _ w => absurd w hu) (fun _ _ _ => rfl) (fun w => absurd hk0 w) (fun _ p' q' z' j _ _ hjz hj _ _ d3 => ?_), fun hz => ?_⟩⟩
      · rw [hj] at hu; exact absurd hu (nI_pos (by omega))
      · rw [c9] at hz
        have : z = z' := (nI_eq (by omega) (by omega)).mp (c5.symm.trans d3)
        rw [hj] at hz; exact absurd hz (nI_ge (by omega) (by omega))
      · rw [c9] at hz
        obtain ⟨j, hj, rfl⟩ := nI_of hu
        have hjz : j < z := Nat.not_le.mp fun w => hz (nI_le w hj)
        simp only [a2, a4]
        rw [nI_clamp hj]
        refine ⟨a3, vp_in_nI (by omega) (by decide), go _ (fun _ w => absurd w hu) (fun _ _ w => ?_) (fun w => absurd hk0 w) (fun _ p' q' z' j' hp' hq' hj' d0 d1 d2 d3 => ?_)⟩
        · rw [c5] at w; exact absurd w (nI_ge hjz (by omega))
        · have x1 : p = p' := (nI_eq (by omega) (by omega)).mp (c3.symm.trans d1)
          have x2 : q = q' := (nI_eq (by have := c2.2.2.2.1; have := SZ_le sd p; omega) (by omega)).mp (c4.symm.trans d2)
          have x3 : j = j' := (nI_eq hj (by omega)).mp d0
          subst x1; subst x2; subst x3
          exact c10 j hjz
    · rw [c1] at hk0; exact absurd hk0 (by decide)
    · rw [c1] at hk0; exact absurd hk0 (by decide)
  · rw [b2] at hk0
    exact go _ (fun w => absurd w hk0) (fun w => absurd w hk0) (fun _ => rfl) (fun w => absurd w hk0)
section SV
variable {sd : Int32} {mt c k : Nat} {R : mR} {M : mM} {M2 : mM}
theorem st_at (h : SimP sd mt k c R M M2) : (M 128 9 = M2 12 0 ∧ M 152 9 = M2 12 1) ∧ (∃ t0 t1 : Nat, t0 ≤ 8 ∧ t1 ≤ 8 ∧ M2 13 0 = nI t0 ∧ M2 13 1 = nI t1 ∧ M 128 10 = TD sd t0 ∧ M 152 10 = TD sd t1) := by
  obtain ⟨-, -, -, -, ⟨-, ⟨x, t, h1, h2, h3, h4, h5, -⟩, -⟩, ⟨-, ⟨x', t', g1, g2, g3, g4, g5, -⟩, -⟩, -⟩ := h
  rw [uw_at (by decide)] at h2 h5 g2 g5
  rw [v0_at (by decide)] at h3 h4
  rw [v1_at (by decide)] at g3 g4
  refine ⟨⟨h2.trans h3.symm, g2.trans g3.symm⟩, t, t', ?_, ?_, h4, g4, h5, g5⟩
  · simp [stOK] at h1; omega
  · simp [stOK] at g1; omega
theorem val_at (h : SimP sd mt k c R M M2) : ∃ v0 v1 : Nat, v0 ≤ 60 ∧ v1 ≤ 60 ∧ M 128 8 = nI v0 ∧ M2 34 0 = nI v0 ∧ M 152 8 = nI v1 ∧ M2 34 1 = nI v1 ∧ (∀ i, i < v0 → M 133 i = M2 33 i) ∧ ∀ i, i < v1 → M 157 i = M2 33 (60 + i) := by
  obtain ⟨-, -, -, -, ⟨-, -, -, ⟨v, h1, h2, h3, h4⟩, -⟩, ⟨-, -, -, ⟨v', g1, g2, g3, g4⟩, -⟩, -⟩ := h
  rw [uw_at (by decide)] at h2 g2
  rw [v0_at (by decide)] at h3
  rw [v1_at (by decide)] at g3
  refine ⟨v, v', h1, g1, h2, h3, g2, g3, fun i hi => ?_, fun i hi => ?_⟩
  · have := h4 i hi
    rw [uw_at (by decide), v0_at (by show i < 60; omega)] at this
    exact this
  · have := g4 i hi
    rw [uw_at (by decide), v1_at (by show i < 60; omega)] at this
    exact this
end SV
theorem sim_state : ∀ (c : Nat) (T : mT) (R : mR) (M : mM) (T2 : mT) (R2 : mR) (M2 : mM) (u1 : Int32), c < 512 → Sim c T R M T2 R2 M2 → w_X_state 200 T R M 1 u1 (fun r  => w_Mo_state 34 T2 R2 M2 1 u1 (fun r2  => r = r2 ∧ Sim (c + 1) T R M T2 R2 M2)) := by
  intro c T R M T2 R2 M2 u1 hc h
  have hn := h.next hc
  obtain ⟨h0, sd, mt, k, hk, hL, hM, hP⟩ := h
  obtain ⟨⟨s0, s1⟩, -⟩ := st_at hP
  refine ⟨hL.o_1, side_w (fun hu => ⟨fun _ => ⟨hM.ok1, noside_w (fun _ => ⟨fun q => absurd q (by decide), fun _ => ⟨rfl, hn⟩⟩) (fun q => (q.elim hu.1 hu.2).elim)⟩, fun q => absurd rfl q⟩) (fun hu => ⟨fun q => absurd q (by decide), fun _ => ⟨hL.o_1, fun e => ?_, fun e => ?_⟩⟩)⟩
  · subst e
    rw [hL.r_1_1]
    refine ⟨hL.o_128, Or.inl hL.o_128, hM.ok1, noside_w (fun q => absurd rfl q.1) (fun _ => ⟨fun _ => ?_, fun q => absurd rfl q⟩)⟩
    rw [hM.r_21, hM.l_12]
    exact ⟨hM.o_12, vp_in_nI (by decide) (by decide), s0, hn⟩
  · have e : u1 = 1 := hu.resolve_left e
    subst e
    rw [hL.r_1_2]
    refine ⟨hL.o_152, Or.inr hL.o_152, hM.ok1, noside_w (fun q => absurd rfl q.2) (fun _ => ⟨fun _ => ?_, fun q => absurd rfl q⟩)⟩
    rw [hM.r_21, hM.l_12]
    exact ⟨hM.o_12, vp_in_nI (n := 1) (by decide) (by decide), s1, hn⟩
theorem sim_received : ∀ (c : Nat) (T : mT) (R : mR) (M : mM) (T2 : mT) (R2 : mR) (M2 : mM) (u1 : Int32), c < 512 → Sim c T R M T2 R2 M2 → w_X_received 200 T R M 1 u1 (fun r  => w_Mo_received 34 T2 R2 M2 1 u1 (fun r2  => r = r2 ∧ Sim (c + 1) T R M T2 R2 M2)) := by
  intro c T R M T2 R2 M2 u1 hc h
  have hn := h.next hc
  obtain ⟨h0, sd, mt, k, hk, hL, hM, hP⟩ := h
  obtain ⟨v0, v1, b0, b1, e1, e2, e3, e4, -⟩ := val_at hP
  refine ⟨hL.o_1, side_w (fun hu => ⟨fun _ => ⟨hM.ok1, noside_w (fun _ => ⟨fun q => absurd q (by decide), fun _ => ⟨rfl, hn⟩⟩) (fun q => (q.elim hu.1 hu.2).elim)⟩, fun q => absurd rfl q⟩) (fun hu => ⟨fun q => absurd q (by decide), fun _ => ⟨hL.o_1, fun e => ?_, fun e => ?_⟩⟩)⟩
  · subst e
    rw [hL.r_1_1]
    refine ⟨hL.o_128, Or.inl hL.o_128, hM.ok1, noside_w (fun q => absurd rfl q.1) (fun _ => ⟨fun _ => ?_, fun q => absurd rfl q⟩)⟩
    rw [hM.r_43, hM.l_34]
    exact ⟨hM.o_34, vp_in_nI (by decide) (by decide), e1.trans e2.symm, hn⟩
  · have e : u1 = 1 := hu.resolve_left e
    subst e
    rw [hL.r_1_2]
    refine ⟨hL.o_152, Or.inr hL.o_152, hM.ok1, noside_w (fun q => absurd rfl q.2) (fun _ => ⟨fun _ => ?_, fun q => absurd rfl q⟩)⟩
    rw [hM.r_43, hM.l_34]
    exact ⟨hM.o_34, vp_in_nI (n := 1) (by decide) (by decide), e3.trans e4.symm, hn⟩
theorem sim_transcript : ∀ (c : Nat) (T : mT) (R : mR) (M : mM) (T2 : mT) (R2 : mR) (M2 : mM) (u1 : Int32), c < 512 → Sim c T R M T2 R2 M2 → w_X_transcript 200 T R M 1 u1 (fun r  => w_Mo_transcript 34 T2 R2 M2 1 u1 (fun r2  => r = r2 ∧ Sim (c + 1) T R M T2 R2 M2)) := by
  intro c T R M T2 R2 M2 u1 hc h
  have hn := h.next hc
  obtain ⟨h0, sd, mt, k, hk, hL, hM, hP⟩ := h
  obtain ⟨-, t0, t1, b0, b1, e1, e2, e3, e4⟩ := st_at hP
  refine ⟨hL.o_1, side_w (fun hu => ⟨fun _ => ⟨hM.ok1, noside_w (fun _ => ⟨fun q => absurd q (by decide), fun _ => ⟨rfl, hn⟩⟩) (fun q => (q.elim hu.1 hu.2).elim)⟩, fun q => absurd rfl q⟩) (fun hu => ⟨fun q => absurd q (by decide), fun _ => ⟨hL.o_1, fun e => ?_, fun e => ?_⟩⟩)⟩
  · subst e
    rw [hL.r_1_1]
    refine ⟨hL.o_128, Or.inl hL.o_128, hM.ok1, noside_w (fun q => absurd rfl q.1) (fun _ => ⟨fun _ => ?_, fun q => absurd rfl q⟩)⟩
    rw [hM.r_22, hM.l_13]
    refine ⟨hM.o_13, vp_in_nI (by decide) (by decide), ?_⟩
    rw [show (0 : Int32).toNatClampNeg = 0 from rfl, e1]
    exact td_w hM hP.2.2.1 b0 ⟨e3, hn⟩
  · have e : u1 = 1 := hu.resolve_left e
    subst e
    rw [hL.r_1_2]
    refine ⟨hL.o_152, Or.inr hL.o_152, hM.ok1, noside_w (fun q => absurd rfl q.2) (fun _ => ⟨fun _ => ?_, fun q => absurd rfl q⟩)⟩
    rw [hM.r_22, hM.l_13]
    refine ⟨hM.o_13, vp_in_nI (n := 1) (by decide) (by decide), ?_⟩
    rw [show (1 : Int32).toNatClampNeg = 1 from rfl, e2]
    exact td_w hM hP.2.2.1 b1 ⟨e4, hn⟩
