/-! the reference's constructor -/
def moI (n : Nat) (T : mT) (R : mR) (M : mM) : Prop := (∀ k, 0 < k → k ≤ n → T k = TM k) ∧ (∀ j, 11 ≤ j → j ≤ n + 9 → R 1 j = j - 9) ∧ ∀ k, 0 < k → k ≤ n → M k = fun _ => 0
/-- what it leaves in the reference's own cell -/
def m1R (sd : Int32) (mt : Nat) (M : mM) : Prop := M 1 0 = nI mt ∧ M 1 1 = nI (plS sd) ∧ M 1 2 = rS sd ∧ M 1 3 = sS sd ∧ M 1 4 = ckS sd ∧ M 1 5 = sDS sd ∧ M 1 6 = cDS sd ∧ ∀ j, 7 ≤ j → M 1 j = 0
section MO
variable {sd : Int32} {mt n k : Nat} {T : mT} {R : mR} {M : mM}
theorem mo_s (h : moI n T R M) (hn : 1 ≤ n) {v : Nat × Nat} (hv : TM (n + 1) = v) {T' : mT} {R1 R' : mR} {M' : mM} (h1 : T' = sT T (n + 1) v) (h2 : R1 = zR R (n + 1)) (h3 : M' = zM M (n + 1)) (h4 : R' = sR R1 1 (n + 10) (n + 1)) : moI (n + 1) T' R' M' := by
  obtain ⟨a1, a2, a3⟩ := h
  refine ⟨fun k k1 k2 => ?_, fun j j1 j2 => ?_, fun k k1 k2 => ?_⟩
  · rw [h1]
    show (if k = n + 1 then v else T k) = _
    by_cases y : k = n + 1
    · rw [if_pos y, y, hv]
    · rw [if_neg y]; exact a1 k k1 (by omega)
  · rw [h4, sR_t, h2, zR_k (by omega)]
    by_cases y : j = n + 10
    · rw [if_pos y]; omega
    · rw [if_neg y]; exact a2 j j1 (by omega)
  · rw [h3]
    by_cases y : k = n + 1
    · rw [y, zM_e]
    · rw [zM_k y]; exact a3 k k1 (by omega)
theorem wm_289 (h : moI 34 T R M) {Q : Nat → mT → mR → mM → Prop} (hq : ∀ M' : mM, LM T R → m1R sd mt M' → (∀ k, 2 ≤ k → k ≤ 34 → k ≠ 15 → k ≠ 16 → k ≠ 20 → M' k = fun _ => 0) → (∀ j, j < 8 → M' 15 j = -1) → (∀ j, j < 128 → M' 16 j = -1) → (∀ j, j < 2 → M' 20 j = -1) → Q 34 T R M') : w_Mo_init_B289 Q 1 sd 1 (nI mt) 34 T R M 33 2500 := by
  obtain ⟨a1, a2, a3⟩ := h
  have hLM : LM T R := ⟨a1, fun j j1 j2 => a2 j j1 (by omega)⟩
  have pl := plS_b sd
  have z1 : ∀ j, M 1 j = 0 := fun j => by rw [a3 1 (by decide) (by decide)]
  intro M168 b168 M169 b169
  rw [pl_and] at b169
  refine wm_mix (fun M171 b171 => wm_mix (fun M173 b173 => wm_mix (fun M175 b175 => ?_)))
  have e2 : M173 1 2 = rS sd := by rw [b173, sM_j 2 (by decide), b171, sM_e]; rfl
  have e3 : M173 1 3 = sS sd := by rw [b173, sM_e]; rfl
  rw [e2, e3] at b175
  have f : ∀ j, M175 1 j = if j = 4 then ckS sd else if j = 3 then sS sd else if j = 2 then rS sd else if j = 1 then nI (plS sd) else if j = 0 then nI mt else 0 := fun j => by
    rw [b175, sM_t, b173, sM_t, b171, sM_t, b169, sM_t, b168, sM_t, z1]; rfl
  have fo : ∀ k, k ≠ 1 → M175 k = M k := fun k hk => by rw [b175, sM_k k hk, b173, sM_k k hk, b171, sM_k k hk, b169, sM_k k hk, b168, sM_k k hk]
  refine wm_told (t := 6) hLM.ok1 pl.2 (f 1) (f 2) (f 3) (f 4) (f 5) (f 6) (by decide) (wm_mix (fun M178 b178 => ?_))
  have b178' : M178 = sM M175 1 5 (sDS sd) := b178
  have f5 : ∀ j, M178 1 j = if j = 5 then sDS sd else M175 1 j := fun j => by rw [b178', sM_t]
  refine wm_told (t := 7) hLM.ok1 pl.2 (r := rS sd) (s := sS sd) (ck := ckS sd) (sD := sDS sd) (cD := 0) (by rw [f5, if_neg (by decide), f]; rfl) (by rw [f5, if_neg (by decide), f]; rfl) (by rw [f5, if_neg (by decide), f]; rfl) (by rw [f5, if_neg (by decide), f]; rfl) (by rw [f5, if_pos rfl]) (by rw [f5, if_neg (by decide), f]; rfl) (by decide) (wm_mix (fun M181 b181 => ⟨9, ?_⟩))
  have b181' : M181 = sM M178 1 6 (cDS sd) := b181
  have g1 : m1R sd mt M181 := by
    have y : ∀ j, j ≠ 5 → j ≠ 6 → M181 1 j = M175 1 j := fun j h1 h2 => by rw [b181', sM_j j h2, f5, if_neg h1]
    refine ⟨?_, ?_, ?_, ?_, ?_, ?_, ?_, fun j hj => ?_⟩
    · rw [y 0 (by decide) (by decide), f]; rfl
    · rw [y 1 (by decide) (by decide), f]; rfl
    · rw [y 2 (by decide) (by decide), f]; rfl
    · rw [y 3 (by decide) (by decide), f]; rfl
    · rw [y 4 (by decide) (by decide), f]; rfl
    · rw [b181', sM_j 5 (by decide), f5, if_pos rfl]
    · rw [b181', sM_e]
    · rw [y j (by omega) (by omega), f, if_neg (by omega), if_neg (by omega), if_neg (by omega), if_neg (by omega), if_neg (by omega)]
  have g2 : ∀ k, 2 ≤ k → k ≤ 34 → M181 k = fun _ => 0 := fun k h1 h2 => by rw [b181', sM_k k (by omega), b178', sM_k k (by omega), fo k (by omega)]; exact a3 k (by omega) h2
  have m1c : ∀ {N N' : mM}, N' 1 = N 1 → m1R sd mt N → m1R sd mt N' := fun h h2 => by unfold m1R at h2 ⊢; rw [h]; exact h2
  have i15 := hLM.r_24
  have i16 := hLM.r_25
  have i20 := hLM.r_29
  -- the third loop
  have l3 : ∀ d i, i + d = 2 → ∀ N : mM, m1R sd mt N → (∀ k, 2 ≤ k → k ≤ 34 → k ≠ 15 → k ≠ 16 → k ≠ 20 → N k = fun _ => 0) → (∀ j, j < 8 → N 15 j = -1) → (∀ j, j < 128 → N 16 j = -1) → (∀ j, j < i → N 20 j = -1) → w_Mo_init_L409 Q 1 (d + 1) (nI i) 34 T R N 33 2500 := by
    intro d
    induction d with
    | zero =>
      intro i hi N p1 p2 p3 p4 p5
      have : i = 2 := by omega
      subst this
      unfold w_Mo_init_L409
      exact ⟨fun _ => hq N hLM p1 p2 p3 p4 p5, fun y => absurd (by decide) y⟩
    | succ d ih =>
      intro i hi N p1 p2 p3 p4 p5
      unfold w_Mo_init_L409
      rw [i20, hLM.l_20, nI_clamp (by omega)]
      refine ⟨fun y => absurd y (nI_ge (b := 2) (by omega) (by decide)), fun _ => ⟨hLM.o_20, vp_in_nI (by omega) (by decide), fun N' n1 v n2 => ?_⟩⟩
      rw [n2, nI_1]
      refine ih (i + 1) (by omega) N' (m1c (by rw [n1, sM_k 1 (by decide)]) p1) (fun k h1 h2 h3 h4 h5 => by rw [n1, sM_k k h5]; exact p2 k h1 h2 h3 h4 h5) (fun j hj => by rw [n1, sM_k 15 (by decide)]; exact p3 j hj) (fun j hj => by rw [n1, sM_k 16 (by decide)]; exact p4 j hj) (fun j hj => ?_)
      rw [n1, sM_t]
      by_cases y : j = i
      · rw [if_pos y]
      · rw [if_neg y]; exact p5 j (by omega)
  have l2 : ∀ d i, i + d = 128 → ∀ N : mM, m1R sd mt N → (∀ k, 2 ≤ k → k ≤ 34 → k ≠ 15 → k ≠ 16 → N k = fun _ => 0) → (∀ j, j < 8 → N 15 j = -1) → (∀ j, j < i → N 16 j = -1) → w_Mo_init_L387 Q 1 (d + 1) (nI i) 34 T R N 33 2500 := by
    intro d
    induction d with
    | zero =>
      intro i hi N p1 p2 p3 p4
      have : i = 128 := by omega
      subst this
      unfold w_Mo_init_L387
      exact ⟨fun _ => ⟨3, l3 2 0 (by decide) N p1 (fun k h1 h2 h3 h4 _ => p2 k h1 h2 h3 h4) p3 p4 (fun j hj => absurd hj (Nat.not_lt_zero j))⟩, fun y => absurd (by decide) y⟩
    | succ d ih =>
      intro i hi N p1 p2 p3 p4
      unfold w_Mo_init_L387
      rw [i16, hLM.l_16, nI_clamp (by omega)]
      refine ⟨fun y => absurd y (nI_ge (b := 128) (by omega) (by decide)), fun _ => ⟨hLM.o_16, vp_in_nI (by omega) (by decide), fun N' n1 v n2 => ?_⟩⟩
      rw [n2, nI_1]
      refine ih (i + 1) (by omega) N' (m1c (by rw [n1, sM_k 1 (by decide)]) p1) (fun k h1 h2 h3 h4 => by rw [n1, sM_k k h4]; exact p2 k h1 h2 h3 h4) (fun j hj => by rw [n1, sM_k 15 (by decide)]; exact p3 j hj) (fun j hj => ?_)
      rw [n1, sM_t]
      by_cases y : j = i
      · rw [if_pos y]
      · rw [if_neg y]; exact p4 j (by omega)
  have l1 : ∀ d i, i + d = 8 → ∀ N : mM, m1R sd mt N → (∀ k, 2 ≤ k → k ≤ 34 → k ≠ 15 → N k = fun _ => 0) → (∀ j, j < i → N 15 j = -1) → w_Mo_init_L366 Q 1 (d + 1) (nI i) 34 T R N 33 2500 := by
    intro d
    induction d with
    | zero =>
      intro i hi N p1 p2 p3
      have : i = 8 := by omega
      subst this
      unfold w_Mo_init_L366
      exact ⟨fun _ => ⟨129, l2 128 0 (by decide) N p1 (fun k h1 h2 h3 _ => p2 k h1 h2 h3) p3 (fun j hj => absurd hj (Nat.not_lt_zero j))⟩, fun y => absurd (by decide) y⟩
    | succ d ih =>
      intro i hi N p1 p2 p3
      unfold w_Mo_init_L366
      rw [i15, hLM.l_15, nI_clamp (by omega)]
      refine ⟨fun y => absurd y (nI_ge (b := 8) (by omega) (by decide)), fun _ => ⟨hLM.o_15, vp_in_nI (by omega) (by decide), fun N' n1 v n2 => ?_⟩⟩
      rw [n2, nI_1]
      refine ih (i + 1) (by omega) N' (m1c (by rw [n1, sM_k 1 (by decide)]) p1) (fun k h1 h2 h3 => by rw [n1, sM_k k h3]; exact p2 k h1 h2 h3) (fun j hj => ?_)
      rw [n1, sM_t]
      by_cases y : j = i
      · rw [if_pos y]
      · rw [if_neg y]; exact p3 j (by omega)
  exact l1 8 0 (by decide) M181 g1 (fun k h1 h2 _ => g2 k h1 h2) (fun j hj => absurd hj (Nat.not_lt_zero j))
theorem wm_newI (hT : T 1 = (11, 0)) (hM : M 1 = fun _ => 0) {u2 : Int32} (q1 : 8 ≤ u2 → u2 ≤ 24 → u2 = nI mt) (q2 : 8 ≤ u2 → ¬ u2 ≤ 24 → mt = 24) (q3 : ¬ 8 ≤ u2 → mt = 8) {Q : Nat → mT → mR → mM → Prop} (hq : ∀ (T' : mT) (R' : mR) (M' : mM), LM T' R' → m1R sd mt M' → (∀ k, 2 ≤ k → k ≤ 34 → k ≠ 15 → k ≠ 16 → k ≠ 20 → M' k = fun _ => 0) → (∀ j, j < 8 → M' 15 j = -1) → (∀ j, j < 128 → M' 16 j = -1) → (∀ j, j < 2 → M' 20 j = -1) → Q 34 T' R' M') : w_Mo_init 1 T R M 1 sd u2 Q := by
  have h1 : moI 1 T R M := ⟨fun k h1 h2 => by rw [show k = 1 by omega]; exact hT, fun j h1 h2 => absurd h1 (by omega), fun k h1 h2 => by rw [show k = 1 by omega]; exact hM⟩
  refine ⟨⟨by decide, by decide, by rw [hT]⟩, ?_⟩
  intro T2 R2 M2 t2 r2 m2 S2 s2
  have h2 := mo_s h1 (by decide) rfl t2 r2 m2 s2
  intro T3 R3 M3 t3 r3 m3 S3 s3
  have h3 := mo_s h2 (by decide) rfl t3 r3 m3 s3
  clear h2
  intro T4 R4 M4 t4 r4 m4 S4 s4
  have h4 := mo_s h3 (by decide) rfl t4 r4 m4 s4
  clear h3
  intro T5 R5 M5 t5 r5 m5 S5 s5
  have h5 := mo_s h4 (by decide) rfl t5 r5 m5 s5
  clear h4
  intro T6 R6 M6 t6 r6 m6 S6 s6
  have h6 := mo_s h5 (by decide) rfl t6 r6 m6 s6
  clear h5
  intro T7 R7 M7 t7 r7 m7 S7 s7
  have h7 := mo_s h6 (by decide) rfl t7 r7 m7 s7
  clear h6
  intro T8 R8 M8 t8 r8 m8 S8 s8
  have h8 := mo_s h7 (by decide) rfl t8 r8 m8 s8
  clear h7
  intro T9 R9 M9 t9 r9 m9 S9 s9
  have h9 := mo_s h8 (by decide) rfl t9 r9 m9 s9
  clear h8
  intro T10 R10 M10 t10 r10 m10 S10 s10
  have h10 := mo_s h9 (by decide) rfl t10 r10 m10 s10
  clear h9
  intro T11 R11 M11 t11 r11 m11 S11 s11
  have h11 := mo_s h10 (by decide) rfl t11 r11 m11 s11
  clear h10
  intro T12 R12 M12 t12 r12 m12 S12 s12
  have h12 := mo_s h11 (by decide) rfl t12 r12 m12 s12
  clear h11
  intro T13 R13 M13 t13 r13 m13 S13 s13
  have h13 := mo_s h12 (by decide) rfl t13 r13 m13 s13
  clear h12
  intro T14 R14 M14 t14 r14 m14 S14 s14
  have h14 := mo_s h13 (by decide) rfl t14 r14 m14 s14
  clear h13
  intro T15 R15 M15 t15 r15 m15 S15 s15
  have h15 := mo_s h14 (by decide) rfl t15 r15 m15 s15
  clear h14
  intro T16 R16 M16 t16 r16 m16 S16 s16
  have h16 := mo_s h15 (by decide) rfl t16 r16 m16 s16
  clear h15
  intro T17 R17 M17 t17 r17 m17 S17 s17
  have h17 := mo_s h16 (by decide) rfl t17 r17 m17 s17
  clear h16
  intro T18 R18 M18 t18 r18 m18 S18 s18
  have h18 := mo_s h17 (by decide) rfl t18 r18 m18 s18
  clear h17
  intro T19 R19 M19 t19 r19 m19 S19 s19
  have h19 := mo_s h18 (by decide) rfl t19 r19 m19 s19
  clear h18
  intro T20 R20 M20 t20 r20 m20 S20 s20
  have h20 := mo_s h19 (by decide) rfl t20 r20 m20 s20
  clear h19
  intro T21 R21 M21 t21 r21 m21 S21 s21
  have h21 := mo_s h20 (by decide) rfl t21 r21 m21 s21
  clear h20
  intro T22 R22 M22 t22 r22 m22 S22 s22
  have h22 := mo_s h21 (by decide) rfl t22 r22 m22 s22
  clear h21
  intro T23 R23 M23 t23 r23 m23 S23 s23
  have h23 := mo_s h22 (by decide) rfl t23 r23 m23 s23
  clear h22
  intro T24 R24 M24 t24 r24 m24 S24 s24
  have h24 := mo_s h23 (by decide) rfl t24 r24 m24 s24
  clear h23
  intro T25 R25 M25 t25 r25 m25 S25 s25
  have h25 := mo_s h24 (by decide) rfl t25 r25 m25 s25
  clear h24
  intro T26 R26 M26 t26 r26 m26 S26 s26
  have h26 := mo_s h25 (by decide) rfl t26 r26 m26 s26
  clear h25
  intro T27 R27 M27 t27 r27 m27 S27 s27
  have h27 := mo_s h26 (by decide) rfl t27 r27 m27 s27
  clear h26
  intro T28 R28 M28 t28 r28 m28 S28 s28
  have h28 := mo_s h27 (by decide) rfl t28 r28 m28 s28
  clear h27
  intro T29 R29 M29 t29 r29 m29 S29 s29
  have h29 := mo_s h28 (by decide) rfl t29 r29 m29 s29
  clear h28
  intro T30 R30 M30 t30 r30 m30 S30 s30
  have h30 := mo_s h29 (by decide) rfl t30 r30 m30 s30
  clear h29
  intro T31 R31 M31 t31 r31 m31 S31 s31
  have h31 := mo_s h30 (by decide) rfl t31 r31 m31 s31
  clear h30
  intro T32 R32 M32 t32 r32 m32 S32 s32
  have h32 := mo_s h31 (by decide) rfl t32 r32 m32 s32
  clear h31
  intro T33 R33 M33 t33 r33 m33 S33 s33
  have h33 := mo_s h32 (by decide) rfl t33 r33 m33 s33
  clear h32
  intro T34 R34 M34 t34 r34 m34 S34 s34
  have h34 := mo_s h33 (by decide) rfl t34 r34 m34 s34
  clear h33
  have fin : w_Mo_init_B289 Q 1 sd 1 (nI mt) 34 T34 S34 M34 33 2500 := wm_289 h34 (fun M' b1 b2 b3 b4 b5 b6 => hq T34 S34 M' b1 b2 b3 b4 b5 b6)
  refine ⟨fun y8 => ⟨fun y24 => ?_, fun y24 => ?_⟩, fun y8 => ?_⟩
  · rw [q1 y8 y24]; exact fin
  · rw [q2 y8 y24] at fin; exact fin
  · rw [q3 y8] at fin; exact fin
end MO
