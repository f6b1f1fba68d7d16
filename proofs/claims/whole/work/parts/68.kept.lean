/-! kept -/
theorem and255_ne (x : Int32) : x &&& 255 ≠ -1 := by
  intro h
  have h1 := congrArg (fun z : Int32 => z.toBitVec.getLsbD 8) h
  simp at h1
theorem CT_ne (sd : Int32) (p i : Nat) : CT sd p i ≠ -1 := by
  unfold CT ctP
  split
  · split
    · exact and255_ne _
    · decide
  · exact and255_ne _
  · split
    · exact and255_ne _
    · exact and255_ne _
  · exact and255_ne _
  · exact and255_ne _
  · exact and255_ne _
  · exact and255_ne _
  · exact and255_ne _
theorem SZ_v (sd : Int32) : SZ sd 0 = 8 ∧ SZ sd 1 = 4 ∧ SZ sd 2 = 8 ∧ SZ sd 3 = 4 ∧ SZ sd 4 = 6 ∧ SZ sd 5 = plS sd ∧ SZ sd 6 = 4 ∧ SZ sd 7 = 4 := ⟨rfl, rfl, rfl, rfl, rfl, rfl, rfl, rfl⟩
/-- there or not, as a number -/
def thr (B : Nat → Int32) : Nat → Int32 := fun x => if B x = -1 then 0 else 1
section KP
variable {sd : Int32} {T : mT} {R : mR} {M : mM} {T2 : mT} {R2 : mR} {M2 : mM}
theorem seg_eq {U : mM} {t : Nat} {hs : Nat → Int32} (h : asmR sd U t hs) {p : Nat} (h3 : 3 ≤ p) (h6 : p ≤ 6) : cnt (fun i => thr (U 23) (asmS sd (p - 2) + i)) (SZ sd p) = cnt (fun i => hs (48 * (p - 3) + i)) 48 := by
  have hsz := SZ_le sd p
  obtain ⟨-, -, g1, g2⟩ := h
  have e : cnt (fun i => hs (48 * (p - 3) + i)) 48 = cnt (fun i => hs (48 * (p - 3) + i)) (SZ sd p) + cnt (fun i => hs (48 * (p - 3) + (SZ sd p + i))) (48 - SZ sd p) := by
    rw [← cnt_add (fun i => hs (48 * (p - 3) + i))]; congr 1; omega
  rw [e, cnt_0 (n := 48 - SZ sd p) (fun i hi => ?_), Nat.add_zero]
  · refine cnt_congr (fun i hi => ?_)
    show thr (U 23) (asmS sd (p - 2) + i) = 0 ↔ hs (48 * (p - 3) + i) = 0
    unfold thr
    rcases g1 p i h3 h6 hi with ⟨a, b⟩ | ⟨a, b⟩
    · rw [a, b, if_neg (CT_ne sd p i)]
    · rw [a, b, if_pos rfl]
  · exact g2 p (SZ sd p + i) h3 h6 (by omega) (by omega)
/-- how many bytes are kept -/
def kpt (hs : Nat → Int32) (t : Nat) : Nat := (if 3 < t then 0 else cnt (fun i => hs (48 * 0 + i)) 48) + (if 4 < t then 0 else cnt (fun i => hs (48 * 1 + i)) 48) + (if 5 < t then 0 else cnt (fun i => hs (48 * 2 + i)) 48) + (if 6 < t then 0 else cnt (fun i => hs (48 * 3 + i)) 48)
theorem kpt_eq {U : mM} {t a : Nat} {hs : Nat → Int32} (h : asmR sd U t hs) (ht : t ≤ 8) (h7 : t ≠ 7) (ha : a = asmS sd (nxA t)) : cnt (fun i => thr (U 23) (a + i)) (14 + plS sd - a) = kpt hs t := by
  have s3 : cnt (fun i => thr (U 23) (asmS sd (3 - 2) + i)) (SZ sd 3) = cnt (fun i => hs (48 * 0 + i)) 48 := seg_eq h (p := 3) (by decide) (by decide)
  have s4 : cnt (fun i => thr (U 23) (asmS sd (4 - 2) + i)) (SZ sd 4) = cnt (fun i => hs (48 * 1 + i)) 48 := seg_eq h (p := 4) (by decide) (by decide)
  have s5 : cnt (fun i => thr (U 23) (asmS sd (5 - 2) + i)) (SZ sd 5) = cnt (fun i => hs (48 * 2 + i)) 48 := seg_eq h (p := 5) (by decide) (by decide)
  have s6 : cnt (fun i => thr (U 23) (asmS sd (6 - 2) + i)) (SZ sd 6) = cnt (fun i => hs (48 * 3 + i)) 48 := seg_eq h (p := 6) (by decide) (by decide)
  obtain ⟨-, -, -, z3, z4, z5, z6, -⟩ := SZ_v sd
  rw [z3, show asmS sd (3 - 2) = 0 from rfl] at s3
  rw [z4, show asmS sd (4 - 2) = 4 from rfl] at s4
  rw [z5, show asmS sd (5 - 2) = 10 from rfl] at s5
  rw [z6, show asmS sd (6 - 2) = 10 + plS sd from rfl] at s6
  have c6 : ∀ F : Nat → Int32, cnt (fun i => F (10 + plS sd + i)) 4 = cnt (fun i => F (10 + plS sd + i)) (14 + plS sd - (10 + plS sd)) := fun F => by rw [show 14 + plS sd - (10 + plS sd) = 4 by omega]
  have c5 : ∀ F : Nat → Int32, cnt (fun i => F (10 + i)) (14 + plS sd - 10) = cnt (fun i => F (10 + i)) (plS sd) + cnt (fun i => F (10 + plS sd + i)) 4 := fun F => by
    rw [show 14 + plS sd - 10 = plS sd + 4 by omega, cnt_add]; simp only [Nat.add_assoc]
  have c4 : ∀ F : Nat → Int32, cnt (fun i => F (4 + i)) (14 + plS sd - 4) = cnt (fun i => F (4 + i)) 6 + cnt (fun i => F (10 + i)) (14 + plS sd - 10) := fun F => by
    rw [show 14 + plS sd - 4 = 6 + (14 + plS sd - 10) by omega, cnt_add]; simp only [← Nat.add_assoc]
  have c3 : ∀ F : Nat → Int32, cnt (fun i => F (0 + i)) (14 + plS sd - 0) = cnt (fun i => F (0 + i)) 4 + cnt (fun i => F (4 + i)) (14 + plS sd - 4) := fun F => by
    rw [show 14 + plS sd - 0 = 4 + (14 + plS sd - 4) by omega, cnt_add]; simp only [Nat.zero_add]
  unfold kpt
  rcases (show t ≤ 3 ∨ t = 4 ∨ t = 5 ∨ t = 6 ∨ t = 8 by omega) with q | rfl | rfl | rfl | rfl
  · unfold nxA at ha
    rw [if_pos q] at ha
    have ha : a = 0 := ha
    subst ha
    rw [if_neg (by omega), if_neg (by omega), if_neg (by omega), if_neg (by omega), c3, c4, c5, s3, s4, s5, s6]
    omega
  · have ha : a = 4 := ha
    subst ha
    rw [c4, c5, s4, s5, s6]
    simp
    omega
  · have ha : a = 10 := ha
    subst ha
    rw [c5, s5, s6]
    simp
  · have ha : a = 10 + plS sd := ha
    subst ha
    rw [← c6, s6]
    simp
  · have ha : a = 14 + plS sd := ha
    subst ha
    rw [Nat.sub_self]
    rfl
theorem wc_untaken (hL : LC sd T R) {nx a : Nat} (hnx : nx ≤ 5) (h2 : M 149 2 = nI nx) (hst : M 150 nx = nI a) (ha : a ≤ 14 + plS sd) {Q : Int32 → Prop} (hq : Q (nI (cnt (fun i => thr (M 151) (a + i)) (14 + plS sd - a)))) : w_Asm_countUntaken 200 T R M 149 Q := by
  have hpl := plS_b sd
  refine ⟨hL.o_149, hL.o_149, ?_⟩
  rw [h2]
  simp only [hL.r_149_0, hL.r_149_1, hL.l_150, hL.l_151]
  refine ⟨fun q => absurd q (nI_pos (by omega)), fun _ => ⟨hL.o_150, fun q => absurd q (nI_ge (by omega) (by decide)), fun _ => ⟨vp_in_nI (by omega) (by decide), ?_⟩⟩⟩
  rw [nI_clamp (by omega), hst]
  refine ⟨14 + plS sd - a + 1, ?_⟩
  have lp : ∀ d i, i + d = 14 + plS sd - a → w_Asm_countUntaken_L11 200 T R M Q 149 (d + 1) (nI (cnt (fun i => thr (M 151) (a + i)) i)) (nI (a + i)) := by
    intro d
    induction d with
    | zero =>
      intro i hi
      unfold w_Asm_countUntaken_L11
      simp only [hL.r_149_1, hL.l_151]
      have : i = 14 + plS sd - a := by omega
      subst this
      exact ⟨hL.o_151, fun _ => hq, fun q => absurd (nI_le (by omega) (by omega)) q⟩
    | succ d ih =>
      intro i hi
      unfold w_Asm_countUntaken_L11
      simp only [hL.r_149_1, hL.l_151]
      have := ih (i + 1) (by omega)
      unfold cnt at this
      refine ⟨hL.o_151, fun q => absurd q (nI_ge (by omega) (by omega)), fun _ => ⟨vp_in_nI (by omega) (by omega), ?_, ?_⟩⟩
      · rw [nI_clamp (by omega)]
        intro z v5 e5
        subst e5
        rw [show thr (M 151) (a + i) = 0 from if_pos z] at this
        rw [nI_1]; exact this
      · rw [nI_clamp (by omega)]
        intro z v6 e6 v7 e7
        subst e6; subst e7
        rw [show thr (M 151) (a + i) = 1 from if_neg z] at this
        rw [nI_1, nI_1]; exact this
  exact lp _ 0 (by omega)
theorem wm_kept (hM : LM T2 R2) {t : Nat} (ht : t ≤ 8) (h13 : M2 13 0 = nI t) {Q : Int32 → Prop} (hq : Q (nI (kpt (M2 32) t))) : ∃ N13, w_Mo_kept_L13 34 T2 R2 M2 Q 1 0 N13 0 3 := by
  -- one message
  have inner : ∀ (p N acc : Nat), 3 ≤ p → p ≤ 6 → (w_Mo_kept_L13 34 T2 R2 M2 Q 1 0 N (nI (acc + (if p < t then 0 else cnt (fun i => M2 32 (48 * (p - 3) + i)) 48))) (nI (p + 1))) → w_Mo_kept_L13 34 T2 R2 M2 Q 1 0 (N + 1) (nI acc) (nI p) := by
    intro p N acc h3 h6 hN
    unfold w_Mo_kept_L13
    refine ⟨fun q => absurd q (fun z => nI_ge (show 6 < p from (nI_ltI (by decide) (by omega)).mp z) (by omega) (nI_le (by omega) (by omega))), fun _ => ⟨49, ?_⟩⟩
    have lp : ∀ d i, i + d = 48 → w_Mo_kept_L22 34 T2 R2 M2 Q (fun a0 a1 a2 a3 => w_Mo_kept_L13 34 T2 R2 M2 Q a0 a1 N a2 a3) 1 0 (nI p) (d + 1) (nI (acc + (if p < t then 0 else cnt (fun i => M2 32 (48 * (p - 3) + i)) i))) (nI i) := by
      intro d
      induction d with
      | zero =>
        intro i hi
        unfold w_Mo_kept_L22
        have : i = 48 := by omega
        subst this
        refine ⟨fun _ v5 e5 => ?_, fun q => absurd (show (48 : Int32) ≤ nI 48 by decide) q⟩
        subst e5
        rw [nI_1]; exact hN
      | succ d ih =>
        intro i hi
        unfold w_Mo_kept_L22
        have hih := ih (i + 1) (by omega)
        refine ⟨fun q => absurd q (nI_ge (b := 48) (by omega) (by decide)), fun _ => ⟨fun _ => ?_, fun q => absurd rfl q⟩⟩
        simp only [hM.r_22, hM.l_13, hM.r_41, hM.l_32]
        rw [h13]
        refine ⟨hM.o_13, vp_in_nI (n := 0) (by decide) (by decide), fun q v8 e8 v9 e9 => ?_, fun q => ?_⟩
        · have q : p < t := (nI_ltI (by omega) (by omega)).mp q
          subst e8; subst e9
          rw [if_pos q] at hih ⊢
          rw [show (0 : Int32) = nI 0 from rfl, nI_add, nI_1]; exact hih
        · have q : ¬ p < t := fun z => q (nI_lt z (by omega))
          rw [if_neg q] at hih ⊢
          unfold cnt at hih
          rw [show (3 : Int32) = nI 3 from rfl, pk_sub h3, show (48 : Int32) = nI 48 from rfl, i12, nI_clamp (by omega)]
          refine ⟨hM.o_32, vp_in_nI (by omega) (by decide), fun z v8 e8 v9 e9 => ?_, fun z v8 e8 v9 e9 => ?_⟩
          · subst e8; subst e9
            rw [if_pos z, Nat.add_zero] at hih
            rw [show (0 : Int32) = nI 0 from rfl, nI_add, nI_1]; exact hih
          · subst e8; subst e9
            rw [if_neg z, ← Nat.add_assoc] at hih
            rw [nI_1, nI_1]; exact hih
    have := lp 48 0 (by omega)
    have e0 : acc + (if p < t then 0 else cnt (fun i => M2 32 (48 * (p - 3) + i)) 0) = acc := by split <;> rfl
    rw [e0] at this
    exact this
  refine ⟨5, inner 3 4 0 (by decide) (by decide) (inner 4 3 _ (by decide) (by decide) (inner 5 2 _ (by decide) (by decide) (inner 6 1 _ (by decide) (by decide) ?_)))⟩
  unfold w_Mo_kept_L13
  refine ⟨fun _ => ?_, fun q => absurd (show (6 : Int32) < nI (6 + 1) by decide) q⟩
  have : 0 + (if 3 < t then 0 else cnt (fun i => M2 32 (48 * (3 - 3) + i)) 48) + (if 4 < t then 0 else cnt (fun i => M2 32 (48 * (4 - 3) + i)) 48) + (if 5 < t then 0 else cnt (fun i => M2 32 (48 * (5 - 3) + i)) 48) + (if 6 < t then 0 else cnt (fun i => M2 32 (48 * (6 - 3) + i)) 48) = kpt (M2 32) t := by
    unfold kpt; rw [Nat.zero_add]
  rw [this]
  exact hq
/-- side 1 keeps nothing -/
theorem wm_kept1 (hM : LM T2 R2) {Q : Int32 → Prop} (hq : Q 0) : ∃ N13, w_Mo_kept_L13 34 T2 R2 M2 Q 1 1 N13 0 3 := by
  have inner : ∀ (p N : Nat), p ≤ 6 → (w_Mo_kept_L13 34 T2 R2 M2 Q 1 1 N 0 (nI (p + 1))) → w_Mo_kept_L13 34 T2 R2 M2 Q 1 1 (N + 1) 0 (nI p) := by
    intro p N h6 hN
    unfold w_Mo_kept_L13
    refine ⟨fun q => absurd q (fun z => nI_ge (show 6 < p from (nI_ltI (by decide) (by omega)).mp z) (by omega) (nI_le (by omega) (by omega))), fun _ => ⟨49, ?_⟩⟩
    have lp : ∀ d i, i + d = 48 → w_Mo_kept_L22 34 T2 R2 M2 Q (fun a0 a1 a2 a3 => w_Mo_kept_L13 34 T2 R2 M2 Q a0 a1 N a2 a3) 1 1 (nI p) (d + 1) 0 (nI i) := by
      intro d
      induction d with
      | zero =>
        intro i hi
        unfold w_Mo_kept_L22
        have : i = 48 := by omega
        subst this
        refine ⟨fun _ v5 e5 => ?_, fun q => absurd (show (48 : Int32) ≤ nI 48 by decide) q⟩
        subst e5
        rw [nI_1]; exact hN
      | succ d ih =>
        intro i hi
        unfold w_Mo_kept_L22
        refine ⟨fun q => absurd q (nI_ge (b := 48) (by omega) (by decide)), fun _ => ⟨fun q => absurd q (by decide), fun _ v16 e16 v17 e17 => ?_⟩⟩
        subst e16; subst e17
        rw [nI_1]; exact ih (i + 1) (by omega)
    exact lp 48 0 (by omega)
  refine ⟨5, inner 3 4 (by decide) (inner 4 3 (by decide) (inner 5 2 (by decide) (inner 6 1 (by decide) ?_)))⟩
  unfold w_Mo_kept_L13
  exact ⟨fun _ => hq, fun q => absurd (show (6 : Int32) < nI (6 + 1) by decide) q⟩
end KP
theorem nxA_b {t : Nat} (h8 : t ≤ 8) (h7 : t ≠ 7) : 1 ≤ nxA t ∧ nxA t ≤ 5 := by
  unfold nxA
  split
  · omega
  · split <;> omega
theorem asm_at {sd : Int32} {mt c k : Nat} {R : mR} {M M2 : mM} (h : SimP sd mt k c R M M2) : ∃ t : Nat, t ≤ 8 ∧ t ≠ 7 ∧ M2 13 0 = nI t ∧ asmR sd (uw M 128 24) t (M2 32) := by
  obtain ⟨-, -, -, -, ⟨-, ⟨x, t, h1, h2, h3, h4, -⟩, -⟩, -, ⟨⟨t', g0, g1, g2⟩, -⟩, -⟩ := h
  rw [v0_at (by decide)] at h4 g1
  have b : t ≤ 8 ∧ t ≠ 7 := by simp [stOK] at h1; omega
  have : t = t' := (nI_eq (by omega) (by omega)).mp (h4.symm.trans g1)
  subst this
  exact ⟨t, b.1, b.2, g1, g2⟩
theorem sim_kept : ∀ (c : Nat) (T : mT) (R : mR) (M : mM) (T2 : mT) (R2 : mR) (M2 : mM) (u1 : Int32), c < 512 → Sim c T R M T2 R2 M2 → w_X_kept 200 T R M 1 u1 (fun r  => w_Mo_kept 34 T2 R2 M2 1 u1 (fun r2  => r = r2 ∧ Sim (c + 1) T R M T2 R2 M2)) := by
  intro c T R M T2 R2 M2 u1 hc h
  have hn := h.next hc
  obtain ⟨h0, sd, mt, k, hk, hL, hM, hP⟩ := h
  obtain ⟨t, t8, t7, ht, hA⟩ := asm_at hP
  have hpl := plS_b sd
  refine ⟨hL.o_1, side_w (fun hu => ⟨fun _ => ⟨hM.ok1, noside_w (fun _ => ⟨fun q => absurd q (by decide), fun _ => ⟨rfl, hn⟩⟩) (fun q => (q.elim hu.1 hu.2).elim)⟩, fun q => absurd rfl q⟩) (fun hu => ⟨fun q => absurd q (by decide), fun _ => ⟨fun e => ?_, fun e => ?_⟩⟩)⟩
  · subst e
    simp only [hL.r_1_1, hL.r_128_18]
    have a1 := hA.1
    rw [uw_at (by decide)] at a1
    have nb := nxA_b t8 t7
    have a2 := hA.2.1 (nxA t) (by omega)
    rw [uw_at (by decide)] at a2
    refine ⟨hL.o_128, hL.o_149, wc_untaken hL nb.2 a1 a2 ?_ ⟨hM.ok1, noside_w (fun q => absurd rfl q.1) (fun _ => ⟨fun _ => ?_, fun q => absurd rfl q⟩)⟩⟩
    · unfold asmS
      split
      · omega
      · split
        · omega
        · split
          · omega
          · split <;> omega
    · refine wm_kept hM t8 ht ⟨?_, hn⟩
      have := kpt_eq hA t8 t7 rfl
      rw [← this]
      have e23 : uw M 128 24 23 = M 151 := by funext j; exact uw_at (by decide)
      rw [e23]
  · have e : u1 = 1 := hu.resolve_left e
    subst e
    exact ⟨hM.ok1, noside_w (fun q => absurd rfl q.2) (fun _ => ⟨fun _ => wm_kept1 hM ⟨rfl, hn⟩, fun q => absurd rfl q⟩)⟩
