/-! a record is taken out; thrown away or not -/
section GN
variable {sd : Int32} {mt k c s cb nf w n e m i : Nat} {U V U' V' : mM} {hs : Nat → Int32} {dl : Int32} {T T2 : mT} {R R2 : mR} {M M2 : mM}
theorem wm_reads (hM : LM T2 R2) (hs : s ≤ 1) {t : Nat} (ht : t ≤ 8) (h13 : M2 13 s = nI t) (he : e = 0 ∨ e = 2 ∨ e = 3) {Q : Int32 → Prop} (hq : Q (if e ≤ rdP s t then 1 else 0)) : w_Mo_reads 34 T2 R2 M2 1 (nI s) (nI e) Q := by
  refine ⟨hM.ok1, ?_⟩
  rw [hM.r_22, hM.l_13, nI_clamp (by omega), h13]
  refine ⟨hM.o_13, vp_in_nI (by omega) (by decide), fun v3 e3 => ?_⟩
  subst e3
  have s0 : nI s = 0 ↔ s = 0 := nI_eq (b := 0) (by omega) (by decide)
  have l4 : nI t < 4 ↔ t < 4 := nI_ltI (b := 4) (by omega) (by decide)
  have l7 : nI t < 7 ↔ t < 7 := nI_ltI (b := 7) (by omega) (by decide)
  have l8 : nI t < 8 ↔ t < 8 := nI_ltI (b := 8) (by omega) (by decide)
  rw [s0, l4, l7, l8]
  have rd0 : s = 0 → rdP s t = if 7 ≤ t then 3 else if 4 ≤ t then 2 else 0 := fun q => by subst q; rfl
  have rd1 : ¬ s = 0 → rdP s t = if 8 ≤ t then 3 else if 7 ≤ t then 2 else 0 := fun q => by unfold rdP; rw [if_neg q, if_neg q]
  have k1 : e ≤ rdP s t → Q 1 := fun q => by rw [if_pos q] at hq; exact hq
  have k0 : ¬ e ≤ rdP s t → Q 0 := fun q => by rw [if_neg q] at hq; exact hq
  rcases he with rfl | rfl | rfl
  · exact ⟨fun _ => k1 (Nat.zero_le _), fun q => absurd rfl q⟩
  · refine ⟨fun q => absurd q (by decide), fun _ => ⟨fun _ => ⟨fun z => ⟨fun y => k0 ?_, fun y => k1 ?_⟩, fun z => ⟨fun y => k0 ?_, fun y => k1 ?_⟩⟩, fun q => absurd rfl q⟩⟩
    · rw [rd0 z]; split <;> (try split) <;> omega
    · rw [rd0 z]; split <;> (try split) <;> omega
    · rw [rd1 z]; split <;> (try split) <;> omega
    · rw [rd1 z]; split <;> (try split) <;> omega
  · refine ⟨fun q => absurd q (by decide), fun _ => ⟨fun q => absurd q (by decide), fun _ => ⟨fun z => ⟨fun y => k0 ?_, fun y => k1 ?_⟩, fun z => ⟨fun y => k0 ?_, fun y => k1 ?_⟩⟩⟩⟩
    · rw [rd0 z]; split <;> (try split) <;> omega
    · rw [rd0 z]; split <;> (try split) <;> omega
    · rw [rd1 z]; split <;> (try split) <;> omega
    · rw [rd1 z]; split <;> (try split) <;> omega
theorem rdP_3 (s t : Nat) : rdP s t ≤ 3 := by
  unfold rdP
  generalize (if s = 0 then 7 else 8) = x
  generalize (if s = 0 then 4 else 7) = y
  split
  · exact Nat.le_refl _
  · split <;> omega
theorem NS.drop (hsd : isSd s cb nf w) (h : NS sd mt k c s cb w U V U' V' hs dl R M M2) (hm : m ≤ 60) (hi : i < m) (e1 : M 2 3 = nI m) : NS sd mt k c s cb w U V U' V' hs dl (tkR R i m) (sM M 2 3 (nI (m - 1))) (drM M2 i m) := by
  refine h.net hsd (fun a ha => sM_k a (by omega)) (fun a ha => drM_o ha) (fun j h8 h9 h10 => drM_1 h8) (fun d hd => ?_) (h.2.2.2.1.drop hm hi e1)
  rw [sM_j 5 (by decide), drM_1 (by decide)]; exact hd
/-- both find that the record is to be thrown away, or both that it isn't -/
theorem throws_both (hsd : isSd s cb nf w) (hS : LSd T R cb nf) (hM : LM T2 R2) {N : mM} {R0 : mR} (hN : ∀ {i j : Nat}, i < w → N (cb + i) j = U i j) (h : NS sd mt k c s cb w U V U' V' hs dl R0 M M2) {r x t : Nat} {sp : Int32} (hr : ok T 200 r 3) (ht : t ≤ 8) (hx : x ≤ 5) (u9 : U 0 9 = nI x) (v12 : V 12 0 = nI x) (v13 : V 13 0 = nI t) (u12 : U 0 12 = nI (rdP s t)) (hwin : winsR c nf U V) (he : e = 0 ∨ e = 2 ∨ e = 3) (hn : n ≤ c) (r8 : N r 8 = sp) (r4 : N r 4 = nI e) (r5 : N r 5 = nI n) (hi : i < 60) (v6 : M2 6 i = sp) (hsp : sp = 0 ∨ sp = 1) {kp : Int32} (hkp : (kp = 1) ∨ (kp = 0 ∧ V 15 e = -1)) :
    ∃ g : Int32, (g = 0 ∨ g = 1) ∧ (∀ Q : Int32 → Prop, Q g → w_Side_throwsAway 200 T R N cb r Q) ∧ (∀ (Q : Int32 → mM → Prop) (a5 a6 a7 a8 : Int32), (g = 1 → w_Mo_deliver_B134 34 T2 R2 Q 1 (nI i) (nI s) (nI e) (nI n) a5 a6 a7 a8 kp M2) → (g = 0 → w_Mo_deliver_B138 34 T2 R2 Q 1 (nI i) (nI s) (nI e) (nI n) a5 a6 a7 a8 kp M2) → w_Mo_deliver_B88 34 T2 R2 Q 1 (nI i) (nI s) (nI e) (nI n) a5 a6 a7 a8 kp M2) ∧ (g = 0 → x ≠ 5 ∧ e ≤ rdP s t ∧ newR (V 15 e) n) := by
  have hl := hsd.le
  have hc := h.1.2.2.2
  have e12 : M2 12 s = nI x := (stA1_v h rfl).trans v12
  have e13 : M2 13 s = nI t := (stA1_v h rfl).trans v13
  have hN0 : ∀ {j : Nat}, N cb j = U 0 j := fun {j} => hN (i := 0) (by omega)
  have hrd := rdP_3 s t
  have mo : ∀ {g : Int32}, (g = 0 ∨ g = 1) → (sp = 1 → g = 1) → (sp = 0 → x = 5 → g = 1) → (sp = 0 → x ≠ 5 → ¬ e ≤ rdP s t → g = 1) → (sp = 0 → x ≠ 5 → e ≤ rdP s t → kp = 0 → g = 0) → (sp = 0 → x ≠ 5 → e ≤ rdP s t → kp = 1 → ∃ rr : Int32, (∀ Q : Int32 → Prop, Q rr → w_Mo_isOld 34 T2 R2 M2 1 (nI s) (nI e) (nI n) Q) ∧ g = rr) → ∀ (Q : Int32 → mM → Prop) (a5 a6 a7 a8 : Int32), (g = 1 → w_Mo_deliver_B134 34 T2 R2 Q 1 (nI i) (nI s) (nI e) (nI n) a5 a6 a7 a8 kp M2) → (g = 0 → w_Mo_deliver_B138 34 T2 R2 Q 1 (nI i) (nI s) (nI e) (nI n) a5 a6 a7 a8 kp M2) → w_Mo_deliver_B88 34 T2 R2 Q 1 (nI i) (nI s) (nI e) (nI n) a5 a6 a7 a8 kp M2 := by
    intro g hg q1 q2 q3 q4 q5 Q a5 a6 a7 a8 y1 y0
    unfold w_Mo_deliver_B88
    simp only [hM.r_11, hM.r_12, hM.r_13, hM.r_14, hM.r_15, hM.r_16, hM.r_17, hM.r_18, hM.r_19, hM.r_20, hM.r_21, hM.r_22, hM.r_23, hM.r_24, hM.r_25, hM.r_26, hM.r_27, hM.r_28, hM.r_29, hM.r_30, hM.r_31, hM.r_32, hM.r_33, hM.r_34, hM.r_35, hM.r_36, hM.r_37, hM.r_38, hM.r_39, hM.r_40, hM.r_41, hM.r_42, hM.r_43, hM.l_2, hM.l_3, hM.l_4, hM.l_5, hM.l_6, hM.l_7, hM.l_8, hM.l_9, hM.l_10, hM.l_11, hM.l_12, hM.l_13, hM.l_14, hM.l_15, hM.l_16, hM.l_17, hM.l_18, hM.l_19, hM.l_20, hM.l_21, hM.l_22, hM.l_23, hM.l_24, hM.l_25, hM.l_26, hM.l_27, hM.l_28, hM.l_29, hM.l_30, hM.l_31, hM.l_32, hM.l_33, hM.l_34]
    rw [nI_clamp (by omega), v6, nI_clamp (by omega), e12]
    refine ⟨hM.o_6, vp_in_nI (by omega) (by decide), fun z => ⟨hM.o_12, vp_in_nI (by omega) (by decide), fun z5 => y1 (q2 z ((nI_eq (b := 5) (by omega) (by decide)).mp z5)), fun z5 => ?_⟩, fun z => y1 (q1 (hsp.resolve_left z))⟩
    have x5 : x ≠ 5 := fun q => z5 (by rw [q]; rfl)
    refine wm_reads hM hl.1 ht e13 he ?_
    by_cases hrd : e ≤ rdP s t
    · rw [if_pos hrd]
      refine ⟨fun q => absurd q (by decide), fun _ => ⟨fun zk => y0 (q4 z x5 hrd zk), fun zk => ?_⟩⟩
      have k1 : kp = 1 := by
        rcases hkp with q | ⟨q, -⟩
        · exact q
        · exact absurd q zk
      obtain ⟨rr, w1, w2⟩ := q5 z x5 hrd k1
      refine w1 _ ⟨fun q => y0 (w2.trans q), fun q => y1 ?_⟩
      rcases hg with r | r
      · exact absurd (w2.symm.trans r) q
      · exact r
    · rw [if_neg hrd]
      exact ⟨fun _ => y1 (q3 z x5 hrd), fun q => absurd rfl q⟩
  have cl : ∀ {Q : Int32 → Prop}, (¬ sp = 0 → Q 1) → (sp = 0 → nI x = 5 → Q 1) → (sp = 0 → ¬ nI x = 5 → nI (rdP s t) < nI e → Q 1) → (sp = 0 → ¬ nI x = 5 → ¬ nI (rdP s t) < nI e → w_Win_isOld 200 T R N (cb + (8 + 3 * nf + e)) (nI n) (fun r5 => ((r5 = 0 → Q 0) ∧ (¬ r5 = 0 → Q 1)))) → w_Side_throwsAway 200 T R N cb r Q := by
    intro Q q1 q2 q3 q4
    have ⟨g0, ⟨_, _, _, g5, _⟩, _, ⟨g31, g32, g33⟩, _⟩ := hS
    have ⟨g34, g35⟩ := g33 e (by omega)
    refine ⟨g0, hr, ?_⟩
    rw [r8, hN0 (j := 9), hN0 (j := 12), u9, u12, r4, r5, g5, g32, nI_clamp (by omega), g34]
    exact ⟨fun z => ⟨fun y => q2 z y, fun y => ⟨fun w => q3 z y w, fun w => ⟨g31, vp_in_nI (by omega) (by decide), g35, q4 z y w⟩⟩⟩, q1⟩
  rcases hsp with hsp | hsp
  · by_cases x5 : x = 5
    · have y5 : nI x = 5 := by rw [x5]; rfl
      exact ⟨1, Or.inr rfl, fun Q hq => cl (fun _ => hq) (fun _ _ => hq) (fun _ _ _ => hq) (fun _ y _ => absurd y5 y), mo (Or.inr rfl) (fun _ => rfl) (fun _ _ => rfl) (fun _ _ _ => rfl) (fun _ y => absurd x5 y) (fun _ y => absurd x5 y), fun q => absurd q (by decide)⟩
    · have y5 : ¬ nI x = 5 := fun q => x5 ((nI_eq (b := 5) (by omega) (by decide)).mp q)
      by_cases hrd2 : e ≤ rdP s t
      · have nlt : ¬ nI (rdP s t) < nI e := nI_nlt hrd2 (by omega)
        have hw := hwin e (by omega)
        have hw2 := hw
        obtain ⟨wg, -⟩ := hw
        have ⟨_, _, _, ⟨_, _, g33⟩, _⟩ := hS
        have ⟨g34, g35⟩ := g33 e (by omega)
        rw [wg] at hw2
        obtain ⟨rr, w1, w2, w3, w4, w5⟩ := old_both (T := T) (R := R) (M := N) (M2 := M2) (n := n) hM hl.1 g35 (by omega) hn hc hw2 ((hN (by omega)).trans wg) (hN (by omega)) (h.v (a := 15) (by show e < 4; omega)) (fun j hj => h.v (a := 16) (j := 16 * e + j) (by show 16 * e + j < 64; omega))
        refine ⟨rr, w1, fun Q hq => cl (fun q => absurd hsp q) (fun _ q => absurd q y5) (fun _ _ q => absurd q nlt) (fun _ _ _ => w2 _ ?_), mo w1 (fun q => ?_) (fun _ q => absurd q x5) (fun _ _ q => absurd hrd2 q) (fun _ _ _ q => ?_) (fun _ _ _ _ => ⟨rr, w3, rfl⟩), fun q => ⟨x5, hrd2, w4 q⟩⟩
        · rcases w1 with q | q
          · rw [q] at hq ⊢; exact ⟨fun _ => hq, fun y => absurd rfl y⟩
          · rw [q] at hq ⊢; exact ⟨fun y => absurd y (by decide), fun _ => hq⟩
        · rw [hsp] at q; exact absurd q (by decide)
        · rcases hkp with y | ⟨-, y⟩
          · rw [q] at y; exact absurd y (by decide)
          · exact w5 y
      · have lt : nI (rdP s t) < nI e := nI_lt (by omega) (by omega)
        exact ⟨1, Or.inr rfl, fun Q hq => cl (fun _ => hq) (fun _ _ => hq) (fun _ _ _ => hq) (fun _ _ q => absurd lt q), mo (Or.inr rfl) (fun _ => rfl) (fun _ _ => rfl) (fun _ _ _ => rfl) (fun _ _ q => absurd q hrd2) (fun _ _ q => absurd q hrd2), fun q => absurd q (by decide)⟩
  · have sn : ¬ sp = 0 := by rw [hsp]; decide
    exact ⟨1, Or.inr rfl, fun Q hq => cl (fun _ => hq) (fun q => absurd q sn) (fun q => absurd q sn) (fun q => absurd q sn), mo (Or.inr rfl) (fun _ => rfl) (fun q => absurd q sn) (fun q => absurd q sn) (fun q => absurd q sn) (fun q => absurd q sn), fun q => absurd q (by decide)⟩
end GN
