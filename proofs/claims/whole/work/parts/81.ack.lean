/-! both send an ACK -/
def akM (N : mM) (m s i : Nat) : mM := fun a j => if a = 10 ∧ 8 * m ≤ j ∧ j < 8 * m + i then N 18 (8 * s + (j - 8 * m)) else if a = 11 ∧ 8 * m ≤ j ∧ j < 8 * m + i then N 19 (8 * s + (j - 8 * m)) else N a j
theorem akM_t (N : mM) (m s i a j : Nat) : akM N m s i a j = if a = 10 ∧ 8 * m ≤ j ∧ j < 8 * m + i then N 18 (8 * s + (j - 8 * m)) else if a = 11 ∧ 8 * m ≤ j ∧ j < 8 * m + i then N 19 (8 * s + (j - 8 * m)) else N a j := rfl
theorem akM_o {N : mM} {m s i a : Nat} (h : a ≠ 10) (h' : a ≠ 11) : akM N m s i a = N a := by
  funext j; rw [akM_t, if_neg (by omega), if_neg (by omega)]
theorem akM_0 {N : mM} {m s : Nat} : akM N m s 0 = N := by
  funext a j; rw [akM_t, if_neg (by omega), if_neg (by omega)]
theorem akM_s {N : mM} {m s i : Nat} : sM (sM (akM N m s i) 10 (8 * m + i) (N 18 (8 * s + i))) 11 (8 * m + i) (N 19 (8 * s + i)) = akM N m s (i + 1) := by
  funext a j
  rw [sMt, sMt, akM_t, akM_t]
  by_cases h10 : a = 10
  · subst h10
    rw [if_neg (by omega)]
    by_cases q : j = 8 * m + i
    · subst q
      rw [if_pos ⟨rfl, rfl⟩, if_pos (by omega)]
      congr 1; omega
    · rw [if_neg (by omega)]
      by_cases q2 : 8 * m ≤ j ∧ j < 8 * m + i
      · rw [if_pos (by omega), if_pos (by omega)]
      · rw [if_neg (by omega), if_neg (by omega), if_neg (by omega), if_neg (by omega)]
  · by_cases h11 : a = 11
    · subst h11
      by_cases q : j = 8 * m + i
      · subst q
        rw [if_pos ⟨rfl, rfl⟩, if_neg (by omega), if_pos (by omega)]
        congr 1; omega
      · rw [if_neg (by omega), if_neg (by omega), if_neg (by omega)]
        by_cases q2 : 8 * m ≤ j ∧ j < 8 * m + i
        · rw [if_pos (by omega), if_neg (by omega), if_pos (by omega)]
        · rw [if_neg (by omega), if_neg (by omega), if_neg (by omega)]
    · rw [if_neg (by omega), if_neg (by omega), if_neg (by omega), if_neg (by omega), if_neg (by omega), if_neg (by omega)]
section AK
variable {sd : Int32} {mt k c s cb nf w m : Nat} {U V U' V' : mM} {hs : Nat → Int32} {dl : Int32} {T T2 : mT} {R R2 : mR} {M M2 : mM}
theorem wm_ackL (hM : LM T2 R2) (hs : s ≤ 1) (hm : m < 60) {N : mM} {q : Nat} (hq8 : q ≤ 8) (h17 : N 17 s = nI q) {Q : mM → Prop} (hq : Q (akM N m s q)) : ∃ N85, w_Mo_sendAck_L85 34 T2 R2 Q 1 (nI s) (nI m) N85 0 N := by
  have lp : ∀ d i, i + d = q → w_Mo_sendAck_L85 34 T2 R2 Q 1 (nI s) (nI m) (d + 1) (nI i) (akM N m s i) := by
    intro d
    induction d with
    | zero =>
      intro i hi
      have : i = q := by omega
      subst this
      unfold w_Mo_sendAck_L85
      simp only [hM.r_11, hM.r_12, hM.r_13, hM.r_14, hM.r_15, hM.r_16, hM.r_17, hM.r_18, hM.r_19, hM.r_20, hM.r_21, hM.r_22, hM.r_23, hM.r_24, hM.r_25, hM.r_26, hM.r_27, hM.r_28, hM.r_29, hM.r_30, hM.r_31, hM.r_32, hM.r_33, hM.r_34, hM.r_35, hM.r_36, hM.r_37, hM.r_38, hM.r_39, hM.r_40, hM.r_41, hM.r_42, hM.r_43, hM.l_2, hM.l_3, hM.l_4, hM.l_5, hM.l_6, hM.l_7, hM.l_8, hM.l_9, hM.l_10, hM.l_11, hM.l_12, hM.l_13, hM.l_14, hM.l_15, hM.l_16, hM.l_17, hM.l_18, hM.l_19, hM.l_20, hM.l_21, hM.l_22, hM.l_23, hM.l_24, hM.l_25, hM.l_26, hM.l_27, hM.l_28, hM.l_29, hM.l_30, hM.l_31, hM.l_32, hM.l_33, hM.l_34]
      rw [nI_clamp (by omega), akM_o (by decide) (by decide), h17]
      exact ⟨hM.o_17, vp_in_nI (by omega) (by decide), fun _ => hq, fun x => absurd (nI_le (Nat.le_refl i) (by omega)) x⟩
    | succ d ih =>
      intro i hi
      unfold w_Mo_sendAck_L85
      simp only [hM.r_11, hM.r_12, hM.r_13, hM.r_14, hM.r_15, hM.r_16, hM.r_17, hM.r_18, hM.r_19, hM.r_20, hM.r_21, hM.r_22, hM.r_23, hM.r_24, hM.r_25, hM.r_26, hM.r_27, hM.r_28, hM.r_29, hM.r_30, hM.r_31, hM.r_32, hM.r_33, hM.r_34, hM.r_35, hM.r_36, hM.r_37, hM.r_38, hM.r_39, hM.r_40, hM.r_41, hM.r_42, hM.r_43, hM.l_2, hM.l_3, hM.l_4, hM.l_5, hM.l_6, hM.l_7, hM.l_8, hM.l_9, hM.l_10, hM.l_11, hM.l_12, hM.l_13, hM.l_14, hM.l_15, hM.l_16, hM.l_17, hM.l_18, hM.l_19, hM.l_20, hM.l_21, hM.l_22, hM.l_23, hM.l_24, hM.l_25, hM.l_26, hM.l_27, hM.l_28, hM.l_29, hM.l_30, hM.l_31, hM.l_32, hM.l_33, hM.l_34]
      have i1 : (8 : Int32) * nI s + nI i = nI (8 * s + i) := i12 (a := 8)
      have i2 : (8 : Int32) * nI m + nI i = nI (8 * m + i) := i12 (a := 8)
      rw [nI_clamp (by omega), akM_o (a := 17) (by decide) (by decide), h17, i1, i2, nI_clamp (by omega), nI_clamp (by omega), akM_o (a := 18) (by decide) (by decide)]
      refine ⟨hM.o_17, vp_in_nI (by omega) (by decide), fun x => absurd x (nI_ge (by omega) (by omega)), fun _ => ⟨hM.o_10, hM.o_18, vp_in_nI (by omega) (by decide), vp_in_nI (by omega) (by decide), fun M26 e26 => ⟨hM.o_11, hM.o_19, vp_in_nI (by omega) (by decide), vp_in_nI (by omega) (by decide), fun M31 e31 v32 e32 => ?_⟩⟩⟩
      have : M26 19 = N 19 := by rw [e26, sM_k 19 (by decide), akM_o (by decide) (by decide)]
      rw [this] at e31
      subst e31; subst e26; subst e32
      rw [akM_s, nI_1]
      exact ih (i + 1) (by omega)
  refine ⟨q + 1, ?_⟩
  have := lp q 0 (by omega)
  rw [akM_0] at this
  exact this
theorem wrP_3 (s t : Nat) : wrP s t = 0 ∨ wrP s t = 2 ∨ wrP s t = 3 := by
  unfold wrP
  generalize (if s = 0 then 4 else 7) = x
  split
  · exact Or.inr (Or.inr rfl)
  · split
    · exact Or.inr (Or.inl rfl)
    · exact Or.inl rfl
theorem ack_both (hsd : isSd s cb nf w) (hL : LC sd T R) (hM : LM T2 R2) (h : NS sd mt k c s cb w U V U' V' hs dl R M M2) (hb : c + 1 ≤ 8208) {t : Nat} (ht : t ≤ 8) (hU0 : U 0 0 = nI s) (hU11 : U 0 11 = nI (wrP s t)) (hV13 : V 13 0 = nI t) (hn : nxtR c U V) (hno : notR c U V) {K : mM → Prop}
    (hK : ∀ a M' M2', a ≤ c → (∀ Q', Q' M2' → w_Mo_sendAck 34 T2 R2 M2 1 (nI s) Q') → NS sd mt k (c + 1) s cb w (sM U 4 (wrP s t) (nI (a + 1))) (sM V 14 (wrP s t) (nI (a + 1))) U' V' hs dl R M' M2' → K M') : w_Side_sendAck 200 T R M cb K := by
  have hl := hsd.le
  have hS := hL.sid hsd
  have ⟨g0, ⟨g2, g3, g4, g5, g6, g7⟩, ⟨g11, g12, g21, g22⟩, _⟩ := hS
  have hw3 := wrP_3 s t
  generalize hE : wrP s t = e at hw3 hK hU11
  obtain ⟨a, ha, n1, n2⟩ := hn e (by omega)
  obtain ⟨q, hq8, o1, o2, o3⟩ := hno
  have mU : ∀ {i' j : Nat}, i' < 12 + 3 * nf → M (cb + i') j = U i' j := fun hi' => h.u (by omega)
  refine ⟨g0, ?_⟩
  rw [g2, h.u0 hsd (j := 11), h.u0 hsd (j := 0), hU11, hU0, g4, g12]
  refine ⟨hL.o_2, wc_takeNumber hS (by omega) (a := a) (by rw [mU (by omega)]; exact n1) ?_⟩
  have hA := (h.setU hsd (i := 4) (j := e) (x := nI (a + 1)) (by omega)).setV hsd (a := 14) (j := e) (x := nI (a + 1)) (by show e < 4; omega)
  generalize hMa : sM M (cb + 4) e (nI (a + 1)) = Ma at hA ⊢
  have hA' : NS sd mt k c s cb w (sM U 4 e (nI (a + 1))) (sM V 14 e (nI (a + 1))) U' V' hs dl R Ma (sM M2 14 (4 * s + e) (nI (a + 1))) := hA
  clear hA
  have mo : ∀ {Q' : mM → Prop}, w_Mo_put 34 T2 R2 (sM M2 14 (4 * s + e) (nI (a + 1))) 1 (nI s) 1 (nI e) (nI a) (fun r12 M13 => ((0 ≤ r12 → (ok T2 34 7 100 ∧ ok T2 34 17 100 ∧ vp_in (nI s) 2 ∧ vp_in r12 60 ∧ ∀ M18 : mM, M18 = sM M13 7 r12.toNatClampNeg (M13 17 s) → (∃ N85, w_Mo_sendAck_L85 34 T2 R2 Q' 1 (nI s) r12 N85 (0 : Int32) M18))) ∧ (¬ 0 ≤ r12 → Q' M13))) → w_Mo_sendAck 34 T2 R2 M2 1 (nI s) Q' := by
    intro Q' hput
    have h13 : M2 13 s = nI t := (stA1_v h rfl).trans hV13
    have B : w_Mo_sendAck_B27 34 T2 R2 Q' 1 (nI s) (nI e) M2 := by
      unfold w_Mo_sendAck_B27
      simp only [hM.r_11, hM.r_12, hM.r_13, hM.r_14, hM.r_15, hM.r_16, hM.r_17, hM.r_18, hM.r_19, hM.r_20, hM.r_21, hM.r_22, hM.r_23, hM.r_24, hM.r_25, hM.r_26, hM.r_27, hM.r_28, hM.r_29, hM.r_30, hM.r_31, hM.r_32, hM.r_33, hM.r_34, hM.r_35, hM.r_36, hM.r_37, hM.r_38, hM.r_39, hM.r_40, hM.r_41, hM.r_42, hM.r_43, hM.l_2, hM.l_3, hM.l_4, hM.l_5, hM.l_6, hM.l_7, hM.l_8, hM.l_9, hM.l_10, hM.l_11, hM.l_12, hM.l_13, hM.l_14, hM.l_15, hM.l_16, hM.l_17, hM.l_18, hM.l_19, hM.l_20, hM.l_21, hM.l_22, hM.l_23, hM.l_24, hM.l_25, hM.l_26, hM.l_27, hM.l_28, hM.l_29, hM.l_30, hM.l_31, hM.l_32, hM.l_33, hM.l_34]
      have i4 : (4 : Int32) * nI s + nI e = nI (4 * s + e) := i12 (a := 4)
      have h14 : M2 14 (4 * s + e) = nI a := (h.v (a := 14) (by show e < 4; omega)).trans n2
      rw [i4, nI_clamp (by omega), h14, nI_clamp (by omega)]
      refine ⟨hM.o_14, vp_in_nI (by omega) (by decide), fun v8 e8 => ⟨vp_in_nI (by omega) (by decide), vp_in_nI (by omega) (by decide), fun M11 e11 => ?_⟩⟩
      subst e8
      rw [nI_1] at e11
      subst e11
      exact hput
    refine ⟨hM.ok1, wm_writes hM hl.1 ht h13 (e := 3) (by decide) ⟨fun x => wm_writes hM hl.1 ht h13 (e := 2) (by decide) ⟨fun y => ?_, fun y => ?_⟩, fun x => ?_⟩⟩
    · rw [hE] at x y
      have : e = 0 := by
        rcases hw3 with r | r | r
        · exact r
        · rw [r] at y; exact absurd y (by decide)
        · rw [r] at x; exact absurd x (by decide)
      rw [this] at B; exact B
    · rw [hE] at x y
      have : e = 2 := by
        rcases hw3 with r | r | r
        · rw [r] at y; exact absurd rfl y
        · exact r
        · rw [r] at x; exact absurd x (by decide)
      rw [this] at B; exact B
    · rw [hE] at x
      have : e = 3 := by
        rcases hw3 with r | r | r
        · rw [r] at x; exact absurd rfl x
        · rw [r] at x; exact absurd rfl x
        · exact r
      rw [this] at B; exact B
  generalize hM3 : sM M2 14 (4 * s + e) (nI (a + 1)) = M3 at hA' mo
  have m3 : ∀ a', a' ≠ 14 → M3 a' = M2 a' := fun a' ha' => by rw [← hM3, sM_k a' ha']
  have h17 : M3 17 s = nI q := by rw [m3 17 (by decide)]; exact (stA1_v h rfl).trans o2
  obtain ⟨m, hm, c1, c2, c3, hrow, hrec⟩ := hA'.cnt
  have ma : ∀ {i' j : Nat}, i' ≠ 4 → i' < 12 + 3 * nf → Ma (cb + i') j = U i' j := fun h4 hi' => by rw [hA'.u (by omega), sM_k _ h4]
  have aux : ∀ {r : Nat} {N0 : mM} {F : Nat → Int32}, isRec r → (∀ a, 128 ≤ a → N0 a = Ma a) → K (loadM (putRec N0 r (upd F 1 (nI q))) r q (Ma (cb + 2))) → (ok T 200 (cb + 1) 6 ∧ ok T 200 (cb + 2) 100 ∧ ok T 200 r 3 ∧ w_Rec_hold 200 T R (putRec N0 r F) r (cb + 2) (putRec N0 r F (cb + 1) 1) (fun M10 => K M10)) := by
    intro r N0 F hrec hN hKr
    have hr2 := hrec.2.2
    have g0 : ∀ a, 128 ≤ a → putRec N0 r F a = Ma a := fun a ha => by rw [putRec_out (by omega), hN a ha]
    refine ⟨g11, g21, (hL.rec hrec).1, ?_⟩
    rw [g0 (cb + 1) (by omega), ma (by decide) (by omega), o1]
    refine wc_hold hL hrec g21 g22 (by omega) (by omega) (by decide) (by omega) (by omega) ?_
    rw [g0 (cb + 2) (by omega), putRec_s (by decide) (by decide)]
    exact hKr
  have hA2 := hA'.mono (Nat.le_succ c) hb
  refine wc_append hL hrow hm c1 (fun hlt => ?_) (fun heq => ?_)
  · refine aux (hrow.1 m hlt).1 (fun a' ha' => by rw [sM_k _ (by omega), sM_k _ (by omega)]) ?_
    refine hK a _ (akM (sM (puM M3 m (nI s) 1 (nI e) (nI a)) 7 m (nI q)) m s q) ha (fun Q' hq => mo (wm_put hM hm c2 (fun _ => ⟨fun _ => ⟨hM.o_7, hM.o_17, vp_in_nI (by omega) (by decide), vp_in_nI hlt (by decide), fun M18 e18 => ?_⟩, fun x => absurd (nI_le (a := 0) (Nat.zero_le m) (by omega)) x⟩) (fun x => absurd x (by omega)))) ?_
    · have p17 : puM M3 m (nI s) 1 (nI e) (nI a) 17 s = nI q := by rw [puM_o (by omega) (by omega)]; exact h17
      rw [p17, nI_clamp (by omega)] at e18
      subst e18
      refine wm_ackL hM hl.1 hlt hq8 ?_ hq
      rw [sM_k 17 (by decide)]; exact p17
    · generalize hN : akM (sM (puM M3 m (nI s) 1 (nI e) (nI a)) 7 m (nI q)) m s q = N
      have po : ∀ a', a' ≠ 10 → a' ≠ 11 → a' ≠ 7 → N a' = puM M3 m (nI s) 1 (nI e) (nI a) a' := fun a' x1 x2 x3 => by rw [← hN, akM_o x1 x2, sM_k a' x3]
      have p2 : N 2 m = nI s := by rw [po 2 (by decide) (by decide) (by decide), puM_in (by decide) (by decide)]; rfl
      have p3 : N 3 m = 1 := by rw [po 3 (by decide) (by decide) (by decide), puM_in (by decide) (by decide)]; rfl
      have p4 : N 4 m = nI e := by rw [po 4 (by decide) (by decide) (by decide), puM_in (by decide) (by decide)]; rfl
      have p5 : N 5 m = nI a := by rw [po 5 (by decide) (by decide) (by decide), puM_in (by decide) (by decide)]; rfl
      have p6 : N 6 m = 0 := by rw [po 6 (by decide) (by decide) (by decide), puM_in (by decide) (by decide)]; rfl
      have p7 : N 7 m = nI q := by rw [← hN, akM_o (by decide) (by decide), sM_e]
      have x18 : sM (puM M3 m (nI s) 1 (nI e) (nI a)) 7 m (nI q) 18 = M2 18 := by rw [sM_k 18 (by decide)]; funext j; rw [puM_o (by omega) (by omega), m3 18 (by decide)]
      have x19 : sM (puM M3 m (nI s) 1 (nI e) (nI a)) 7 m (nI q) 19 = M2 19 := by rw [sM_k 19 (by decide)]; funext j; rw [puM_o (by omega) (by omega), m3 19 (by decide)]
      have p10 : ∀ j, j < q → N 10 (8 * m + j) = V 18 j := fun j hj => by
        rw [← hN, akM_t, if_pos ⟨rfl, by omega, by omega⟩, x18, show 8 * m + j - 8 * m = j by omega]
        exact h.v (a := 18) (by show j < 8; omega)
      have p11 : ∀ j, j < q → N 11 (8 * m + j) = V 19 j := fun j hj => by
        rw [← hN, akM_t, if_neg (by omega), if_pos ⟨rfl, by omega, by omega⟩, x19, show 8 * m + j - 8 * m = j by omega]
        exact h.v (a := 19) (by show j < 8; omega)
      refine hA2.putIn hsd hlt c1 ?_ ?_ (fun j h8 h10 => ?_) (fun a' ha' => ?_) (fun a' h2 h9 i hi => ?_) (fun a' ha' q' hq' => ?_) (by rw [p2]; rfl) (by rw [p3]; rfl) (by rw [p4]; rfl) (by rw [p5]; rfl) (by rw [p6]; rfl) (by rw [p2]; exact sI hl.1) (by rw [p6]; exact Or.inl rfl) ⟨a, by omega, p5⟩ (fun ld hld => ?_)
      · rw [po 1 (by decide) (by decide) (by decide), puM_8]
      · rw [po 1 (by decide) (by decide) (by decide)]; rfl
      · rw [po 1 (by decide) (by decide) (by decide), puM_o (by omega) (by omega)]
      · rw [po a' (by omega) (by omega) (by omega)]; funext j; exact puM_o (by omega) (by omega)
      · rw [← hN, akM_o (by omega) (by omega), sMt, if_neg (by omega), puM_o (by omega) (by omega)]
      · rw [← hN, akM_t, if_neg (by omega), if_neg (by omega), sM_k a' (by omega), puM_o (by omega) (by omega)]
      · rw [p2, p3, p4, p7]
        refine Or.inr (Or.inl ⟨rfl, ?_, q, hq8, rfl, rfl, fun j hj => ?_⟩)
        · rcases hw3 with r | r | r
          · rw [r]; exact Or.inl rfl
          · rw [r]; exact Or.inr (Or.inl rfl)
          · rw [r]; exact Or.inr (Or.inr rfl)
        · rw [hld j hj, ma (by decide) (by omega)]
          show nameR (c + 1) (N 11 (8 * m + j)) (N 10 (8 * m + j)) _
          rw [p10 j hj, p11 j hj]
          obtain ⟨x, y, r1, r2⟩ := o3 j hj
          exact ⟨x, y, by omega, r2⟩
  · refine aux ⟨by decide, by decide, by decide⟩ (fun a' ha' => by rw [sM_k _ (by omega), sM_k _ (by omega)]) ?_
    exact hK a _ (loM M3) ha (fun Q' hq => mo (wm_put hM hm c2 (fun x => absurd x (by omega)) (fun _ => ⟨fun x => absurd x (by decide), fun _ => hq⟩))) (hA2.putLo hsd)
end AK
