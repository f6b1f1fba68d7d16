/-! a piece of the server's flight at the client, and the answer to it -/
section PA
variable {sd : Int32} {mt k c c' m i n e x t p q z : Nat} {U V U' V' : mM} {hs : Nat → Int32} {dl : Int32} {T T2 : mT} {R R2 : mR} {M M2 : mM}
/-- the model's road to the gathering -/
theorem wm_piece (hM : LM T2 R2) (h3 : 3 ≤ p) (h6 : p ≤ 6) (e12 : M2 12 0 = 2) {qn : Nat} (hq8 : qn ≤ 8) (h17 : M2 17 0 = nI qn) {a3 a4 a5 a6 : Int32} {Q : mM → Prop} (hq : w_Mo_gather 34 T2 R2 (noM (sM M2 21 0 0) 0 (min (qn + 1) 8) a5 a6) 1 (nI p) a3 a4 Q) : w_Mo_takeFragment 34 T2 R2 M2 1 0 (nI p) a3 a4 a5 a6 Q := by
  have v0s : vp_in (0 : Int32) 2 := vp_in_nI (n := 0) (by decide) (by decide)
  refine ⟨hM.ok1, fun _ => ⟨fun y => absurd y (fun y => by have := (nI_eq (b := 1) (by omega) (by decide)).mp y; omega), fun _ => ?_⟩, fun y => absurd rfl y⟩
  unfold w_Mo_takeFragment_B42
  simp only [hM.r_11, hM.r_12, hM.r_13, hM.r_14, hM.r_15, hM.r_16, hM.r_17, hM.r_18, hM.r_19, hM.r_20, hM.r_21, hM.r_22, hM.r_23, hM.r_24, hM.r_25, hM.r_26, hM.r_27, hM.r_28, hM.r_29, hM.r_30, hM.r_31, hM.r_32, hM.r_33, hM.r_34, hM.r_35, hM.r_36, hM.r_37, hM.r_38, hM.r_39, hM.r_40, hM.r_41, hM.r_42, hM.r_43, hM.l_2, hM.l_3, hM.l_4, hM.l_5, hM.l_6, hM.l_7, hM.l_8, hM.l_9, hM.l_10, hM.l_11, hM.l_12, hM.l_13, hM.l_14, hM.l_15, hM.l_16, hM.l_17, hM.l_18, hM.l_19, hM.l_20, hM.l_21, hM.l_22, hM.l_23, hM.l_24, hM.l_25, hM.l_26, hM.l_27, hM.l_28, hM.l_29, hM.l_30, hM.l_31, hM.l_32, hM.l_33, hM.l_34]
  rw [e12]
  refine ⟨fun _ => ⟨fun y => absurd y (nI_nlt (a := p) (b := 3) h3 (by omega)), fun _ => ⟨fun y => absurd y (nI_nlt (a := 6) (b := p) h6 (by omega)), fun _ => ⟨hM.o_12, v0s, fun _ => ⟨hM.o_21, v0s, fun M27 e27 => ?_⟩, fun y => absurd rfl y⟩⟩⟩, fun y => absurd trivial y⟩
  rw [e27]
  exact wm_note (s := 0) hM (by decide) hq8 (by rw [sM_k 17 (by decide)]; exact h17) hq
theorem piece_act (hL : LC sd T R) (hM : LM T2 R2) (h : NS sd mt k c 0 128 24 U V U' V' hs dl R M M2) (hS : SideRel sd mt c 0 1 k U V) (he : cliR sd U V hs) (hc : c + 1 ≤ c') (hb : c' ≤ 8208) {r : Nat} (hr : isRec r) (h3 : 3 ≤ p) (h6 : p ≤ 6) (hz : q + z ≤ SZ sd p) (hz24 : z ≤ 24) (r1 : M r 1 = nI z) (r4 : M r 4 = nI e) (r5 : M r 5 = nI n) (he3 : e ≤ 3) (hn : n ≤ c) (r6 : M r 6 = nI (p - 2)) (r7 : M r 7 = nI q) (hld : ∀ j, j < z → M (r + 1) j = CT sd p (q + j)) (u9 : U 0 9 = 2) {K : mM → Prop}
    (hK : ∀ M' M2', (∀ Q' : mM → Prop, Q' M2' → w_Mo_takeFragment 34 T2 R2 M2 1 0 (nI p) (nI q) (nI z) (nI e) (nI n) Q') → FinR sd mt k c' 0 128 1 24 U' V' hs dl R M' M2' → K M') : w_Client_takeFlightPiece 200 T R M 128 r (fun M10 => w_Client_answerFlight 200 T R M10 128 K) := by
  have hLS := hL.sid sd0
  obtain ⟨b1, b2, b3, b4⟩ := hL.rec hr
  have hr2 := hr.2.2
  have hmt := h.1
  have hszb : SZ sd p ≤ 43 := SZ_le sd p
  have ⟨a1, ⟨x, t, t1, t2, t3, t4, t5, t6, t7⟩, a3, a4, a5, a6, a7, a8⟩ := hS
  have ht : x = 2 ∧ 3 ≤ t ∧ t ≤ 6 := by
    have hx5 : x ≤ 5 := by unfold stOK at t1; split at t1 <;> omega
    have : x = 2 := (nI_eq (b := 2) (by omega) (by decide)).mp (t2.symm.trans u9)
    unfold stOK at t1
    rw [if_pos rfl] at t1
    omega
  obtain ⟨rfl, ht3, ht6⟩ := ht
  obtain ⟨⟨t', ht', c1, c2⟩, c3, c4, c5, c6, c7⟩ := he
  have t0 : t' = t := by rw [t4] at c1; exact ((nI_eq (by omega) (by omega)).mp c1).symm
  subst t0
  obtain ⟨d1, d2, d3, d4⟩ := c2
  have d1' : U 21 2 = nI (t' - 2) := by
    rw [d1]; congr 1; unfold nxA
    rcases (show t' = 3 ∨ 3 < t' by omega) with y | y
    · rw [y]; rfl
    · rw [if_neg (by omega), if_neg (by omega)]
  have w6 : wrP 0 t' = if 4 ≤ t' then 2 else 0 := by unfold wrP; rw [if_neg (by omega), if_pos rfl]
  have w7 : rdP 0 t' = if 4 ≤ t' then 2 else 0 := by unfold rdP; rw [if_pos rfl, if_pos rfl, if_neg (by omega)]
  rw [w6] at t6
  rw [w7] at t7
  obtain ⟨qn, hq8, o1, o2, o3⟩ := a5
  have e12 : M2 12 0 = 2 := (stA1_v h rfl).trans t3
  have e17 : M2 17 0 = nI qn := (stA1_v h rfl).trans o2
  have m150 : ∀ m, m < 6 → M 150 m = nI (asmS sd m) := fun m hm => by
    have : M (128 + 22) m = U 22 m := h.u (by decide)
    exact this.trans (d2 m hm)
  have m1 : M 129 1 = nI qn := by
    have : M (128 + 1) 1 = U 1 1 := h.u (by decide)
    exact this.trans o1
  have v0s : vp_in (0 : Int32) 2 := vp_in_nI (n := 0) (by decide) (by decide)
  refine ⟨hL.o_128, ?_⟩
  rw [hL.r_128_3, hL.r_128_18, hL.r_128_4]
  refine ⟨hL.o_134, hL.o_134, fun N1 n1 => ⟨hL.o_149, wc_asmPut hL (fun m hm => by rw [n1, sM_k 150 (by decide)]; exact m150 m hm) hr h3 h6 hz hz24 (by rw [n1, sM_k r (by omega)]; exact r6) (by rw [n1, sM_k r (by omega)]; exact r7) (by rw [n1, sM_k r (by omega)]; exact r1) ⟨hL.o_129, b1, b1, ?_⟩⟩⟩
  have f1 : N1 (r + 1) = M (r + 1) := by rw [n1, sM_k _ (by omega)]
  rw [f1]
  have f2 : ∀ a, a ≠ 134 → a ≠ 151 → ldO N1 150 (asmS sd (p - 2) + q) z (M (r + 1)) a = M a := fun a y1 y2 => by rw [ldO_out y2, n1, sM_k a y1]
  have hA := (((h.setU sd0 (i := 6) (j := 1) (x := 0) (by decide)).ldU sd0 (i := 22) (st := asmS sd (p - 2) + q) (z := z) (F := M (r + 1)) (by decide)).ndU sd0 (q := min (qn + 1) 8) (x := nI (4 * n + e)))
  have hB := ((hA.setV1 sd0 (a := 21) (x := 0) rfl).noV sd0 (q := min (qn + 1) 8) (by omega) (e := nI e) (n := nI n)).setH (z := z) (st := 48 * (p - 3) + q)
  clear hA
  have hN1 : ldO N1 150 (asmS sd (p - 2) + q) z (M (r + 1)) = ldO (sM M (128 + 6) 1 0) (128 + 22) (asmS sd (p - 2) + q) z (M (r + 1)) := by rw [n1]
  show w_Noted_add 200 T R (ldO N1 150 (asmS sd (p - 2) + q) z (M (r + 1))) 129 (ldO N1 150 (asmS sd (p - 2) + q) z (M (r + 1)) r 5 * 4 + ldO N1 150 (asmS sd (p - 2) + q) z (M (r + 1)) r 4) _
  have en : nI n * 4 + nI e = nI (4 * n + e) := by
    rw [show (4 : Int32) = nI 4 from rfl, pk_mul, nI_add, Nat.mul_comm]
  rw [f2 r (by omega) (by omega), r4, r5, en]
  refine wc_noted hLS hq8 (by rw [f2 129 (by decide) (by decide)]; exact m1) ⟨5, ?_⟩
  rw [hN1]
  generalize hMb : ndM (ldO (sM M (128 + 6) 1 0) (128 + 22) (asmS sd (p - 2) + q) z (M (r + 1))) (128 + 1) (128 + 2) (min (qn + 1) 8) (nI (4 * n + e)) = Mb at hB
  generalize hUb : ndM (ldO (sM U 6 1 0) 22 (asmS sd (p - 2) + q) z (M (r + 1))) 1 2 (min (qn + 1) 8) (nI (4 * n + e)) = Ub at hB
  generalize hVb : noV' (sM V 21 0 0) (min (qn + 1) 8) (nI e) (nI n) = Vb at hB
  have ub : ∀ i, i ≠ 1 → i ≠ 2 → i ≠ 6 → i ≠ 23 → Ub i = U i := fun i y1 y2 y3 y4 => by rw [← hUb, ndM_k y1 y2, ldO_out y4, sM_k i y3]
  have vb : ∀ a, a ≠ 17 → a ≠ 18 → a ≠ 19 → a ≠ 21 → Vb a = V a := fun a y1 y2 y3 y4 => by rw [← hVb, noV_k y1 y2 y3, sM_k a y4]
  have ub61 : Ub 6 1 = 0 := by rw [← hUb, ndM_k (by decide) (by decide), ldO_out (by decide), sM_e]
  have vb21 : Vb 21 0 = 0 := by rw [← hVb, noV_k (by decide) (by decide) (by decide), sM_e]
  have hnt : notR c Ub Vb := by
    have := notR.add (U := ldO (sM U 6 1 0) 22 (asmS sd (p - 2) + q) z (M (r + 1))) (V := sM V 21 0 0) (c := c) (e := e) (n := n) ⟨qn, hq8, by rw [ldO_out (by decide), sM_k 1 (by decide)]; exact o1, by rw [sM_k 17 (by decide)]; exact o2, fun j hj => by rw [ldO_out (by decide), sM_k 2 (by decide), sM_k 18 (by decide), sM_k 19 (by decide)]; exact o3 j hj⟩ (by rw [ldO_out (by decide), sM_k 1 (by decide)]; exact o1) hq8 hn he3
    rw [hUb, hVb] at this
    exact this
  have hAB : asmB sd Ub (hsN hs (48 * (p - 3) + q) z) := by
    have hu : asmB sd U hs := ⟨d2, d3, d4⟩
    have := hu.put h3 h6 hz hld
    obtain ⟨y1, y2, y3⟩ := this
    have eU : ∀ a, a = 22 ∨ a = 23 → Ub a = ldO U 22 (asmS sd (p - 2) + q) z (M (r + 1)) a := fun a ha => by
      rw [← hUb, ndM_k (by omega) (by omega)]
      funext j
      rw [ldO_t, ldO_t, sM_k a (by omega)]
    exact ⟨by rw [eU 22 (by decide)]; exact y1, by rw [eU 23 (by decide)]; exact y2, y3⟩
  generalize hsb : hsN hs (48 * (p - 3) + q) z = hs1 at hB hAB
  refine gather_both hL hM (7 - t') t' 1 Ub Vb Mb _ (by omega) ht3 (Nat.le_refl 1) (by omega) hB hAB (by rw [ub 21 (by decide) (by decide) (by decide) (by decide)]; exact d1') (by rw [vb 13 (by decide) (by decide) (by decide) (by decide)]; exact t4) (by rw [ub 0 (by decide) (by decide) (by decide) (by decide)]; exact t5) (by rw [ub 0 (by decide) (by decide) (by decide) (by decide)]; exact t6) (by rw [ub 0 (by decide) (by decide) (by decide) (by decide)]; exact t7) (fun t U1 V1 N N2 g1 g2 run hNS p21 p13 p10 p11 p12 k1 k2 k3 => ?_)
  have mrun : ∀ Q' : mM → Prop, w_Mo_gather_B69 34 T2 R2 Q' 1 N2 → w_Mo_takeFragment 34 T2 R2 M2 1 0 (nI p) (nI q) (nI z) (nI e) (nI n) Q' := fun Q' hq => wm_piece hM h3 h6 e12 hq8 e17 (wm_gatherL hM h3 h6 (by omega) (run Q' hq))
  have e13 : N2 13 0 = nI t := (stA1_v hNS rfl).trans p13
  have e149 : N 149 2 = nI (t - 2) := by
    have : N (128 + 21) 2 = U1 21 2 := hNS.u (by decide)
    exact this.trans p21
  -- what stays
  have s0 : ∀ j, j ≠ 10 → j ≠ 11 → j ≠ 12 → U1 0 j = U 0 j := fun j y1 y2 y3 => by rw [k2 j y1 y2 y3, ub 0 (by decide) (by decide) (by decide) (by decide)]
  have s1 : ∀ i, i ≠ 0 → i ≠ 1 → i ≠ 2 → i ≠ 6 → i ≠ 21 → i ≠ 23 → U1 i = U i := fun i y0 y1 y2 y3 y4 y5 => by rw [k1 i y0 y4, ub i y1 y2 y3 y5]
  have s2 : ∀ a, a ≠ 13 → a ≠ 17 → a ≠ 18 → a ≠ 19 → a ≠ 21 → V1 a = V a := fun a y0 y1 y2 y3 y4 => by rw [k3 a y0, vb a y1 y2 y3 y4]
  have s61 : U1 6 1 = 0 := by rw [k1 6 (by decide) (by decide)]; exact ub61
  have s21 : V1 21 0 = 0 := by rw [k3 21 (by decide)]; exact vb21
  have hnt1 : notR c U1 V1 := hnt.cg (Nat.le_refl _) (by rw [k1 1 (by decide) (by decide)]) (k1 2 (by decide) (by decide)) (k3 17 (by decide)) (k3 18 (by decide)) (k3 19 (by decide))
  have hAB1 : (∀ m, m < 6 → U1 22 m = nI (asmS sd m)) ∧ (∀ p i, 3 ≤ p → p ≤ 6 → i < SZ sd p → (hs1 (48 * (p - 3) + i) = 1 ∧ U1 23 (asmS sd (p - 2) + i) = CT sd p i) ∨ (hs1 (48 * (p - 3) + i) = 0 ∧ U1 23 (asmS sd (p - 2) + i) = -1)) ∧ ∀ p i, 3 ≤ p → p ≤ 6 → SZ sd p ≤ i → i < 48 → hs1 (48 * (p - 3) + i) = 0 := by
    rw [k1 22 (by decide) (by decide), k1 23 (by decide) (by decide)]; exact hAB
  refine ⟨hL.o_128, ?_⟩
  rw [hL.r_128_18, hL.r_128_17]
  refine ⟨hL.o_149, hL.o_149, ?_⟩
  rw [e149]
  refine ⟨fun y => ⟨fun _ N4 n4 => ?_, fun y => absurd rfl y⟩, fun y => ⟨fun y => absurd y (by decide), fun _ N5 n5 => ⟨hL.o_147, wr_mix ?_⟩⟩⟩
  · -- not all of it yet: an ACK is due
    have ht6' : t ≤ 6 := by
      have := (nI_leI (b := 4) (a := t - 2) (by omega) (by decide)).mp y
      omega
    have hF := (hNS.upd0 sd0 (j := 13) (x := 2)).setV1 sd0 (a := 20) (x := nI (k + 2)) rfl
    rw [← n4] at hF
    have wt : wrP 0 t = if 4 ≤ t then 2 else 0 := by unfold wrP; rw [if_neg (by omega), if_pos rfl]
    have rt : rdP 0 t = if 4 ≤ t then 2 else 0 := by unfold rdP; rw [if_pos rfl, if_pos rfl, if_neg (by omega)]
    have z0 : ∀ j, j ≠ 13 → sM U1 0 13 2 0 j = U1 0 j := fun j y => sM_j j y
    have z1 : ∀ i, i ≠ 0 → sM U1 0 13 2 i = U1 i := fun i y => sM_k i y
    have z2 : ∀ a, a ≠ 20 → sM V1 20 0 (nI (k + 2)) a = V1 a := fun a y => sM_k a y
    have y20 : sM V1 20 0 (nI (k + 2)) 20 0 = nI (k + 2) := sM_e
    have y13 : sM U1 0 13 2 0 13 = 2 := sM_e
    generalize sM U1 0 13 2 = U3 at hF z0 z1 y13
    generalize sM V1 20 0 (nI (k + 2)) = V3 at hF z2 y20
    refine hK N4 _ (fun Q' hq => mrun Q' ?_) ⟨U3, V3, hs1, hF.mono (by omega) hb, ?_, ?_, fun y => absurd y (by decide)⟩
    · unfold w_Mo_gather_B69
      simp only [hM.r_11, hM.r_12, hM.r_13, hM.r_14, hM.r_15, hM.r_16, hM.r_17, hM.r_18, hM.r_19, hM.r_20, hM.r_21, hM.r_22, hM.r_23, hM.r_24, hM.r_25, hM.r_26, hM.r_27, hM.r_28, hM.r_29, hM.r_30, hM.r_31, hM.r_32, hM.r_33, hM.r_34, hM.r_35, hM.r_36, hM.r_37, hM.r_38, hM.r_39, hM.r_40, hM.r_41, hM.r_42, hM.r_43, hM.l_2, hM.l_3, hM.l_4, hM.l_5, hM.l_6, hM.l_7, hM.l_8, hM.l_9, hM.l_10, hM.l_11, hM.l_12, hM.l_13, hM.l_14, hM.l_15, hM.l_16, hM.l_17, hM.l_18, hM.l_19, hM.l_20, hM.l_21, hM.l_22, hM.l_23, hM.l_24, hM.l_25, hM.l_26, hM.l_27, hM.l_28, hM.l_29, hM.l_30, hM.l_31, hM.l_32, hM.l_33, hM.l_34]
      rw [e13, hNS.2.1]
      refine ⟨hM.o_13, v0s, fun y => absurd y (fun y => by have := (nI_eq (b := 7) (by omega) (by decide)).mp y; omega), fun _ => ⟨hM.o_20, v0s, fun M14 e14 => ?_⟩⟩
      rw [show nI k + 2 = nI (k + 2) from nI_add k 2] at e14
      rw [e14]; exact hq
    · refine ⟨by rw [z0 0 (by decide), z0 1 (by decide), s0 0 (by decide) (by decide) (by decide), s0 1 (by decide) (by decide) (by decide)]; exact a1, ⟨2, t, Or.inr (Or.inr (Or.inl ⟨rfl, by omega, ht6'⟩)), ?_, ?_, ?_, ?_, ?_, ?_⟩, a3.cg (by omega) (by rw [z1 4 (by decide), s1 4 (by decide) (by decide) (by decide) (by decide) (by decide) (by decide)]) (by rw [z2 14 (by decide), s2 14 (by decide) (by decide) (by decide) (by decide) (by decide)]), a4.cg (by rw [z0 8 (by decide), s0 8 (by decide) (by decide) (by decide)]) (by rw [z1 5 (by decide), s1 5 (by decide) (by decide) (by decide) (by decide) (by decide) (by decide)]) (by rw [z2 33 (by decide), s2 33 (by decide) (by decide) (by decide) (by decide) (by decide)]) (by rw [z2 34 (by decide), s2 34 (by decide) (by decide) (by decide) (by decide) (by decide)]), hnt1.cg (by omega) (by rw [z1 1 (by decide)]) (z1 2 (by decide)) (z2 17 (by decide)) (z2 18 (by decide)) (z2 19 (by decide)), Or.inr ⟨2, by decide, by decide, y13, y20⟩, a7.cg (by omega) (fun e' _ => by rw [z1 _ (by omega), s1 _ (by omega) (by omega) (by omega) (by omega) (by omega) (by omega)]) (by rw [z2 15 (by decide), s2 15 (by decide) (by decide) (by decide) (by decide) (by decide)]) (by rw [z2 16 (by decide), s2 16 (by decide) (by decide) (by decide) (by decide) (by decide)]), ⟨0, by decide, by rw [z1 6 (by decide)]; exact s61, by rw [z2 21 (by decide)]; exact s21, fun y => absurd y (Nat.lt_irrefl 0)⟩⟩
      · rw [z0 9 (by decide), s0 9 (by decide) (by decide) (by decide)]; exact t2
      · rw [z2 12 (by decide), s2 12 (by decide) (by decide) (by decide) (by decide) (by decide)]; exact t3
      · rw [z2 13 (by decide)]; exact p13
      · rw [z0 10 (by decide)]; exact p10
      · rw [z0 11 (by decide), wt]; exact p11
      · rw [z0 12 (by decide), rt]; exact p12
    · show cliR sd U3 V3 hs1
      refine ⟨⟨t, by omega, by rw [z2 13 (by decide)]; exact p13, ?_, by rw [z1 22 (by decide)]; exact hAB1.1, by rw [z1 23 (by decide)]; exact hAB1.2.1, hAB1.2.2⟩, by rw [z0 14 (by decide), s0 14 (by decide) (by decide) (by decide)]; exact c3, by rw [z1 15 (by decide), s1 15 (by decide) (by decide) (by decide) (by decide) (by decide) (by decide)]; exact c4, by rw [z1 17 (by decide), s1 17 (by decide) (by decide) (by decide) (by decide) (by decide) (by decide)]; exact c5, by rw [z1 19 (by decide), s1 19 (by decide) (by decide) (by decide) (by decide) (by decide) (by decide)]; exact c6, by rw [z1 16 (by decide), s1 16 (by decide) (by decide) (by decide) (by decide) (by decide) (by decide)]; exact c7⟩
      rw [z1 21 (by decide), p21]
      congr 1; unfold nxA
      rcases (show t = 3 ∨ 3 < t by omega) with y | y
      · rw [y]; rfl
      · rw [if_neg (by omega), if_neg (by omega)]
  · -- all of it: the client's DONE goes out
    have ht7 : t = 7 := by
      have : ¬ t - 2 ≤ 4 := fun w => y (nI_le (b := 4) w (by decide))
      omega
    subst ht7
    have e10 : N5 128 10 = TD sd 7 := by rw [n5, sM_j 10 (by decide), hNS.u0 sd0]; exact p10
    rw [e10, mix_TD7]
    refine wc_writeInt (st := 0) hL.o_147 hL.r_147_2 hL.o_148 hL.l_148 (by decide) (by decide) ?_
    have h1 := ((((hNS.upd0 sd0 (j := 12) (x := 3)).ldU sd0 (i := 19) (st := 0) (z := 4) (F := fun i => byI (cDS sd) (nI i)) (by decide)).setV1 sd0 (a := 13) (x := 8) rfl).setV1 sd0 (a := 12) (x := 3) rfl).setV1 sd0 (a := 20) (x := -1) rfl
    rw [← n5] at h1
    generalize hUa : ldO (sM U1 0 12 3) 19 0 4 (fun i => byI (cDS sd) (nI i)) = Ua at h1
    generalize hVa : sM (sM (sM V1 13 0 8) 12 0 3) 20 0 (-1) = Va at h1
    have ua : ∀ i, i ≠ 0 → i ≠ 20 → Ua i = U1 i := fun i h0 h1 => by rw [← hUa, ldO_out h1, sM_k i h0]
    have ua0 : ∀ j, j ≠ 12 → Ua 0 j = U1 0 j := fun j hj => by rw [← hUa, ldO_out (by decide), sM_j j hj]
    have ua12 : Ua 0 12 = 3 := by rw [← hUa, ldO_out (by decide), sM_e]
    have va : ∀ a, a ≠ 12 → a ≠ 13 → a ≠ 20 → Va a = V1 a := fun a x1 x2 x3 => by rw [← hVa, sM_k a x3, sM_k a x1, sM_k a x2]
    refine sendFlight_both (p := 7) (mi := 19) hL hM h1 (by omega) (Or.inr (Or.inr rfl)) (by decide) (by decide) ⟨⟨hL.o_147, hL.r_147_2, hL.o_148, hL.l_148⟩, ?_, ?_, fun i hi => ?_⟩ ?_ ?_ ?_ ?_ (fun U4 V4 M' M2' q1 q2 q3 q4 q5 q6 q7 q8 => ?_)
    · rw [ua 19 (by decide) (by decide), s1 19 (by decide) (by decide) (by decide) (by decide) (by decide) (by decide)]; exact c6.1
    · rw [ua 19 (by decide) (by decide), s1 19 (by decide) (by decide) (by decide) (by decide) (by decide) (by decide)]; exact c6.2
    · have hi4 : i < 4 := hi
      rw [← hUa, ldO_in (Nat.zero_le i) (by omega)]; rfl
    · rw [ua0 0 (by decide), s0 0 (by decide) (by decide) (by decide)]; exact a1.1
    · rw [ua0 1 (by decide), s0 1 (by decide) (by decide) (by decide)]; exact a1.2
    · rw [ua0 10 (by decide)]; exact p10
    · exact a3.cg (Nat.le_refl _) (by rw [ua 4 (by decide) (by decide), s1 4 (by decide) (by decide) (by decide) (by decide) (by decide) (by decide)]) (by rw [va 14 (by decide) (by decide) (by decide), s2 14 (by decide) (by decide) (by decide) (by decide) (by decide)])
    · intro N10 n10
      refine ⟨Or.inl hL.o_128, fun N3 n3 N4 n4 => ?_⟩
      have hF := ((q2.upd0 sd0 (j := 11) (x := 3)).upd0 sd0 (j := 9) (x := 3)).upd0 sd0 (j := 13) (x := 0)
      rw [← n10, ← n3, ← n4] at hF
      have w0 : ∀ j, j ≠ 9 → j ≠ 11 → j ≠ 13 → sM (sM (sM U4 0 11 3) 0 9 3) 0 13 0 0 j = U4 0 j := fun j x1 x2 x3 => by rw [sM_j j x3, sM_j j x1, sM_j j x2]
      have w1 : ∀ i, i ≠ 0 → sM (sM (sM U4 0 11 3) 0 9 3) 0 13 0 i = U4 i := fun i x1 => by rw [sM_k i x1, sM_k i x1, sM_k i x1]
      have w9 : sM (sM (sM U4 0 11 3) 0 9 3) 0 13 0 0 9 = 3 := by rw [sM_j 9 (by decide), sM_e]
      have w11 : sM (sM (sM U4 0 11 3) 0 9 3) 0 13 0 0 11 = 3 := by rw [sM_j 11 (by decide), sM_j 11 (by decide), sM_e]
      have w13 : sM (sM (sM U4 0 11 3) 0 9 3) 0 13 0 0 13 = 0 := sM_e
      generalize sM (sM (sM U4 0 11 3) 0 9 3) 0 13 0 = U5 at hF w0 w1 w9 w11 w13
      have v12 : V4 12 0 = 3 := by rw [q8 12 (by decide) (by decide), ← hVa]; rfl
      have v13 : V4 13 0 = 8 := by rw [q8 13 (by decide) (by decide), ← hVa]; rfl
      have v20 : V4 20 0 = -1 := by rw [q8 20 (by decide) (by decide), ← hVa]; rfl
      have u0 : ∀ j, j ≠ 9 → j ≠ 10 → j ≠ 11 → j ≠ 12 → j ≠ 13 → U5 0 j = U 0 j := fun j x1 x2 x3 x4 x5 => by rw [w0 j x1 x3 x5, q6 j x2, ua0 j x4, s0 j x2 x3 x4]
      have u1 : ∀ i, i ≠ 0 → i ≠ 4 → i ≠ 6 → i ≠ 20 → i < 8 ∨ 11 ≤ i → U5 i = U1 i := fun i x1 x2 x3 x5 x4 => by rw [w1 i x1, q7 i x1 x2 x3 x4, ua i x1 x5]
      have vv : ∀ a, a ≠ 12 → a ≠ 13 → a ≠ 14 → a ≠ 20 → a < 21 ∨ 31 < a → V4 a = V1 a := fun a x1 x2 x3 x4 x5 => by rw [q8 a x3 x5, va a x1 x2 x4]
      have s12 : U5 0 12 = 3 := by rw [w0 12 (by decide) (by decide) (by decide), q6 12 (by decide)]; exact ua12
      refine hK N4 M2' (fun Q' hq => mrun Q' ?_) ⟨U5, V4, hs1, hF.mono hc hb, ?_, ?_, fun y => absurd y (by decide)⟩
      · unfold w_Mo_gather_B69
        simp only [hM.r_11, hM.r_12, hM.r_13, hM.r_14, hM.r_15, hM.r_16, hM.r_17, hM.r_18, hM.r_19, hM.r_20, hM.r_21, hM.r_22, hM.r_23, hM.r_24, hM.r_25, hM.r_26, hM.r_27, hM.r_28, hM.r_29, hM.r_30, hM.r_31, hM.r_32, hM.r_33, hM.r_34, hM.r_35, hM.r_36, hM.r_37, hM.r_38, hM.r_39, hM.r_40, hM.r_41, hM.r_42, hM.r_43, hM.l_2, hM.l_3, hM.l_4, hM.l_5, hM.l_6, hM.l_7, hM.l_8, hM.l_9, hM.l_10, hM.l_11, hM.l_12, hM.l_13, hM.l_14, hM.l_15, hM.l_16, hM.l_17, hM.l_18, hM.l_19, hM.l_20, hM.l_21, hM.l_22, hM.l_23, hM.l_24, hM.l_25, hM.l_26, hM.l_27, hM.l_28, hM.l_29, hM.l_30, hM.l_31, hM.l_32, hM.l_33, hM.l_34]
        rw [e13]
        refine ⟨hM.o_13, v0s, fun _ => ⟨v0s, fun D9 d9 => ⟨hM.ok1, ?_⟩⟩, fun y => absurd rfl y⟩
        simp only [hM.r_11, hM.r_12, hM.r_13, hM.r_14, hM.r_15, hM.r_16, hM.r_17, hM.r_18, hM.r_19, hM.r_20, hM.r_21, hM.r_22, hM.r_23, hM.r_24, hM.r_25, hM.r_26, hM.r_27, hM.r_28, hM.r_29, hM.r_30, hM.r_31, hM.r_32, hM.r_33, hM.r_34, hM.r_35, hM.r_36, hM.r_37, hM.r_38, hM.r_39, hM.r_40, hM.r_41, hM.r_42, hM.r_43, hM.l_2, hM.l_3, hM.l_4, hM.l_5, hM.l_6, hM.l_7, hM.l_8, hM.l_9, hM.l_10, hM.l_11, hM.l_12, hM.l_13, hM.l_14, hM.l_15, hM.l_16, hM.l_17, hM.l_18, hM.l_19, hM.l_20, hM.l_21, hM.l_22, hM.l_23, hM.l_24, hM.l_25, hM.l_26, hM.l_27, hM.l_28, hM.l_29, hM.l_30, hM.l_31, hM.l_32, hM.l_33, hM.l_34]
        refine ⟨hM.o_12, v0s, fun D6 d6 => ⟨hM.o_20, v0s, fun D7 d7 => ?_⟩⟩
        have : D7 = sM (sM (sM N2 13 0 8) 12 0 3) 20 0 (-1) := by rw [d7, d6, d9]; rfl
        rw [this]
        exact q1 Q' hq
      · refine ⟨by rw [u0 0 (by decide) (by decide) (by decide) (by decide) (by decide), u0 1 (by decide) (by decide) (by decide) (by decide) (by decide)]; exact a1, ⟨3, 8, Or.inr (Or.inr (Or.inr (Or.inl ⟨rfl, rfl⟩))), w9, v12, v13, ?_, w11, s12⟩, (q4.cg hc (w1 4 (by decide)) rfl), a4.cg (u0 8 (by decide) (by decide) (by decide) (by decide) (by decide)) (by rw [u1 5 (by decide) (by decide) (by decide) (by decide) (by decide), s1 5 (by decide) (by decide) (by decide) (by decide) (by decide) (by decide)]) (by rw [vv 33 (by decide) (by decide) (by decide) (by decide) (by decide), s2 33 (by decide) (by decide) (by decide) (by decide) (by decide)]) (by rw [vv 34 (by decide) (by decide) (by decide) (by decide) (by decide), s2 34 (by decide) (by decide) (by decide) (by decide) (by decide)]), hnt1.cg (by omega) (by rw [u1 1 (by decide) (by decide) (by decide) (by decide) (by decide)]) (u1 2 (by decide) (by decide) (by decide) (by decide) (by decide)) (vv 17 (by decide) (by decide) (by decide) (by decide) (by decide)) (vv 18 (by decide) (by decide) (by decide) (by decide) (by decide)) (vv 19 (by decide) (by decide) (by decide) (by decide) (by decide)), Or.inl ⟨w13, v20⟩, a7.cg (by omega) (fun e' _ => by rw [u1 _ (by omega) (by omega) (by omega) (by omega) (by omega), s1 _ (by omega) (by omega) (by omega) (by omega) (by omega) (by omega)]) (by rw [vv 15 (by decide) (by decide) (by decide) (by decide) (by decide), s2 15 (by decide) (by decide) (by decide) (by decide) (by decide)]) (by rw [vv 16 (by decide) (by decide) (by decide) (by decide) (by decide), s2 16 (by decide) (by decide) (by decide) (by decide) (by decide)]), (q3.cg hc (w1 6 (by decide)) (fun i x1 x2 => w1 i (by omega)) (fun _ _ _ => rfl))⟩
        rw [w0 10 (by decide) (by decide) (by decide)]; exact q5
      · show cliR sd U5 V4 hs1
        refine ⟨⟨8, Nat.le_refl 8, v13, ?_, by rw [u1 22 (by decide) (by decide) (by decide) (by decide) (by decide)]; exact hAB1.1, by rw [u1 23 (by decide) (by decide) (by decide) (by decide) (by decide)]; exact hAB1.2.1, hAB1.2.2⟩, by rw [u0 14 (by decide) (by decide) (by decide) (by decide) (by decide)]; exact c3, ?_, ?_, ?_, ?_⟩
        · rw [u1 21 (by decide) (by decide) (by decide) (by decide) (by decide)]; exact p21
        · rw [u1 15 (by decide) (by decide) (by decide) (by decide) (by decide), s1 15 (by decide) (by decide) (by decide) (by decide) (by decide) (by decide)]; exact c4
        · rw [u1 17 (by decide) (by decide) (by decide) (by decide) (by decide), s1 17 (by decide) (by decide) (by decide) (by decide) (by decide) (by decide)]; exact c5
        · rw [u1 19 (by decide) (by decide) (by decide) (by decide) (by decide), s1 19 (by decide) (by decide) (by decide) (by decide) (by decide) (by decide)]; exact c6
        · rw [u1 16 (by decide) (by decide) (by decide) (by decide) (by decide), s1 16 (by decide) (by decide) (by decide) (by decide) (by decide) (by decide)]; exact c7
end PA
