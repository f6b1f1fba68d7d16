/-! a flight begins, by both; start -/
section FL
variable {sd : Int32} {mt k c s cb nf w b f tm : Nat} {U V U' V' : mM} {hs : Nat → Int32} {dl : Int32} {T T2 : mT} {R R2 : mR} {M M2 : mM}
theorem flR_mk {ww d : Nat} (h : flS sd mt c s nf b f f tm U V) (h1 : U 6 4 = nI b) (h2 : V 31 0 = nI b) (h3 : U 6 2 = nI ww) (h4 : V 29 0 = nI ww) (hw : ww = 4 ∨ ww = 8 ∨ ww = 16 ∨ ww = 32) (h5 : U 6 3 = nI d) (h6 : V 30 0 = nI (k + d)) (hd : 1 ≤ d ∧ d ≤ 32) : flR sd mt c s nf k U V := by
  obtain ⟨a1, a2, a3, a4, a5, a6, a7, a8⟩ := h
  refine ⟨f, a1, a2, a3, fun _ => ⟨b, tm, ww, a4, by rw [Nat.mul_succ]; exact a5, hw, h1, h2, a6, h3, h4, fun _ => ⟨d, hd.1, hd.2, h5, h6⟩, a7, fun j hj => ?_⟩⟩
  have := a8 j hj
  rw [if_pos hj] at this
  exact this
theorem flS.congr {U1 V1 : mM} {i : Nat} (h : flS sd mt c s nf b i f tm U V) (h6 : U1 6 1 = U 6 1) (hf : ∀ i, 8 ≤ i → i < 8 + 3 * nf → U1 i = U i) (hv : ∀ a, 21 ≤ a → a ≤ 28 → V1 a = V a) : flS sd mt c s nf b i f tm U1 V1 := by
  obtain ⟨a1, a2, a3, a4, a5, a6, a7, a8⟩ := h
  refine ⟨a1, by rw [h6]; exact a2, by rw [hv 21 (by decide) (by decide)]; exact a3, a4, a5, by rw [hv 25 (by decide) (by decide)]; exact a6, fun t ht => ?_, fun j hj => ?_⟩
  · rw [hv 26 (by decide) (by decide), hv 27 (by decide) (by decide), hv 28 (by decide) (by decide)]; exact a7 t ht
  · have := a8 j hj
    unfold fragB at this ⊢
    rw [hf (8 + 3 * j) (by omega) (by omega), hf (9 + 3 * j) (by omega) (by omega), hf (10 + 3 * j) (by omega) (by omega), hv 22 (by decide) (by decide), hv 23 (by decide) (by decide), hv 24 (by decide) (by decide), hv 26 (by decide) (by decide), hv 27 (by decide) (by decide), hv 28 (by decide) (by decide)]
    exact this
/-- a new flight, cut on both sides, goes out -/
theorem fly_send (hsd : isSd s cb nf w) (hL : LC sd T R) (hM : LM T2 R2) (h : NS sd mt k c s cb w U V U' V' hs dl R M M2) (hb : c + f ≤ 8208) (hU0 : U 0 0 = nI s) (h62 : U 6 2 = 4) (h63 : U 6 3 = 4) (h64 : U 6 4 = 0) (hfl : flS sd mt c s nf 0 0 f 0 U V) (hop : ∀ j, j < f → V 24 j = 1) (hn : nxtR c U V) {K : mM → Prop}
    (hK : ∀ U1 V1 M' M2', (∀ Q', Q' M2' → ∃ N, w_Mo_fly_L121 34 T2 R2 Q' 1 (nI s) N 0 M2) → NS sd mt k (c + f) s cb w U1 V1 U' V' hs dl R M' M2' → flR sd mt (c + f) s nf k U1 V1 → nxtR (c + f) U1 V1 → (∀ i, i ≠ 4 → i < 8 ∨ 8 + 3 * nf ≤ i → U1 i = U i) → (∀ a, a ≠ 14 → a < 25 ∨ 31 < a → V1 a = V a) → K M') : w_Side_sendOpenFragments 200 T R M cb K := by
  have hl := hsd.le
  have hfn := hfl.1
  refine send_both hsd hL hM h hb hU0 hfl hn (LP := fun Q' i N => w_Mo_fly_L121 34 T2 R2 Q' 1 (nI s) (f - i + 1) (nI i) N) (fun Q' i N N' hi h21 h24 hrun hlp => ?_) (fun Q' i N hi h21 h24 hv hlp => ?_) (fun U1 V1 M' M2' tm' hlp q2 q3 q4 q5 => ?_)
  · rw [show f - i + 1 = (f - (i + 1) + 1) + 1 by omega]
    unfold w_Mo_fly_L121
    simp only [hM.r_11, hM.r_12, hM.r_13, hM.r_14, hM.r_15, hM.r_16, hM.r_17, hM.r_18, hM.r_19, hM.r_20, hM.r_21, hM.r_22, hM.r_23, hM.r_24, hM.r_25, hM.r_26, hM.r_27, hM.r_28, hM.r_29, hM.r_30, hM.r_31, hM.r_32, hM.r_33, hM.r_34, hM.r_35, hM.r_36, hM.r_37, hM.r_38, hM.r_39, hM.r_40, hM.r_41, hM.r_42, hM.r_43, hM.l_2, hM.l_3, hM.l_4, hM.l_5, hM.l_6, hM.l_7, hM.l_8, hM.l_9, hM.l_10, hM.l_11, hM.l_12, hM.l_13, hM.l_14, hM.l_15, hM.l_16, hM.l_17, hM.l_18, hM.l_19, hM.l_20, hM.l_21, hM.l_22, hM.l_23, hM.l_24, hM.l_25, hM.l_26, hM.l_27, hM.l_28, hM.l_29, hM.l_30, hM.l_31, hM.l_32, hM.l_33, hM.l_34]
    rw [nI_clamp (by omega), h21]
    refine ⟨hM.o_21, vp_in_nI (by omega) (by decide), fun x => absurd x (nI_ge hi (by omega)), fun _ => hrun _ (fun v21 e21 => ?_)⟩
    rw [e21, nI_1]; exact hlp
  · rw [hop i hi] at hv; exact absurd hv (by decide)
  · have hz := ((q2.setV1 hsd (a := 29) (x := 4) rfl).setV1 hsd (a := 30) (x := nI (k + 4)) rfl).setV1 hsd (a := 31) (x := 0) rfl
    have vk : ∀ a, a ≠ 29 → a ≠ 30 → a ≠ 31 → sM (sM (sM V1 29 0 4) 30 0 (nI (k + 4))) 31 0 0 a = V1 a := fun a x1 x2 x3 => by rw [sM_k a x3, sM_k a x2, sM_k a x1]
    refine hK U1 _ M' _ (fun Q' hq => ⟨f + 1, hlp Q' ?_⟩) hz (flR_mk (b := 0) (d := 4) (ww := 4) (tm := tm') (q3.congr rfl (fun _ _ _ => rfl) (fun a x1 x2 => vk a (by omega) (by omega) (by omega))) ?_ ?_ ?_ ?_ (Or.inl rfl) ?_ ?_ (by decide)) ?_ q5.1 (fun a x1 x2 => ?_)
    · rw [show f - f + 1 = 0 + 1 by omega]
      unfold w_Mo_fly_L121
      simp only [hM.r_11, hM.r_12, hM.r_13, hM.r_14, hM.r_15, hM.r_16, hM.r_17, hM.r_18, hM.r_19, hM.r_20, hM.r_21, hM.r_22, hM.r_23, hM.r_24, hM.r_25, hM.r_26, hM.r_27, hM.r_28, hM.r_29, hM.r_30, hM.r_31, hM.r_32, hM.r_33, hM.r_34, hM.r_35, hM.r_36, hM.r_37, hM.r_38, hM.r_39, hM.r_40, hM.r_41, hM.r_42, hM.r_43, hM.l_2, hM.l_3, hM.l_4, hM.l_5, hM.l_6, hM.l_7, hM.l_8, hM.l_9, hM.l_10, hM.l_11, hM.l_12, hM.l_13, hM.l_14, hM.l_15, hM.l_16, hM.l_17, hM.l_18, hM.l_19, hM.l_20, hM.l_21, hM.l_22, hM.l_23, hM.l_24, hM.l_25, hM.l_26, hM.l_27, hM.l_28, hM.l_29, hM.l_30, hM.l_31, hM.l_32, hM.l_33, hM.l_34]
      have e21 : M2' 21 s = nI f := (stA1_v q2 rfl).trans q3.2.2.1
      rw [nI_clamp (by omega), e21]
      refine ⟨hM.o_21, vp_in_nI (by omega) (by decide), fun _ => ⟨hM.o_29, vp_in_nI (by omega) (by decide), fun M13 e13 => ⟨hM.o_30, vp_in_nI (by omega) (by decide), fun M16 e16 => ⟨hM.o_31, vp_in_nI (by omega) (by decide), fun M19 e19 => ?_⟩⟩⟩, fun x => absurd (nI_le (Nat.le_refl f) (by omega)) x⟩
      have d7 : M13 1 7 = nI k := by rw [e13, sM_k 1 (by decide)]; exact q2.2.1
      have d7' : nI k + 4 = nI (k + 4) := nI_add k 4
      rw [d7, d7'] at e16
      subst e19; subst e16; subst e13
      exact hq
    · rw [q5.1 6 (by decide) (Or.inl (by decide)), h64]; rfl
    · rw [sM_e]; rfl
    · rw [q5.1 6 (by decide) (Or.inl (by decide)), h62]; rfl
    · rw [sM_k 29 (by decide), sM_k 29 (by decide), sM_e]; rfl
    · rw [q5.1 6 (by decide) (Or.inl (by decide)), h63]; rfl
    · rw [sM_k 30 (by decide), sM_e]
    · exact q4.cg (Nat.le_refl _) rfl (vk 14 (by decide) (by decide) (by decide))
    · rw [vk a (by omega) (by omega) (by omega)]; exact q5.2 a x1 (by omega)
/-- nothing is cut yet -/
theorem flS0 (h1 : U 6 1 = 0) (h2 : V 21 0 = 0) (h3 : V 25 0 = 0) : flS sd mt c s nf 0 0 0 0 U V := ⟨Nat.zero_le _, h1, h2, Nat.zero_le _, Nat.le_refl _, h3, fun t ht => absurd ht (Nat.not_lt_zero t), fun j hj => absurd hj (Nat.not_lt_zero j)⟩
end FL
section SF
variable {sd : Int32} {mt k c p mi : Nat} {U V U' V' : mM} {hs : Nat → Int32} {dl : Int32} {T T2 : mT} {R R2 : mR} {M M2 : mM}
theorem sd0 : isSd 0 128 1 24 := Or.inl ⟨rfl, rfl, rfl, rfl⟩
theorem sd1 : isSd 1 152 9 49 := Or.inr ⟨rfl, rfl, rfl, rfl⟩
/-- the client's flight of one message -/
theorem sendFlight_both (hL : LC sd T R) (hM : LM T2 R2) (h : NS sd mt k c 0 128 24 U V U' V' hs dl R M M2) (hb : c + 1 ≤ 8208) (hp : p = 0 ∨ p = 2 ∨ p = 7) (hm1 : 12 ≤ mi) (hm2 : mi + 1 < 24) (hmg : msgR sd T R 128 mi p U) (hU0 : U 0 0 = 0) (hU1 : U 0 1 = nI mt) (hU10 : U 0 10 = TD sd p) (hn : nxtR c U V) {K : mM → Prop}
    (hK : ∀ U1 V1 M' M2', (∀ Q', Q' M2' → w_Mo_fly 34 T2 R2 M2 1 0 (nI p) (nI p) Q') → NS sd mt k (c + 1) 0 128 24 U1 V1 U' V' hs dl R M' M2' → flR sd mt (c + 1) 0 1 k U1 V1 → nxtR (c + 1) U1 V1 → U1 0 10 = TD sd (p + 1) → (∀ j, j ≠ 10 → U1 0 j = U 0 j) → (∀ i, i ≠ 0 → i ≠ 4 → i ≠ 6 → i < 8 ∨ 11 ≤ i → U1 i = U i) → (∀ a, a ≠ 14 → a < 21 ∨ 31 < a → V1 a = V a) → K M') : w_Client_sendFlight 200 T R M 128 (128 + mi) K := by
  have hmt := h.1
  have ⟨⟨m1, m2, m3, m4⟩, m5, m6, m7⟩ := hmg
  have hszb : SZ sd p ≤ 43 := SZ_le sd p
  have hsz8 : 0 < SZ sd p ∧ SZ sd p ≤ 8 := by
    obtain ⟨v0, -, v2, -, -, -, -, v7⟩ := SZ_v sd
    rcases hp with rfl | rfl | rfl <;> omega
  refine ⟨hL.o_128, wc_addTo (Or.inl hL.o_128) m1 m2 m3 m4 (by omega) (by omega) (f := CT sd p) (fun i hi => ?_) ?_⟩
  · have : M (128 + (mi + 1)) i = U (mi + 1) i := h.u (by omega)
    exact this.trans (m7 i hi)
  · rw [h.u0 sd0 (j := 10), hU10, show tel (CT sd p) (TD sd p) (SZ sd p) = TD sd (p + 1) from rfl, hL.r_128_3]
    have h1 := h.setU sd0 (i := 0) (j := 10) (x := TD sd (p + 1)) (by decide)
    generalize hMa : sM M 128 10 (TD sd (p + 1)) = Ma
    have h1' : NS sd mt k c 0 128 24 (sM U 0 10 (TD sd (p + 1))) V U' V' hs dl R Ma M2 := by rw [← hMa]; exact h1
    refine ⟨hL.o_134, hL.o_134, fun B1 b1 B2 b2 B3 b3 B4 b4 => ?_⟩
    have h2 := (((h1'.setU sd0 (i := 6) (j := 1) (x := 0) (by decide)).setU sd0 (i := 6) (j := 2) (x := 4) (by decide)).setU sd0 (i := 6) (j := 3) (x := 4) (by decide)).setU sd0 (i := 6) (j := 4) (x := 0) (by decide)
    have h3 := (h2.setV1 sd0 (a := 21) (x := 0) rfl).setV1 sd0 (a := 25) (x := 0) rfl
    generalize hUb : sM (sM (sM (sM (sM U 0 10 (TD sd (p + 1))) 6 1 0) 6 2 4) 6 3 4) 6 4 0 = Ub at h3
    generalize hVb : sM (sM V 21 0 0) 25 0 0 = Vb at h3
    have h3' : NS sd mt k c 0 128 24 Ub Vb U' V' hs dl R B4 (sM (sM M2 21 0 0) 25 0 0) := by subst b4; subst b3; subst b2; subst b1; exact h3
    have ub : ∀ i, i ≠ 0 → i ≠ 6 → Ub i = U i := fun i x y => by rw [← hUb, sM_k i y, sM_k i y, sM_k i y, sM_k i y, sM_k i x]
    have ub0 : ∀ j, j ≠ 10 → Ub 0 j = U 0 j := fun j x => by rw [← hUb, sM_k 0 (by decide), sM_k 0 (by decide), sM_k 0 (by decide), sM_k 0 (by decide), sM_j j x]
    have ub10 : Ub 0 10 = TD sd (p + 1) := by rw [← hUb, sM_k 0 (by decide), sM_k 0 (by decide), sM_k 0 (by decide), sM_k 0 (by decide), sM_e]
    have vb : ∀ a, a ≠ 21 → a ≠ 25 → Vb a = V a := fun a x y => by rw [← hVb, sM_k a y, sM_k a x]
    have e1 : B4 128 1 = nI mt := by rw [h3'.u0 sd0, ub0 1 (by decide)]; exact hU1
    show w_Flight_add 200 T R B4 134 (128 + mi) (B4 128 1) (fun M4 => w_Side_sendOpenFragments 200 T R M4 128 (fun M5 => K M5))
    rw [e1]
    refine add_both (p := p) (f := 0) (n := 1) (mi := mi) sd0 hL hM h3' ⟨?_, by omega⟩ (fun _ => rfl) (by omega) (fun i hi => by rw [show i = 0 by omega]; omega) (by decide) (by omega) hm2 ⟨hmg.1, by rw [ub mi (by omega) (by omega)]; exact m5, by rw [ub mi (by omega) (by omega)]; exact m6, fun i hi => by rw [ub (mi + 1) (by omega) (by omega)]; exact m7 i hi⟩ (flS0 (by rw [← hUb]; rfl) (by rw [← hVb]; rfl) (by rw [← hVb]; rfl)) (fun j hj => absurd hj (Nat.not_lt_zero j)) (fun U1 V1 M' M2' q1 q2 q3 q4 q5 => ?_)
    · unfold sender; left; exact ⟨rfl, hp⟩
    · have hz6 : ∀ j, j ≠ 1 → U1 6 j = Ub 6 j := q5.2.1
      refine fly_send (f := 0 + 1) sd0 hL hM q2 (by omega) ?_ ?_ ?_ ?_ q3 q4 ?_ (fun U2 V2 M3 M4 r1 r2 r3 r4 r5 r6 => hK U2 V2 M3 M4 (fun Q' hq => ?_) r2 r3 r4 ?_ ?_ ?_ ?_)
      · rw [q5.1 0 (by decide) (Or.inl (by decide)), ub0 0 (by decide)]; exact hU0
      · rw [hz6 2 (by decide), ← hUb]; rfl
      · rw [hz6 3 (by decide), ← hUb]; rfl
      · rw [hz6 4 (by decide), ← hUb]; rfl
      · exact hn.cg (Nat.le_refl _) (by rw [q5.1 4 (by decide) (Or.inl (by decide)), ub 4 (by decide) (by decide)]) (by rw [q5.2.2 14 (by decide), vb 14 (by decide) (by decide)])
      · refine ⟨hM.ok1, ?_⟩
        simp only [hM.r_11, hM.r_12, hM.r_13, hM.r_14, hM.r_15, hM.r_16, hM.r_17, hM.r_18, hM.r_19, hM.r_20, hM.r_21, hM.r_22, hM.r_23, hM.r_24, hM.r_25, hM.r_26, hM.r_27, hM.r_28, hM.r_29, hM.r_30, hM.r_31, hM.r_32, hM.r_33, hM.r_34, hM.r_35, hM.r_36, hM.r_37, hM.r_38, hM.r_39, hM.r_40, hM.r_41, hM.r_42, hM.r_43, hM.l_2, hM.l_3, hM.l_4, hM.l_5, hM.l_6, hM.l_7, hM.l_8, hM.l_9, hM.l_10, hM.l_11, hM.l_12, hM.l_13, hM.l_14, hM.l_15, hM.l_16, hM.l_17, hM.l_18, hM.l_19, hM.l_20, hM.l_21, hM.l_22, hM.l_23, hM.l_24, hM.l_25, hM.l_26, hM.l_27, hM.l_28, hM.l_29, hM.l_30, hM.l_31, hM.l_32, hM.l_33, hM.l_34]
        refine ⟨hM.o_21, vp_in_nI (n := 0) (by decide) (by decide), fun M3 e3 => ⟨hM.o_25, vp_in_nI (n := 0) (by decide) (by decide), fun M6 e6 => ⟨2, ?_⟩⟩⟩
        have e6' : M6 = sM (sM M2 21 0 0) 25 0 0 := by rw [e6, e3]; rfl
        rw [e6']
        unfold w_Mo_fly_L17
        refine ⟨fun x => absurd x (nI_nlt (Nat.le_refl p) (by omega)), fun _ => q1 Q' _ _ ?_⟩
        show w_Mo_fly_L17 34 T2 R2 Q' 1 (nI 0) (nI p) (0 + 1) (nI (p + 1)) M2'
        unfold w_Mo_fly_L17
        exact ⟨fun _ => r1 Q' hq, fun x => absurd (nI_lt (by omega) (by omega)) x⟩
      · rw [r5 0 (by decide) (Or.inl (by decide)), q5.1 0 (by decide) (Or.inl (by decide))]; exact ub10
      · intro j hj
        rw [r5 0 (by decide) (Or.inl (by decide)), q5.1 0 (by decide) (Or.inl (by decide))]; exact ub0 j hj
      · intro i x0 x4 x6 x8
        rw [r5 i x4 (by omega), q5.1 i x6 (by omega)]; exact ub i x0 x6
      · intro a x1 x2
        rw [r6 a x1 (by omega), q5.2.2 a (by omega)]; exact vb a (by omega) (by omega)
end SF
