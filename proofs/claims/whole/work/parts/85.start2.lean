/-! start -/
theorem SideRel.re {sd : Int32} {mt c c' s nf k k' : Nat} {U V U1 V1 : mM} (h : SideRel sd mt c s nf k U V) (hc : c ≤ c') (h0 : ∀ j, j ≤ 8 → U1 0 j = U 0 j) (h1 : U1 1 = U 1) (h2 : U1 2 = U 2) (h5 : U1 5 = U 5) (hw : ∀ e, e < 4 → U1 (8 + 3 * nf + e) = U (8 + 3 * nf + e)) (hv : ∀ a, (15 ≤ a ∧ a ≤ 19) ∨ a = 33 ∨ a = 34 → V1 a = V a) (ht : thrR sd s U1 V1) (hn : nxtR c' U1 V1) (ha : ackR k' U1 V1) (hf : flR sd mt c' s nf k' U1 V1) : SideRel sd mt c' s nf k' U1 V1 := by
  obtain ⟨a1, a2, a3, a4, a5, a6, a7, a8⟩ := h
  exact ⟨by rw [h0 0 (by decide), h0 1 (by decide)]; exact a1, ht, hn, a4.cg (h0 8 (by decide)) h5 (hv 33 (by decide)) (hv 34 (by decide)), a5.cg hc (by rw [h1]) h2 (hv 17 (by decide)) (hv 18 (by decide)) (hv 19 (by decide)), ha, a7.cg hc hw (hv 15 (by decide)) (hv 16 (by decide)), hf⟩
theorem NS.upd0 {sd : Int32} {mt k c s cb nf w : Nat} {U V U' V' : mM} {hs : Nat → Int32} {dl : Int32} {R : mR} {M M2 : mM} (hsd : isSd s cb nf w) (h : NS sd mt k c s cb w U V U' V' hs dl R M M2) {j : Nat} {x : Int32} : NS sd mt k c s cb w (sM U 0 j x) V U' V' hs dl R (sM M cb j x) M2 := h.setU hsd (i := 0) (by have := hsd.le; omega)
theorem sim_start : ∀ (c : Nat) (T : mT) (R : mR) (M : mM) (T2 : mT) (R2 : mR) (M2 : mM) , c < 512 → Sim c T R M T2 R2 M2 → w_X_start 200 T R M 1  (fun r M' => w_Mo_start 34 T2 R2 M2 1  (fun r2 M2' => r = r2 ∧ Sim (c + 1) T R M' T2 R2 M2')) := by
  intro c T R M T2 R2 M2 hc h
  have hn := h.next hc
  obtain ⟨h0, sd, mt, k, hk, hL, hM, hP⟩ := h
  obtain ⟨x, t, hst, hx5, ht8, o0, o1, o9, o12, o13, o10, o11, o12'⟩ := hP.own sd0
  have hside := hP.side sd0
  have hext : cliR sd (uw M 128 24) (vw M2 0) (M2 32) := hP.ext sd0
  have hoth := hP.oth sd0
  have hNS : NS sd mt k (16 * c) 0 128 24 _ _ _ _ _ _ R M M2 := hP.ns
  refine ⟨hL.o_1, ?_⟩
  rw [hL.r_1_1, o9]
  refine ⟨hL.o_128, fun z => ?_, fun z => ⟨hM.ok1, ?_⟩⟩
  · have hx : x = 0 := (nI_eq (b := 0) (by omega) (by decide)).mp z
    subst hx
    have ht : t = 0 := by
      unfold stOK at hst
      rw [if_pos rfl] at hst
      omega
    subst ht
    refine ⟨hL.o_128, ?_⟩
    rw [hL.r_128_15]
    refine ⟨hL.o_143, wc_writeInt (st := 0) hL.o_143 hL.r_143_2 hL.o_144 hL.l_144 (by decide) (by decide) ?_⟩
    generalize hU : uw M 128 24 = U at *
    generalize hV : vw M2 0 = V at *
    generalize uw M (280 - 128) (73 - 24) = U' at *
    generalize vw M2 (1 - 0) = V' at *
    generalize hhs : M2 32 = hs at *
    generalize M 2 5 - M2 1 10 = dl at *
    obtain ⟨⟨t', ht', c1, c2⟩, c3, c4, c5, c6, c7⟩ := hext
    have c13 : V 13 0 = nI 0 := (stA1_v hNS rfl).symm.trans o13
    have t0 : t' = 0 := by rw [c13] at c1; exact ((nI_eq (by decide) (by omega)).mp c1).symm
    subst t0
    have c3' : M 128 14 = rS sd := (hNS.u0 sd0).trans c3
    rw [c3']
    have h1 := ((((hNS.ldU sd0 (i := 15) (st := 0) (z := 4) (F := fun i => byI (rS sd) (nI i)) (by decide)).setV1 sd0 (a := 13) (x := 1) rfl).setV1 sd0 (a := 12) (x := 1) rfl).setV1 sd0 (a := 20) (x := -1) rfl)
    generalize hUa : ldO U 15 0 4 (fun i => byI (rS sd) (nI i)) = Ua at h1
    generalize hVa : sM (sM (sM V 13 0 1) 12 0 1) 20 0 (-1) = Va at h1
    have ua : ∀ i, i ≠ 16 → Ua i = U i := fun i hi => by rw [← hUa, ldO_out hi]
    have va : ∀ a, a ≠ 12 → a ≠ 13 → a ≠ 20 → Va a = V a := fun a x1 x2 x3 => by rw [← hVa, sM_k a x3, sM_k a x1, sM_k a x2]
    refine sendFlight_both (p := 0) (mi := 15) hL hM h1 (by omega) (Or.inl rfl) (by decide) (by decide) ⟨⟨hL.o_143, hL.r_143_2, hL.o_144, hL.l_144⟩, ?_, ?_, fun i hi => ?_⟩ ?_ ?_ ?_ ?_ (fun U1 V1 M' M2' q1 q2 q3 q4 q5 q6 q7 q8 => ?_)
    · rw [ua 15 (by decide)]; exact c4.1
    · rw [ua 15 (by decide)]; exact c4.2
    · rw [← hUa]
      have hi8 : i < 8 := hi
      by_cases y : i < 4
      · rw [ldO_in (Nat.zero_le i) (by omega)]
        show _ = if i < 4 then byI (rS sd) (nI i) else 0
        rw [if_pos y]; rfl
      · rw [ldO_lo (by omega)]
        show _ = if i < 4 then byI (rS sd) (nI i) else 0
        rw [if_neg y]; exact c7 i (by omega) hi8
    · rw [ua 0 (by decide)]; exact hside.1.1
    · rw [ua 0 (by decide)]; exact hside.1.2
    · rw [ua 0 (by decide)]; exact (hNS.u0 sd0).symm.trans o10
    · exact hside.2.2.1.cg (Nat.le_refl _) (ua 4 (by decide)) (va 14 (by decide) (by decide) (by decide))
    · refine ⟨Or.inl hL.o_128, fun M3 e3 M4 e4 => ⟨hM.ok1, ?_⟩⟩
      simp only [hM.r_11, hM.r_12, hM.r_13, hM.r_14, hM.r_15, hM.r_16, hM.r_17, hM.r_18, hM.r_19, hM.r_20, hM.r_21, hM.r_22, hM.r_23, hM.r_24, hM.r_25, hM.r_26, hM.r_27, hM.r_28, hM.r_29, hM.r_30, hM.r_31, hM.r_32, hM.r_33, hM.r_34, hM.r_35, hM.r_36, hM.r_37, hM.r_38, hM.r_39, hM.r_40, hM.r_41, hM.r_42, hM.r_43, hM.l_2, hM.l_3, hM.l_4, hM.l_5, hM.l_6, hM.l_7, hM.l_8, hM.l_9, hM.l_10, hM.l_11, hM.l_12, hM.l_13, hM.l_14, hM.l_15, hM.l_16, hM.l_17, hM.l_18, hM.l_19, hM.l_20, hM.l_21, hM.l_22, hM.l_23, hM.l_24, hM.l_25, hM.l_26, hM.l_27, hM.l_28, hM.l_29, hM.l_30, hM.l_31, hM.l_32, hM.l_33, hM.l_34]
      have h12 : M2 12 0 = 0 := o12
      rw [h12]
      refine ⟨hM.o_12, vp_in_nI (n := 0) (by decide) (by decide), fun _ => ⟨hM.o_13, vp_in_nI (n := 0) (by decide) (by decide), fun N5 e5 => ⟨hM.ok1, ?_⟩⟩, fun y => absurd rfl y⟩
      simp only [hM.r_11, hM.r_12, hM.r_13, hM.r_14, hM.r_15, hM.r_16, hM.r_17, hM.r_18, hM.r_19, hM.r_20, hM.r_21, hM.r_22, hM.r_23, hM.r_24, hM.r_25, hM.r_26, hM.r_27, hM.r_28, hM.r_29, hM.r_30, hM.r_31, hM.r_32, hM.r_33, hM.r_34, hM.r_35, hM.r_36, hM.r_37, hM.r_38, hM.r_39, hM.r_40, hM.r_41, hM.r_42, hM.r_43, hM.l_2, hM.l_3, hM.l_4, hM.l_5, hM.l_6, hM.l_7, hM.l_8, hM.l_9, hM.l_10, hM.l_11, hM.l_12, hM.l_13, hM.l_14, hM.l_15, hM.l_16, hM.l_17, hM.l_18, hM.l_19, hM.l_20, hM.l_21, hM.l_22, hM.l_23, hM.l_24, hM.l_25, hM.l_26, hM.l_27, hM.l_28, hM.l_29, hM.l_30, hM.l_31, hM.l_32, hM.l_33, hM.l_34]
      refine ⟨hM.o_12, vp_in_nI (n := 0) (by decide) (by decide), fun N6 e6 => ⟨hM.o_20, vp_in_nI (n := 0) (by decide) (by decide), fun N7 e7 => ?_⟩⟩
      have e7' : N7 = sM (sM (sM M2 13 0 1) 12 0 1) 20 0 (-1) := by rw [e7, e6, e5]; rfl
      rw [e7']
      refine q1 _ ⟨trivial, ?_⟩
      have hF := (q2.upd0 sd0 (j := 9) (x := 1)).upd0 sd0 (j := 13) (x := 0)
      rw [← e3, ← e4] at hF
      have w0 : ∀ j, j ≠ 9 → j ≠ 13 → sM (sM U1 0 9 1) 0 13 0 0 j = U1 0 j := fun j x1 x2 => by rw [sM_j j x2, sM_j j x1]
      have w1 : ∀ i, i ≠ 0 → sM (sM U1 0 9 1) 0 13 0 i = U1 i := fun i x1 => by rw [sM_k i x1, sM_k i x1]
      have w9 : sM (sM U1 0 9 1) 0 13 0 0 9 = 1 := by rw [sM_j 9 (by decide), sM_e]
      have w13 : sM (sM U1 0 9 1) 0 13 0 0 13 = 0 := sM_e
      generalize sM (sM U1 0 9 1) 0 13 0 = U3 at hF w0 w1 w9 w13
      have v12 : V1 12 0 = 1 := by rw [q8 12 (by decide) (by decide), ← hVa]; rfl
      have v13 : V1 13 0 = 1 := by rw [q8 13 (by decide) (by decide), ← hVa]; rfl
      have v20 : V1 20 0 = -1 := by rw [q8 20 (by decide) (by decide), ← hVa]; rfl
      have u0 : ∀ j, j ≠ 9 → j ≠ 13 → j ≠ 10 → U3 0 j = U 0 j := fun j x1 x2 x3 => by rw [w0 j x1 x2, q6 j x3, ua 0 (by decide)]
      have u1 : ∀ i, i ≠ 0 → i ≠ 4 → i ≠ 6 → i < 8 ∨ 11 ≤ i → U3 i = Ua i := fun i x1 x2 x3 x4 => by rw [w1 i x1, q7 i x1 x2 x3 x4]
      have u1' : ∀ i, i ≠ 0 → i ≠ 4 → i ≠ 6 → i ≠ 16 → i < 8 ∨ 11 ≤ i → U3 i = U i := fun i x1 x2 x3 x5 x4 => by rw [u1 i x1 x2 x3 x4, ua i x5]
      refine ⟨by omega, sd, mt, k, by omega, hL, hM, (hF.sim sd0 ?_ ?_ (hoth.mono (by omega))).mono (by omega) (by omega)⟩
      · refine hside.re (by omega) (fun j hj => u0 j (by omega) (by omega) (by omega)) (u1' 1 (by decide) (by decide) (by decide) (by decide) (by decide)) (u1' 2 (by decide) (by decide) (by decide) (by decide) (by decide)) (u1' 5 (by decide) (by decide) (by decide) (by decide) (by decide)) (fun e he => u1' _ (by omega) (by omega) (by omega) (by omega) (by omega)) (fun a ha => by rw [q8 a (by omega) (by omega), va a (by omega) (by omega) (by omega)]) ⟨1, 1, Or.inr (Or.inl ⟨rfl, rfl⟩), w9, v12, v13, ?_, ?_, ?_⟩ (q4.cg (Nat.le_refl _) (w1 4 (by decide)) rfl) (Or.inl ⟨w13, v20⟩) (q3.cg (Nat.le_refl _) (w1 6 (by decide)) (fun i x1 x2 => w1 i (by omega)) (fun _ _ _ => rfl))
        · rw [w0 10 (by decide) (by decide)]; exact q5
        · rw [u0 11 (by decide) (by decide) (by decide), ← hNS.u0 sd0]; exact o11
        · rw [u0 12 (by decide) (by decide) (by decide), ← hNS.u0 sd0]; exact o12'
      · show cliR sd U3 V1 hs
        refine ⟨⟨1, by decide, v13, ?_⟩, by rw [u0 14 (by decide) (by decide) (by decide)]; exact c3, by rw [u1' 15 (by decide) (by decide) (by decide) (by decide) (by decide)]; exact c4, by rw [u1' 17 (by decide) (by decide) (by decide) (by decide) (by decide)]; exact c5, by rw [u1' 19 (by decide) (by decide) (by decide) (by decide) (by decide)]; exact c6, fun j h4 h8 => ?_⟩
        · obtain ⟨d1, d2, d3, d4⟩ := c2
          refine ⟨by rw [u1' 21 (by decide) (by decide) (by decide) (by decide) (by decide)]; exact d1, by rw [u1' 22 (by decide) (by decide) (by decide) (by decide) (by decide)]; exact d2, by rw [u1' 23 (by decide) (by decide) (by decide) (by decide) (by decide)]; exact d3, d4⟩
        · rw [u1 16 (by decide) (by decide) (by decide) (by decide), ← hUa, ldO_lo (by omega)]; exact c7 j h4 h8
  · simp only [hM.r_11, hM.r_12, hM.r_13, hM.r_14, hM.r_15, hM.r_16, hM.r_17, hM.r_18, hM.r_19, hM.r_20, hM.r_21, hM.r_22, hM.r_23, hM.r_24, hM.r_25, hM.r_26, hM.r_27, hM.r_28, hM.r_29, hM.r_30, hM.r_31, hM.r_32, hM.r_33, hM.r_34, hM.r_35, hM.r_36, hM.r_37, hM.r_38, hM.r_39, hM.r_40, hM.r_41, hM.r_42, hM.r_43, hM.l_2, hM.l_3, hM.l_4, hM.l_5, hM.l_6, hM.l_7, hM.l_8, hM.l_9, hM.l_10, hM.l_11, hM.l_12, hM.l_13, hM.l_14, hM.l_15, hM.l_16, hM.l_17, hM.l_18, hM.l_19, hM.l_20, hM.l_21, hM.l_22, hM.l_23, hM.l_24, hM.l_25, hM.l_26, hM.l_27, hM.l_28, hM.l_29, hM.l_30, hM.l_31, hM.l_32, hM.l_33, hM.l_34]
    rw [o12]
    exact ⟨hM.o_12, vp_in_nI (n := 0) (by decide) (by decide), fun y => absurd y z, fun _ => ⟨trivial, hn⟩⟩
