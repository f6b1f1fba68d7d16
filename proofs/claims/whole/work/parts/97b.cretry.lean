/-! a RETRY at the client -/
section CR
variable {sd : Int32} {mt k c c' m i n x t : Nat} {U V U' V' : mM} {hs : Nat → Int32} {dl : Int32} {T T2 : mT} {R R2 : mR} {M M2 : mM}
theorem cretry_act (hL : LC sd T R) (hM : LM T2 R2) (h : NS sd mt k c 0 128 24 U V U' V' hs dl R M M2) (hS : SideRel sd mt c 0 1 k U V) (he : cliR sd U V hs) (hc : c + 1 ≤ c') (hb : c' ≤ 8208) {r : Nat} (hr : isRec r) (r1 : M r 1 = nI 4) (hld : ∀ j, j < 4 → M (r + 1) j = CT sd 1 j) {o l e n : Int32} {K : mM → Prop}
    (hK : ∀ M' M2', (∀ Q' : mM → Prop, Q' M2' → w_Mo_takeFragment 34 T2 R2 M2 1 0 1 o l e n Q') → FinR sd mt k c' 0 128 1 24 U' V' hs dl R M' M2' → K M') : w_Client_takeRetry 200 T R M 128 r K := by
  have hLS := hL.sid sd0
  obtain ⟨b1, b2, b3, b4⟩ := hL.rec hr
  have hr2 := hr.2.2
  have ⟨a1, ⟨x, t, t1, t2, t3, t4, t5, t6, t7⟩, a3, a4, a5, a6, a7, a8⟩ := hS
  have hx5 : x ≤ 5 := by unfold stOK at t1; split at t1 <;> omega
  have v0s : vp_in (0 : Int32) 2 := vp_in_nI (n := 0) (by decide) (by decide)
  have e12 : M2 12 0 = nI x := (stA1_v h rfl).trans t3
  refine ⟨hL.o_128, ?_⟩
  rw [h.u0 sd0 (j := 9), t2]
  refine ⟨fun z => ?_, fun z => hK M M2 (fun Q' hq => ?_) (h.fin hS he (by omega) hb)⟩
  · have hx : x = 1 := (nI_eq (b := 1) (by omega) (by decide)).mp z
    subst hx
    have ht : t = 1 := by
      unfold stOK at t1
      rw [if_pos rfl] at t1
      omega
    subst ht
    rw [b2, r1, hL.r_128_16]
    refine ⟨b1, b3, ?_⟩
    have key := wc_addBytes (T := T) (R := R) (M := M) (cb := 128) hLS.1 b3 b4 (a := 0) (n := 4) (by decide) (by decide) (by omega) (f := CT sd 1) (fun j hj => by rw [Nat.zero_add]; exact hld j hj) (Q := fun M3 => (ok T 200 145 0 ∧ w_Msg_writeInt 200 T R M3 145 (0 : Int32) (M3 128 14) (fun M5 => w_Rec_readFirstInt 200 T R M5 r (fun r6 => w_Msg_writeInt 200 T R M5 145 (4 : Int32) r6 (fun M7 => w_Client_sendFlight 200 T R M7 128 145 (fun M8 => w_Side_enter 200 T R M8 128 (2 : Int32) (fun M9 => K M9))))))) ?_
    · exact key
    · obtain ⟨⟨t', ht', c1, c2⟩, c3, c4, c5, c6, c7⟩ := he
      have t0 : t' = 1 := by rw [t4] at c1; exact ((nI_eq (by decide) (by omega)).mp c1).symm
      subst t0
      have e10 : M 128 10 = TD sd 1 := (h.u0 sd0).trans t5
      rw [e10, show tel (CT sd 1) (TD sd 1) 4 = TD sd 2 from rfl]
      have e14 : sM M 128 10 (TD sd 2) 128 14 = rS sd := by rw [sM_j 14 (by decide), h.u0 sd0]; exact c3
      rw [e14]
      refine ⟨hL.o_145, wc_writeInt (st := 0) hL.o_145 hL.r_145_2 hL.o_146 hL.l_146 (by decide) (by decide) (wc_readInt hL hr (v := ckS sd) (fun j hj => ?_) (wc_writeInt (st := 4) hL.o_145 hL.r_145_2 hL.o_146 hL.l_146 (by decide) (by decide) ?_))⟩
      · rw [ldO_out (by omega), sM_k _ (by omega)]; exact hld j hj
      have h1 := (((((h.upd0 sd0 (j := 10) (x := TD sd 2)).ldU sd0 (i := 17) (st := 0) (z := 4) (F := fun i => byI (rS sd) (nI i)) (by decide)).ldU sd0 (i := 17) (st := 4) (z := 4) (F := fun i => byI (ckS sd) (nI i)) (by decide)).setV1 sd0 (a := 13) (x := 3) rfl).setV1 sd0 (a := 12) (x := 2) rfl).setV1 sd0 (a := 20) (x := -1) rfl
      generalize hUa : ldO (ldO (sM U 0 10 (TD sd 2)) 17 0 4 (fun i => byI (rS sd) (nI i))) 17 4 4 (fun i => byI (ckS sd) (nI i)) = Ua at h1
      generalize hVa : sM (sM (sM V 13 0 3) 12 0 2) 20 0 (-1) = Va at h1
      have ua : ∀ i, i ≠ 0 → i ≠ 18 → Ua i = U i := fun i h0 h1 => by rw [← hUa, ldO_out h1, ldO_out h1, sM_k i h0]
      have ua0 : ∀ j, j ≠ 10 → Ua 0 j = U 0 j := fun j hj => by rw [← hUa, ldO_out (by decide), ldO_out (by decide), sM_j j hj]
      have va : ∀ a, a ≠ 12 → a ≠ 13 → a ≠ 20 → Va a = V a := fun a x1 x2 x3 => by rw [← hVa, sM_k a x3, sM_k a x1, sM_k a x2]
      refine sendFlight_both (p := 2) (mi := 17) hL hM h1 (by omega) (Or.inr (Or.inl rfl)) (by decide) (by decide) ⟨⟨hL.o_145, hL.r_145_2, hL.o_146, hL.l_146⟩, ?_, ?_, fun i hi => ?_⟩ ?_ ?_ ?_ ?_ (fun U1 V1 M' M2' q1 q2 q3 q4 q5 q6 q7 q8 => ?_)
      · rw [ua 17 (by decide) (by decide)]; exact c5.1
      · rw [ua 17 (by decide) (by decide)]; exact c5.2
      · rw [← hUa]
        have hi8 : i < 8 := hi
        show _ = if i < 4 then byI (rS sd) (nI i) else byI (ckS sd) (nI (i - 4))
        by_cases y : i < 4
        · rw [ldO_lo (by omega), ldO_in (Nat.zero_le i) (by omega), if_pos y]; rfl
        · rw [ldO_in (by omega) (by omega), if_neg y]
      · rw [ua0 0 (by decide)]; exact a1.1
      · rw [ua0 1 (by decide)]; exact a1.2
      · rw [← hUa, ldO_out (by decide), ldO_out (by decide), sM_e]
      · exact a3.cg (Nat.le_refl _) (ua 4 (by decide) (by decide)) (va 14 (by decide) (by decide) (by decide))
      · refine ⟨Or.inl hL.o_128, fun M3 e3 M4 e4 => hK M4 M2' (fun Q' hq => ?_) ?_⟩
        · refine ⟨hM.ok1, ?_⟩
          simp only [hM.r_11, hM.r_12, hM.r_13, hM.r_14, hM.r_15, hM.r_16, hM.r_17, hM.r_18, hM.r_19, hM.r_20, hM.r_21, hM.r_22, hM.r_23, hM.r_24, hM.r_25, hM.r_26, hM.r_27, hM.r_28, hM.r_29, hM.r_30, hM.r_31, hM.r_32, hM.r_33, hM.r_34, hM.r_35, hM.r_36, hM.r_37, hM.r_38, hM.r_39, hM.r_40, hM.r_41, hM.r_42, hM.r_43, hM.l_2, hM.l_3, hM.l_4, hM.l_5, hM.l_6, hM.l_7, hM.l_8, hM.l_9, hM.l_10, hM.l_11, hM.l_12, hM.l_13, hM.l_14, hM.l_15, hM.l_16, hM.l_17, hM.l_18, hM.l_19, hM.l_20, hM.l_21, hM.l_22, hM.l_23, hM.l_24, hM.l_25, hM.l_26, hM.l_27, hM.l_28, hM.l_29, hM.l_30, hM.l_31, hM.l_32, hM.l_33, hM.l_34]
          rw [e12]
          refine ⟨fun _ => ⟨fun _ => ⟨hM.o_12, v0s, fun _ => ⟨hM.o_13, v0s, fun N5 n5 => ⟨hM.ok1, ?_⟩⟩, fun y => absurd rfl y⟩, fun y => absurd trivial y⟩, fun y => absurd trivial y⟩
          simp only [hM.r_11, hM.r_12, hM.r_13, hM.r_14, hM.r_15, hM.r_16, hM.r_17, hM.r_18, hM.r_19, hM.r_20, hM.r_21, hM.r_22, hM.r_23, hM.r_24, hM.r_25, hM.r_26, hM.r_27, hM.r_28, hM.r_29, hM.r_30, hM.r_31, hM.r_32, hM.r_33, hM.r_34, hM.r_35, hM.r_36, hM.r_37, hM.r_38, hM.r_39, hM.r_40, hM.r_41, hM.r_42, hM.r_43, hM.l_2, hM.l_3, hM.l_4, hM.l_5, hM.l_6, hM.l_7, hM.l_8, hM.l_9, hM.l_10, hM.l_11, hM.l_12, hM.l_13, hM.l_14, hM.l_15, hM.l_16, hM.l_17, hM.l_18, hM.l_19, hM.l_20, hM.l_21, hM.l_22, hM.l_23, hM.l_24, hM.l_25, hM.l_26, hM.l_27, hM.l_28, hM.l_29, hM.l_30, hM.l_31, hM.l_32, hM.l_33, hM.l_34]
          refine ⟨hM.o_12, v0s, fun N6 n6 => ⟨hM.o_20, v0s, fun N7 n7 => ?_⟩⟩
          have n7' : N7 = sM (sM (sM M2 13 0 3) 12 0 2) 20 0 (-1) := by rw [n7, n6, n5]; rfl
          rw [n7']
          exact q1 Q' hq
        · have hF := (q2.upd0 sd0 (j := 9) (x := 2)).upd0 sd0 (j := 13) (x := 0)
          rw [← e3, ← e4] at hF
          have w0 : ∀ j, j ≠ 9 → j ≠ 13 → sM (sM U1 0 9 2) 0 13 0 0 j = U1 0 j := fun j x1 x2 => by rw [sM_j j x2, sM_j j x1]
          have w1 : ∀ i, i ≠ 0 → sM (sM U1 0 9 2) 0 13 0 i = U1 i := fun i x1 => by rw [sM_k i x1, sM_k i x1]
          have w9 : sM (sM U1 0 9 2) 0 13 0 0 9 = 2 := by rw [sM_j 9 (by decide), sM_e]
          have w13 : sM (sM U1 0 9 2) 0 13 0 0 13 = 0 := sM_e
          generalize sM (sM U1 0 9 2) 0 13 0 = U3 at hF w0 w1 w9 w13
          have v12 : V1 12 0 = 2 := by rw [q8 12 (by decide) (by decide), ← hVa]; rfl
          have v13 : V1 13 0 = 3 := by rw [q8 13 (by decide) (by decide), ← hVa]; rfl
          have v20 : V1 20 0 = -1 := by rw [q8 20 (by decide) (by decide), ← hVa]; rfl
          have u0 : ∀ j, j ≠ 9 → j ≠ 13 → j ≠ 10 → U3 0 j = U 0 j := fun j x1 x2 x3 => by rw [w0 j x1 x2, q6 j x3, ua0 j x3]
          have u1 : ∀ i, i ≠ 0 → i ≠ 4 → i ≠ 6 → i ≠ 18 → i < 8 ∨ 11 ≤ i → U3 i = U i := fun i x1 x2 x3 x5 x4 => by rw [w1 i x1, q7 i x1 x2 x3 x4, ua i x1 x5]
          refine hF.fin (hS.re (by omega) (fun j hj => u0 j (by omega) (by omega) (by omega)) (u1 1 (by decide) (by decide) (by decide) (by decide) (by decide)) (u1 2 (by decide) (by decide) (by decide) (by decide) (by decide)) (u1 5 (by decide) (by decide) (by decide) (by decide) (by decide)) (fun e he => u1 _ (by omega) (by omega) (by omega) (by omega) (by omega)) (fun a ha => by rw [q8 a (by omega) (by omega), va a (by omega) (by omega) (by omega)]) ⟨2, 3, Or.inr (Or.inr (Or.inl ⟨rfl, by decide, by decide⟩)), w9, v12, v13, ?_, ?_, ?_⟩ (q4.cg (Nat.le_refl _) (w1 4 (by decide)) rfl) (Or.inl ⟨w13, v20⟩) (q3.cg (Nat.le_refl _) (w1 6 (by decide)) (fun i x1 x2 => w1 i (by omega)) (fun _ _ _ => rfl))) ?_ hc hb
          · rw [w0 10 (by decide) (by decide)]; exact q5
          · rw [u0 11 (by decide) (by decide) (by decide)]; exact t6
          · rw [u0 12 (by decide) (by decide) (by decide)]; exact t7
          · show cliR sd U3 V1 hs
            refine ⟨⟨3, by decide, v13, ?_⟩, by rw [u0 14 (by decide) (by decide) (by decide)]; exact c3, by rw [u1 15 (by decide) (by decide) (by decide) (by decide) (by decide)]; exact c4, by rw [u1 17 (by decide) (by decide) (by decide) (by decide) (by decide)]; exact c5, by rw [u1 19 (by decide) (by decide) (by decide) (by decide) (by decide)]; exact c6, by rw [u1 16 (by decide) (by decide) (by decide) (by decide) (by decide)]; exact c7⟩
            obtain ⟨d1, d2, d3, d4⟩ := c2
            exact ⟨by rw [u1 21 (by decide) (by decide) (by decide) (by decide) (by decide)]; exact d1, by rw [u1 22 (by decide) (by decide) (by decide) (by decide) (by decide)]; exact d2, by rw [u1 23 (by decide) (by decide) (by decide) (by decide) (by decide)]; exact d3, d4⟩
  · refine ⟨hM.ok1, ?_⟩
    have B94 : w_Mo_takeFragment_B94 34 T2 R2 Q' 1 0 1 e n M2 := by
      unfold w_Mo_takeFragment_B94 w_Mo_takeFragment_B112
      exact ⟨fun y => absurd y (by decide), fun _ => ⟨fun y => absurd y (by decide), fun _ => hq⟩⟩
    simp only [hM.r_11, hM.r_12, hM.r_13, hM.r_14, hM.r_15, hM.r_16, hM.r_17, hM.r_18, hM.r_19, hM.r_20, hM.r_21, hM.r_22, hM.r_23, hM.r_24, hM.r_25, hM.r_26, hM.r_27, hM.r_28, hM.r_29, hM.r_30, hM.r_31, hM.r_32, hM.r_33, hM.r_34, hM.r_35, hM.r_36, hM.r_37, hM.r_38, hM.r_39, hM.r_40, hM.r_41, hM.r_42, hM.r_43, hM.l_2, hM.l_3, hM.l_4, hM.l_5, hM.l_6, hM.l_7, hM.l_8, hM.l_9, hM.l_10, hM.l_11, hM.l_12, hM.l_13, hM.l_14, hM.l_15, hM.l_16, hM.l_17, hM.l_18, hM.l_19, hM.l_20, hM.l_21, hM.l_22, hM.l_23, hM.l_24, hM.l_25, hM.l_26, hM.l_27, hM.l_28, hM.l_29, hM.l_30, hM.l_31, hM.l_32, hM.l_33, hM.l_34]
    rw [e12]
    refine ⟨fun _ => ⟨fun _ => ⟨hM.o_12, v0s, fun y => absurd y z, fun _ => ?_⟩, fun y => absurd trivial y⟩, fun y => absurd trivial y⟩
    unfold w_Mo_takeFragment_B42
    exact ⟨fun _ => ⟨fun _ => B94, fun y => absurd (by decide) y⟩, fun y => absurd rfl y⟩
end CR
