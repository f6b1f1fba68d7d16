/-! the client's DONE at the server -/
section DN
variable {sd : Int32} {mt k c c' m i n x t : Nat} {U V U' V' : mM} {hs : Nat → Int32} {dl : Int32} {T T2 : mT} {R R2 : mR} {M M2 : mM}
theorem done_act (hL : LC sd T R) (hM : LM T2 R2) (h : NS sd mt k c 1 152 49 U V U' V' hs dl R M M2) (hS : SideRel sd mt c 1 9 k U V) (he : extR sd 1 U V hs) (hc : c + 1 ≤ c') (hb : c' ≤ 8208) {r : Nat} (hr : isRec r) (r4 : M r 4 = nI 2) (r5 : M r 5 = nI n) (hn : n ≤ c) (r1 : M r 1 = nI 4) (hld : ∀ j, j < 4 → M (r + 1) j = CT sd 7 j) (u9 : U 0 9 = nI x) (hx : x = 1 ∨ x = 2) {K : mM → Prop}
    (hK : ∀ M' M2', (∀ Q' : mM → Prop, Q' M2' → w_Mo_takeFragment_B112 34 T2 R2 Q' 1 1 7 (nI 2) (nI n) M2) → FinR sd mt k c' 1 152 9 49 U' V' hs dl R M' M2' → K M') : w_Server_takeClientDone 200 T R M 152 r K := by
  have hLS := hL.sid sd1
  have hsv : srvR sd U := he
  have ⟨z1, z2, z3, z4, z5, z6, z7, z8, z9⟩ := hsv
  obtain ⟨b1, b2, b3, b4⟩ := hL.rec hr
  have hr2 := hr.2.2
  obtain ⟨a1, ⟨x', t, t1, t2, t3, t4, t5, t6, t7⟩, a3, a4, a5, a6, a7, a8⟩ := hS
  have hxx : x' = x := by
    have hx'5 : x' ≤ 5 := by unfold stOK at t1; split at t1 <;> omega
    exact (nI_eq (by omega) (by omega)).mp (t2.symm.trans u9)
  subst hxx
  have htx : (x' = 1 ∧ t = 7) ∨ (x' = 2 ∧ t = 8) := by
    unfold stOK at t1
    rw [if_neg (by decide)] at t1
    omega
  obtain ⟨q, hq8, o1, o2, o3⟩ := a5
  have e12 : M2 12 1 = nI x' := (stA1_v h rfl).trans t3
  have e17 : M2 17 1 = nI q := (stA1_v h rfl).trans o2
  have v1s : vp_in (1 : Int32) 2 := vp_in_nI (n := 1) (by decide) (by decide)
  -- the rest, from a class whose state is that after a DONE
  have B : ∀ (Ua : mM) (N : mM), NS sd mt k c 1 152 49 Ua V U' V' hs dl R N M2 → (∀ i, i ≠ 0 → i ≠ 6 → Ua i = U i) → (∀ j, j < 9 ∨ 14 ≤ j → Ua 0 j = U 0 j) → Ua 0 9 = 2 → Ua 0 10 = TD sd 8 → Ua 0 11 = 3 → Ua 0 12 = 3 → Ua 0 13 = 0 → Ua 6 1 = 0 → N r 4 = nI 2 → N r 5 = nI n → w_Server_takeClientDone_B43 200 T R K 152 r N := by
    intro Ua N hN ua ua0 p9 p10 p11 p12 p13 p61 n4 n5
    have m1 : N 153 1 = nI q := by
      have : N (152 + 1) 1 = Ua 1 1 := hN.u (by decide)
      rw [ua 1 (by decide) (by decide)] at this
      exact this.trans o1
    unfold w_Server_takeClientDone_B43
    rw [hL.r_152_4]
    refine ⟨hL.o_153, b1, ?_⟩
    show w_Noted_add 200 T R N 153 (N r 5 * 4 + N r 4) (fun M13 => w_Side_sendAck 200 T R M13 152 (fun M14 => K M14))
    have en : nI n * 4 + nI 2 = nI (4 * n + 2) := by
      rw [show (4 : Int32) = nI 4 from rfl, pk_mul, nI_add, Nat.mul_comm]
    rw [n4, n5, en]
    refine wc_noted hLS hq8 m1 ?_
    have hB := (((((hN.ndU sd1 (q := min (q + 1) 8) (x := nI (4 * n + 2))).noV sd1 (q := min (q + 1) 8) (by omega) (e := nI 2) (n := nI n)).setV1 sd1 (a := 13) (x := 8) rfl).setV1 sd1 (a := 21) (x := 0) rfl).setV1 sd1 (a := 12) (x := 2) rfl).setV1 sd1 (a := 20) (x := -1) rfl
    generalize hUb : ndM Ua 1 2 (min (q + 1) 8) (nI (4 * n + 2)) = Ub at hB
    generalize hVb : sM (sM (sM (sM (noV' V (min (q + 1) 8) (nI 2) (nI n)) 13 0 8) 21 0 0) 12 0 2) 20 0 (-1) = Vb at hB
    have ub : ∀ i, i ≠ 1 → i ≠ 2 → Ub i = Ua i := fun i y1 y2 => by rw [← hUb, ndM_k y1 y2]
    have vb : ∀ a, a ≠ 12 → a ≠ 13 → a ≠ 17 → a ≠ 18 → a ≠ 19 → a ≠ 20 → a ≠ 21 → Vb a = V a := fun a y1 y2 y3 y4 y5 y6 y7 => by rw [← hVb, sM_k a y6, sM_k a y1, sM_k a y7, sM_k a y2, noV_k y3 y4 y5]
    have v13 : Vb 13 0 = nI 8 := by rw [← hVb]; rfl
    have v12 : Vb 12 0 = nI 2 := by rw [← hVb]; rfl
    have v20 : Vb 20 0 = -1 := by rw [← hVb]; rfl
    have v21 : Vb 21 0 = nI 0 := by rw [← hVb]; rfl
    have vno : ∀ a, a = 17 ∨ a = 18 ∨ a = 19 → Vb a = noV' V (min (q + 1) 8) (nI 2) (nI n) a := fun a y => by rw [← hVb, sM_k a (by omega), sM_k a (by omega), sM_k a (by omega), sM_k a (by omega)]
    have hnx : nxtR c Ub Vb := a3.cg (Nat.le_refl _) (by rw [ub 4 (by decide) (by decide), ua 4 (by decide) (by decide)]) (vb 14 (by decide) (by decide) (by decide) (by decide) (by decide) (by decide) (by decide))
    have hnt : notR c Ub Vb := by
      have := notR.add (U := Ua) (V := V) (c := c) (e := 2) (n := n) ⟨q, hq8, by rw [ua 1 (by decide) (by decide)]; exact o1, o2, fun j hj => by rw [ua 2 (by decide) (by decide)]; exact o3 j hj⟩ (by rw [ua 1 (by decide) (by decide)]; exact o1) hq8 hn (by decide)
      rw [hUb] at this
      exact this.cg (Nat.le_refl _) rfl rfl (vno 17 (by decide)) (vno 18 (by decide)) (vno 19 (by decide))
    have ub0 : Ub 0 = Ua 0 := ub 0 (by decide) (by decide)
    refine ack_both sd1 hL hM hB (by omega) (t := 8) (by decide) (by rw [ub0, ua0 0 (by decide)]; exact a1.1) (by rw [ub0]; exact p11) v13 hnx hnt (fun a M' M2' ha r1 r2 => hK M' M2' (fun Q' hq => ?_) (r2.fin ?_ ?_ hc hb))
    · unfold w_Mo_takeFragment_B112
      simp only [hM.r_11, hM.r_12, hM.r_13, hM.r_14, hM.r_15, hM.r_16, hM.r_17, hM.r_18, hM.r_19, hM.r_20, hM.r_21, hM.r_22, hM.r_23, hM.r_24, hM.r_25, hM.r_26, hM.r_27, hM.r_28, hM.r_29, hM.r_30, hM.r_31, hM.r_32, hM.r_33, hM.r_34, hM.r_35, hM.r_36, hM.r_37, hM.r_38, hM.r_39, hM.r_40, hM.r_41, hM.r_42, hM.r_43, hM.l_2, hM.l_3, hM.l_4, hM.l_5, hM.l_6, hM.l_7, hM.l_8, hM.l_9, hM.l_10, hM.l_11, hM.l_12, hM.l_13, hM.l_14, hM.l_15, hM.l_16, hM.l_17, hM.l_18, hM.l_19, hM.l_20, hM.l_21, hM.l_22, hM.l_23, hM.l_24, hM.l_25, hM.l_26, hM.l_27, hM.l_28, hM.l_29, hM.l_30, hM.l_31, hM.l_32, hM.l_33, hM.l_34]
      rw [e12]
      refine ⟨fun _ => ⟨fun _ => ⟨hM.o_12, v1s, fun y => absurd y (nI_nle (by omega) (by omega)), fun _ => wm_note (s := 1) hM (by decide) hq8 e17 ⟨hM.o_13, v1s, fun M17 e17' => ⟨hM.o_21, v1s, fun M20 e20 => ⟨hM.ok1, ?_⟩⟩⟩⟩, fun y => absurd trivial y⟩, fun y => absurd trivial y⟩
      simp only [hM.r_11, hM.r_12, hM.r_13, hM.r_14, hM.r_15, hM.r_16, hM.r_17, hM.r_18, hM.r_19, hM.r_20, hM.r_21, hM.r_22, hM.r_23, hM.r_24, hM.r_25, hM.r_26, hM.r_27, hM.r_28, hM.r_29, hM.r_30, hM.r_31, hM.r_32, hM.r_33, hM.r_34, hM.r_35, hM.r_36, hM.r_37, hM.r_38, hM.r_39, hM.r_40, hM.r_41, hM.r_42, hM.r_43, hM.l_2, hM.l_3, hM.l_4, hM.l_5, hM.l_6, hM.l_7, hM.l_8, hM.l_9, hM.l_10, hM.l_11, hM.l_12, hM.l_13, hM.l_14, hM.l_15, hM.l_16, hM.l_17, hM.l_18, hM.l_19, hM.l_20, hM.l_21, hM.l_22, hM.l_23, hM.l_24, hM.l_25, hM.l_26, hM.l_27, hM.l_28, hM.l_29, hM.l_30, hM.l_31, hM.l_32, hM.l_33, hM.l_34]
      refine ⟨hM.o_12, v1s, fun M3 e3 => ⟨hM.o_20, v1s, fun M6 e6 => ?_⟩⟩
      have : M6 = sM (sM (sM (sM (noM M2 1 (min (q + 1) 8) (nI 2) (nI n)) 13 1 8) 21 1 0) 12 1 2) 20 1 (-1) := by rw [e6, e3, e20, e17']; rfl
      rw [this]
      exact r1 Q' hq
    · have w : ∀ i, i ≠ 4 → sM Ub 4 (wrP 1 8) (nI (a + 1)) i = Ub i := fun i y => sM_k i y
      have w' : ∀ i, i ≠ 14 → sM Vb 14 (wrP 1 8) (nI (a + 1)) i = Vb i := fun i y => sM_k i y
      have hb' : ∀ i, i ≠ 0 → i ≠ 1 → i ≠ 2 → i ≠ 4 → i ≠ 6 → sM Ub 4 (wrP 1 8) (nI (a + 1)) i = U i := fun i y0 y1 y2 y4 y6 => by rw [w i y4, ub i y1 y2, ua i y0 y6]
      have hv' : ∀ a', a' ≠ 12 → a' ≠ 13 → a' ≠ 14 → a' ≠ 17 → a' ≠ 18 → a' ≠ 19 → a' ≠ 20 → a' ≠ 21 → sM Vb 14 (wrP 1 8) (nI (a + 1)) a' = V a' := fun a' y1 y2 y8 y3 y4 y5 y6 y7 => by rw [w' a' y8, vb a' y1 y2 y3 y4 y5 y6 y7]
      have w0 : sM Ub 4 (wrP 1 8) (nI (a + 1)) 0 = Ua 0 := by rw [w 0 (by decide), ub0]
      refine ⟨by rw [w0, ua0 0 (by decide), ua0 1 (by decide)]; exact a1, ⟨2, 8, by unfold stOK; rw [if_neg (by decide)]; omega, by rw [w0]; exact p9, by rw [w' 12 (by decide)]; exact v12, by rw [w' 13 (by decide)]; exact v13, by rw [w0]; exact p10, by rw [w0]; exact p11, by rw [w0]; exact p12⟩, nxt_num hnx ha, a4.cg (by rw [w0, ua0 8 (by decide)]) (hb' 5 (by decide) (by decide) (by decide) (by decide) (by decide)) (hv' 33 (by decide) (by decide) (by decide) (by decide) (by decide) (by decide) (by decide) (by decide)) (hv' 34 (by decide) (by decide) (by decide) (by decide) (by decide) (by decide) (by decide) (by decide)), hnt.cg (by omega) (by rw [w 1 (by decide)]) (w 2 (by decide)) (w' 17 (by decide)) (w' 18 (by decide)) (w' 19 (by decide)), Or.inl ⟨by rw [w0]; exact p13, by rw [w' 20 (by decide)]; exact v20⟩, a7.cg (by omega) (fun e' _ => hb' _ (by omega) (by omega) (by omega) (by omega) (by omega)) (hv' 15 (by decide) (by decide) (by decide) (by decide) (by decide) (by decide) (by decide) (by decide)) (hv' 16 (by decide) (by decide) (by decide) (by decide) (by decide) (by decide) (by decide) (by decide)), ⟨0, by decide, ?_, by rw [w' 21 (by decide)]; exact v21, fun y => absurd y (Nat.lt_irrefl 0)⟩⟩
      rw [w 6 (by decide), ub 6 (by decide) (by decide)]; exact p61
    · show srvR sd _
      have hb' : ∀ i, 39 ≤ i → sM Ub 4 (wrP 1 8) (nI (a + 1)) i = U i := fun i y => by rw [sM_k i (by omega), ub i (by omega) (by omega), ua i (by omega) (by omega)]
      have w0 : sM Ub 4 (wrP 1 8) (nI (a + 1)) 0 = Ua 0 := by rw [sM_k 0 (by decide), ub0]
      have w6 : sM Ub 4 (wrP 1 8) (nI (a + 1)) 6 = Ua 6 := by rw [sM_k 6 (by decide), ub 6 (by decide) (by decide)]
      unfold srvR
      rw [w0, w6, hb' 39 (by decide), hb' 41 (by decide), hb' 43 (by decide), hb' 45 (by decide), hb' 47 (by decide), ua0 14 (by decide), p9, p13, p61]
      exact ⟨z1, z2, z3, z4, z5, z6, rfl, fun _ => rfl, fun y => absurd y (by decide)⟩
  refine ⟨hL.o_152, ?_⟩
  rw [h.u0 sd1 (j := 9), u9, hL.r_152_3]
  rcases htx with ⟨rfl, rfl⟩ | ⟨rfl, rfl⟩
  · refine ⟨fun _ => ⟨b1, ?_⟩, fun y => absurd rfl y⟩
    rw [b2, r1]
    refine ⟨b3, ?_⟩
    have := wc_addBytes (T := T) (R := R) (M := M) (cb := 152) hLS.1 b3 b4 (a := 0) (n := 4) (by decide) (by decide) (by omega) (f := CT sd 7) (fun j hj => by rw [Nat.zero_add]; exact hld j hj) (Q := fun M3 => ok T 200 158 2 ∧ w_Flight_forget 200 T R M3 158 (fun M5 => (∀ M6 : mM, M6 = sM M5 152 11 (3 : Int32) → ∀ M7 : mM, M7 = sM M6 152 12 (3 : Int32) → w_Side_enter 200 T R M7 152 (2 : Int32) (fun M8 => (w_Server_takeClientDone_B43 200 T R K 152 r M8))))) ?_
    · exact this
    · have e10 : M 152 10 = TD sd 7 := (h.u0 sd1).trans t5
      rw [e10]
      refine ⟨hL.o_158, hL.o_158, fun A1 f1 A2 f2 A3 f3 => ⟨hLS.1, fun A4 f4 A5 f5 => ?_⟩⟩
      have hA := (((((h.upd0 sd1 (j := 10) (x := tel (CT sd 7) (TD sd 7) 4)).setU sd1 (i := 6) (j := 1) (x := 0) (by decide)).upd0 sd1 (j := 11) (x := 3)).upd0 sd1 (j := 12) (x := 3)).upd0 sd1 (j := 9) (x := 2)).upd0 sd1 (j := 13) (x := 0)
      have f5' : A5 = sM (sM (sM (sM (sM (sM M 152 10 (tel (CT sd 7) (TD sd 7) 4)) (152 + 6) 1 0) 152 11 3) 152 12 3) 152 9 2) 152 13 0 := by rw [f5, f4, f3, f2, f1]
      rw [← f5'] at hA
      refine B _ A5 hA (fun i y0 y6 => by rw [sM_k i y0, sM_k i y0, sM_k i y0, sM_k i y0, sM_k i y6, sM_k i y0]) (fun j y => by rw [sM_j j (by omega), sM_j j (by omega), sM_j j (by omega), sM_j j (by omega), sM_k 0 (by decide), sM_j j (by omega)]) rfl rfl rfl rfl rfl rfl ?_ ?_
      · rw [f5', sM_k r (by omega), sM_k r (by omega), sM_k r (by omega), sM_k r (by omega), sM_k r (by omega), sM_k r (by omega)]; exact r4
      · rw [f5', sM_k r (by omega), sM_k r (by omega), sM_k r (by omega), sM_k r (by omega), sM_k r (by omega), sM_k r (by omega)]; exact r5
  · refine ⟨fun y => absurd y (by decide), fun _ => ⟨b1, B U M h (fun _ _ _ => rfl) (fun _ _ => rfl) u9 t5 t6 t7 z7 (z8 u9) r4 r5⟩⟩
end DN
