/-! a tick at a side: the flight's part -/
/-- what a tick may change in a side -/
def frB (nf : Nat) (U V U1 V1 : mM) : Prop := (∀ i, i ≠ 0 → i ≠ 4 → i ≠ 6 → i < 8 ∨ 8 + 3 * nf ≤ i → U1 i = U i) ∧ (∀ j, j ≠ 9 → j ≠ 13 → U1 0 j = U 0 j) ∧ (∀ a, a ≠ 12 → a ≠ 14 → a ≠ 20 → a < 21 ∨ 31 < a → V1 a = V a) ∧ ((U1 0 = U 0 ∧ U1 6 1 = U 6 1 ∧ V1 12 = V 12 ∧ V1 20 = V 20) ∨ (U1 0 9 = 5 ∧ U1 0 13 = 0 ∧ V1 12 0 = 5 ∧ V1 20 0 = -1))
section WT
variable {sd : Int32} {mt k c s cb nf w : Nat} {U V U' V' : mM} {hs : Nat → Int32} {dl : Int32} {T T2 : mT} {R R2 : mR} {M M2 : mM}
theorem flR.mono {c' : Nat} (h : flR sd mt c s nf k U V) (hc : c ≤ c') : flR sd mt c' s nf k U V := h.cg hc rfl (fun _ _ _ => rfl) (fun _ _ _ => rfl)
theorem nxtR.mono {c' : Nat} (h : nxtR c U V) (hc : c ≤ c') : nxtR c' U V := h.cg hc rfl rfl
theorem wait_both (hsd : isSd s cb nf w) (hL : LC sd T R) (hM : LM T2 R2) (h : NS sd mt (k + 1) c s cb w U V U' V' hs dl R M M2) (hb : c + nf ≤ 8208) (hU0 : U 0 0 = nI s) (hfl : flR sd mt c s nf k U V) (hn : nxtR c U V) {K : mM → Prop}
    (hK : ∀ U1 V1 M' M2', (∀ Q', Q' M2' → w_Mo_pass_B25 34 T2 R2 Q' 1 (nI s) M2) → NS sd mt (k + 1) (c + nf) s cb w U1 V1 U' V' hs dl R M' M2' → flR sd mt (c + nf) s nf (k + 1) U1 V1 → nxtR (c + nf) U1 V1 → frB nf U V U1 V1 → K M') : w_Flight_hasWaited 200 T R M (cb + 6) (fun r2 M3 => (r2 = 0 → K M3) ∧ (¬ r2 = 0 → w_Side_sendAgainOrFail 200 T R M3 cb K)) := by
  have hl := hsd.le
  have hS := hL.sid hsd
  have ⟨g0, ⟨g2, g3, _⟩, _, _, _, _, ⟨g61, g62, g71, g72⟩, _, _⟩ := hS
  obtain ⟨f, hf, d1, d2, d3⟩ := hfl
  have hk := h.1.2.2.1
  have e61 : M (cb + 6) 1 = nI f := by rw [h.u (by omega)]; exact d1
  have e21 : M2 21 s = nI f := (stA1_v h rfl).trans d2
  have e17 : M2 1 7 = nI (k + 1) := h.2.1
  have vs : vp_in (nI s) 2 := vp_in_nI (by omega) (by decide)
  -- the open pieces of both
  have ceq : cnt (fun k => M (cb + (8 + 3 * k)) 7) f = cnt (fun k => M2 24 (12 * s + k)) f := by
    refine cnt_congr (fun i hi => ?_)
    obtain ⟨ag, tm, ww, e1, e2, e3, e4, e5, e6, e7, e8, e9, e10, e11⟩ := d3 (by omega)
    obtain ⟨p, q, z, sn, w1, w2, w3, w4, w5, w6, w7, w8, w9, w10⟩ := e11 i hi
    have a1 : M (cb + (8 + 3 * i)) 7 = V 24 i := by rw [h.u (by omega)]; exact w9
    have a2 : M2 24 (12 * s + i) = V 24 i := h.v (a := 24) (by show i < 12; omega)
    rw [a1, a2]
  have cle := cnt_le (fun k => M2 24 (12 * s + k)) f
  refine ⟨g61, wc_countOpen hS hf e61 ?_⟩
  rw [ceq]
  refine ⟨fun z0 => ⟨fun _ => ?_, fun x => absurd rfl x⟩, fun z0 M3 e3 => ?_⟩
  · -- none is open
    have cz : cnt (fun k => M2 24 (12 * s + k)) f = 0 := (nI_eq (b := 0) (by omega) (by decide)).mp z0
    refine hK U V M M2 (fun Q' hq => ?_) (h.mono (by omega) hb) ?_ (hn.mono (by omega)) ⟨fun _ _ _ _ _ => rfl, fun _ _ _ => rfl, fun _ _ _ _ _ => rfl, Or.inl ⟨rfl, rfl, rfl, rfl⟩⟩
    · unfold w_Mo_pass_B25
      simp only [hM.r_11, hM.r_12, hM.r_13, hM.r_14, hM.r_15, hM.r_16, hM.r_17, hM.r_18, hM.r_19, hM.r_20, hM.r_21, hM.r_22, hM.r_23, hM.r_24, hM.r_25, hM.r_26, hM.r_27, hM.r_28, hM.r_29, hM.r_30, hM.r_31, hM.r_32, hM.r_33, hM.r_34, hM.r_35, hM.r_36, hM.r_37, hM.r_38, hM.r_39, hM.r_40, hM.r_41, hM.r_42, hM.r_43, hM.l_2, hM.l_3, hM.l_4, hM.l_5, hM.l_6, hM.l_7, hM.l_8, hM.l_9, hM.l_10, hM.l_11, hM.l_12, hM.l_13, hM.l_14, hM.l_15, hM.l_16, hM.l_17, hM.l_18, hM.l_19, hM.l_20, hM.l_21, hM.l_22, hM.l_23, hM.l_24, hM.l_25, hM.l_26, hM.l_27, hM.l_28, hM.l_29, hM.l_30, hM.l_31, hM.l_32, hM.l_33, hM.l_34]
      refine ⟨hM.o_30, vs, fun _ => wm_openOf hM hl.1 (by omega) e21 ⟨fun _ => hq, fun y => absurd z0 y⟩, fun _ => hq⟩
    · refine ⟨f, hf, d1, d2, fun h0 => ?_⟩
      obtain ⟨ag, tm, ww, e1, e2, e3, e4, e5, e6, e7, e8, e9, e10, e11⟩ := d3 h0
      refine ⟨ag, tm, ww, e1, e2, e3, e4, e5, e6, e7, e8, fun ⟨j, hj, hj1⟩ => ?_, fun t ht => ?_, e11⟩
      · have := cnt_z.mp cz j hj
        have a2 : M2 24 (12 * s + j) = V 24 j := h.v (a := 24) (by show j < 12; omega)
        rw [a2, hj1] at this
        exact absurd this (by decide)
      · obtain ⟨j, x, y, q1, q2, q3⟩ := e10 t ht
        exact ⟨j, x, y, q1, by omega, q3⟩
  · -- some are
    have cz : cnt (fun k => M2 24 (12 * s + k)) f ≠ 0 := fun x => z0 (by rw [x]; rfl)
    have h0 : 0 < f := by
      rcases Nat.eq_zero_or_pos f with x | x
      · rw [x] at cz; exact absurd rfl cz
      · exact x
    obtain ⟨ag, tm, ww, e1, e2, e3', e4, e5, e6, e7, e8, e9, e10, e11⟩ := d3 h0
    have hop : ∃ j, j < f ∧ V 24 j = 1 := by
      refine Classical.byContradiction fun hno => cz (cnt_z.mpr fun i hi => ?_)
      obtain ⟨p, q, z, sn, w1, w2, w3, w4, w5, w6, w7, w8, w9, w10⟩ := e11 i hi
      have a2 : M2 24 (12 * s + i) = V 24 i := h.v (a := 24) (by show i < 12; omega)
      rw [a2]
      exact w8.resolve_right fun y => hno ⟨i, hi, y⟩
    obtain ⟨d, hd1, hd2, k1, k2⟩ := e9 hop
    have e63 : M (cb + 6) 3 = nI d := by rw [h.u (by omega)]; exact k1
    rw [e63] at e3
    have hdp : nI d - 1 = nI (d - 1) := nI_sub (b := 1) hd1
    rw [hdp] at e3
    have e30 : M2 30 s = nI (k + d) := (stA1_v h rfl).trans k2
    have d33 : M3 (cb + 6) 3 = nI (d - 1) := by rw [e3, sM_e]
    rw [d33]
    have hA := h.setU hsd (i := 6) (j := 3) (x := nI (d - 1)) (by omega)
    rw [← e3] at hA
    refine ⟨fun z1 => ⟨fun _ => ?_, fun x => absurd rfl x⟩, fun z1 => ⟨fun x => absurd x (by decide), fun _ => ?_⟩⟩
    · -- not the last tick
      have hd : 1 < d := by
        have : 0 < d - 1 := (nI_ltI (a := 0) (by decide) (by omega)).mp z1
        omega
      refine hK _ V M3 M2 (fun Q' hq => ?_) (hA.mono (by omega) hb) ?_ ?_ ⟨fun i _ _ i6 _ => sM_k i i6, fun j _ _ => by rw [sM_k 0 (by decide)], fun _ _ _ _ _ => rfl, Or.inl ⟨sM_k 0 (by decide), sM_j 1 (by decide), rfl, rfl⟩⟩
      · unfold w_Mo_pass_B25
        simp only [hM.r_11, hM.r_12, hM.r_13, hM.r_14, hM.r_15, hM.r_16, hM.r_17, hM.r_18, hM.r_19, hM.r_20, hM.r_21, hM.r_22, hM.r_23, hM.r_24, hM.r_25, hM.r_26, hM.r_27, hM.r_28, hM.r_29, hM.r_30, hM.r_31, hM.r_32, hM.r_33, hM.r_34, hM.r_35, hM.r_36, hM.r_37, hM.r_38, hM.r_39, hM.r_40, hM.r_41, hM.r_42, hM.r_43, hM.l_2, hM.l_3, hM.l_4, hM.l_5, hM.l_6, hM.l_7, hM.l_8, hM.l_9, hM.l_10, hM.l_11, hM.l_12, hM.l_13, hM.l_14, hM.l_15, hM.l_16, hM.l_17, hM.l_18, hM.l_19, hM.l_20, hM.l_21, hM.l_22, hM.l_23, hM.l_24, hM.l_25, hM.l_26, hM.l_27, hM.l_28, hM.l_29, hM.l_30, hM.l_31, hM.l_32, hM.l_33, hM.l_34]
        rw [nI_clamp (by omega), e30, e17]
        refine ⟨hM.o_30, vs, fun y => ?_, fun _ => hq⟩
        have : k + d = k + 1 := (nI_eq (by omega) (by omega)).mp y
        omega
      · refine ⟨f, hf, by rw [sM_j 1 (by decide)]; exact d1, d2, fun _ => ⟨ag, tm, ww, e1, e2, e3', by rw [sM_j 4 (by decide)]; exact e4, e5, e6, by rw [sM_j 2 (by decide)]; exact e7, e8, fun _ => ⟨d - 1, by omega, by omega, by rw [sM_e], by rw [k2, show k + 1 + (d - 1) = k + d by omega]⟩, fun t ht => ?_, fun j hj => ?_⟩⟩
        · obtain ⟨j, x, y, q1, q2, q3⟩ := e10 t ht
          exact ⟨j, x, y, q1, by omega, q3⟩
        · exact fragR.cg (c := c) (e11 j hj) (sM_k _ (by omega)) (sM_k _ (by omega)) (sM_k _ (by omega)) rfl rfl rfl rfl rfl rfl
      · exact hn.cg (by omega) (sM_k 4 (by decide)) rfl
    · have hd : d = 1 := by
        rcases (show d = 1 ∨ 1 < d by omega) with y | y
        · exact y
        · exact absurd (nI_lt (a := 0) (b := d - 1) (by omega) (by omega)) z1
      subst hd
      have e64 : M3 (cb + 6) 4 = nI ag := by rw [e3, sM_j 4 (by decide), h.u (by omega)]; exact e4
      have e31 : M2 31 s = nI ag := (stA1_v h rfl).trans e5
      refine ⟨g0, ?_⟩
      rw [g3, e64]
      have mo : ∀ {Q' : mM → Prop}, (ok T2 34 31 100 ∧ vp_in (nI s) 2 ∧ ((nI ag = 6 → (ok T2 34 21 100 ∧ vp_in (nI s) 2 ∧ ∀ M14 : mM, M14 = sM M2 21 s 0 → w_Mo_become 34 T2 R2 M14 1 (nI s) 5 (fun M15 => Q' M15))) ∧ (¬ nI ag = 6 → (vp_in (nI s) 2 ∧ vp_in (nI s) 2 ∧ ∀ M18 : mM, M18 = sM M2 31 s (nI (ag + 1)) → (∃ N84, w_Mo_pass_L84 34 T2 R2 Q' 1 (nI s) N84 0 M18))))) → w_Mo_pass_B25 34 T2 R2 Q' 1 (nI s) M2 := by
        intro Q' hq
        unfold w_Mo_pass_B25
        simp only [hM.r_11, hM.r_12, hM.r_13, hM.r_14, hM.r_15, hM.r_16, hM.r_17, hM.r_18, hM.r_19, hM.r_20, hM.r_21, hM.r_22, hM.r_23, hM.r_24, hM.r_25, hM.r_26, hM.r_27, hM.r_28, hM.r_29, hM.r_30, hM.r_31, hM.r_32, hM.r_33, hM.r_34, hM.r_35, hM.r_36, hM.r_37, hM.r_38, hM.r_39, hM.r_40, hM.r_41, hM.r_42, hM.r_43, hM.l_2, hM.l_3, hM.l_4, hM.l_5, hM.l_6, hM.l_7, hM.l_8, hM.l_9, hM.l_10, hM.l_11, hM.l_12, hM.l_13, hM.l_14, hM.l_15, hM.l_16, hM.l_17, hM.l_18, hM.l_19, hM.l_20, hM.l_21, hM.l_22, hM.l_23, hM.l_24, hM.l_25, hM.l_26, hM.l_27, hM.l_28, hM.l_29, hM.l_30, hM.l_31, hM.l_32, hM.l_33, hM.l_34]
        rw [nI_clamp (by omega), e30, e17, e31, nI_1]
        exact ⟨hM.o_30, vs, fun _ => wm_openOf hM hl.1 (by omega) e21 ⟨fun y => absurd y z0, fun _ => hq⟩, fun y => absurd rfl y⟩
      refine ⟨g61, fun z2 => ?_, fun z2 => ?_⟩
      · -- all open pieces go out again
        have hag : ag < 6 := (nI_ltI (b := 6) (by omega) (by decide)).mp z2
        have hB := hA.setV1 hsd (a := 31) (x := nI (ag + 1)) rfl
        have fs : flS sd mt c s nf (ag + 1) 0 f tm (sM U 6 3 (nI (1 - 1))) (sM V 31 0 (nI (ag + 1))) := by
          refine flS.congr (U := U) (V := V) ⟨hf, d1, d2, by omega, by omega, e6, e10, fun j hj => ?_⟩ (sM_j 1 (by decide)) (fun i x1 x2 => sM_k i (by omega)) (fun a x1 x2 => sM_k a (by omega))
          rw [if_neg (Nat.not_lt_zero j)]
          exact e11 j hj
        refine send_both hsd hL hM hB (by omega) (by rw [sM_k 0 (by decide)]; exact hU0) fs (hn.cg (Nat.le_refl _) (sM_k 4 (by decide)) (sM_k 14 (by decide))) (LP := fun Q' i N => w_Mo_pass_L84 34 T2 R2 Q' 1 (nI s) (f - i + 1) (nI i) N) (fun Q' i N N' hi h21 h24 hrun hlp => ?_) (fun Q' i N hi h21 h24 hv hlp => ?_) (fun U1 V1 M' M2' tm' hlp q2 q3 q4 q5 => ?_)
        · rw [show f - i + 1 = (f - (i + 1) + 1) + 1 by omega]
          unfold w_Mo_pass_L84
          simp only [hM.r_11, hM.r_12, hM.r_13, hM.r_14, hM.r_15, hM.r_16, hM.r_17, hM.r_18, hM.r_19, hM.r_20, hM.r_21, hM.r_22, hM.r_23, hM.r_24, hM.r_25, hM.r_26, hM.r_27, hM.r_28, hM.r_29, hM.r_30, hM.r_31, hM.r_32, hM.r_33, hM.r_34, hM.r_35, hM.r_36, hM.r_37, hM.r_38, hM.r_39, hM.r_40, hM.r_41, hM.r_42, hM.r_43, hM.l_2, hM.l_3, hM.l_4, hM.l_5, hM.l_6, hM.l_7, hM.l_8, hM.l_9, hM.l_10, hM.l_11, hM.l_12, hM.l_13, hM.l_14, hM.l_15, hM.l_16, hM.l_17, hM.l_18, hM.l_19, hM.l_20, hM.l_21, hM.l_22, hM.l_23, hM.l_24, hM.l_25, hM.l_26, hM.l_27, hM.l_28, hM.l_29, hM.l_30, hM.l_31, hM.l_32, hM.l_33, hM.l_34]
          rw [nI_clamp (show s < 2 ^ 31 by omega), h21, show (12 : Int32) * nI s + nI i = nI (12 * s + i) from i12 (a := 12), nI_clamp (by omega), h24]
          refine ⟨hM.o_21, vs, fun x => absurd x (nI_ge hi (by omega)), fun _ => ⟨hM.o_24, vp_in_nI (by omega) (by decide), fun y => absurd y (by decide), fun _ => hrun _ (fun v21 e21 => ?_)⟩⟩
          rw [e21, nI_1]; exact hlp
        · rw [show f - i + 1 = (f - (i + 1) + 1) + 1 by omega]
          unfold w_Mo_pass_L84
          simp only [hM.r_11, hM.r_12, hM.r_13, hM.r_14, hM.r_15, hM.r_16, hM.r_17, hM.r_18, hM.r_19, hM.r_20, hM.r_21, hM.r_22, hM.r_23, hM.r_24, hM.r_25, hM.r_26, hM.r_27, hM.r_28, hM.r_29, hM.r_30, hM.r_31, hM.r_32, hM.r_33, hM.r_34, hM.r_35, hM.r_36, hM.r_37, hM.r_38, hM.r_39, hM.r_40, hM.r_41, hM.r_42, hM.r_43, hM.l_2, hM.l_3, hM.l_4, hM.l_5, hM.l_6, hM.l_7, hM.l_8, hM.l_9, hM.l_10, hM.l_11, hM.l_12, hM.l_13, hM.l_14, hM.l_15, hM.l_16, hM.l_17, hM.l_18, hM.l_19, hM.l_20, hM.l_21, hM.l_22, hM.l_23, hM.l_24, hM.l_25, hM.l_26, hM.l_27, hM.l_28, hM.l_29, hM.l_30, hM.l_31, hM.l_32, hM.l_33, hM.l_34]
          rw [nI_clamp (show s < 2 ^ 31 by omega), h21, show (12 : Int32) * nI s + nI i = nI (12 * s + i) from i12 (a := 12), nI_clamp (by omega), h24]
          refine ⟨hM.o_21, vs, fun x => absurd x (nI_ge hi (by omega)), fun _ => ⟨hM.o_24, vp_in_nI (by omega) (by decide), fun _ v36 e36 => ?_, fun y => absurd rfl y⟩⟩
          rw [e36, nI_1]; exact hlp
        · generalize hw2 : min (2 * ww) 32 = w2
          have hww : w2 = 8 ∨ w2 = 16 ∨ w2 = 32 := by omega
          have u62 : U1 6 2 = nI ww := by rw [q5.1 6 (by decide) (Or.inl (by decide)), sM_j 2 (by decide)]; exact e7
          have u64 : U1 6 4 = nI ag := by rw [q5.1 6 (by decide) (Or.inl (by decide)), sM_j 4 (by decide)]; exact e4
          have v29 : V1 29 0 = nI ww := by rw [q5.2 29 (by decide) (by decide), sM_k 29 (by decide)]; exact e8
          have v31 : V1 31 0 = nI (ag + 1) := by rw [q5.2 31 (by decide) (by decide), sM_e]
          have m62 : M' (cb + 6) 2 = nI ww := by rw [q2.u (by omega)]; exact u62
          have ej : jmin ((2 : Int32) * nI ww) 32 = nI w2 := by
            rw [show (2 : Int32) = nI 2 from rfl, pk_mul, show (32 : Int32) = nI 32 from rfl]
            by_cases y : 2 * ww ≤ 32
            · rw [jmin_l y (by decide), show w2 = 2 * ww by omega]
            · rw [jmin_r (by omega) (by omega), show w2 = 32 by omega]
          refine ⟨g61, fun A1 a1 A2 a2 A3 a3 => ?_⟩
          rw [m62, ej] at a1
          have x2 : A1 (cb + 6) 2 = nI w2 := by rw [a1, sM_e]
          rw [x2] at a2
          have x4 : A2 (cb + 6) 4 = nI ag := by rw [a2, sM_j 4 (by decide), a1, sM_j 4 (by decide), q2.u (by omega)]; exact u64
          rw [x4, nI_1] at a3
          have hC := ((((q2.setU hsd (i := 6) (j := 2) (x := nI w2) (by omega)).setU hsd (i := 6) (j := 3) (x := nI w2) (by omega)).setU hsd (i := 6) (j := 4) (x := nI (ag + 1)) (by omega)).setV1 hsd (a := 29) (x := nI w2) rfl).setV1 hsd (a := 30) (x := nI (k + 1 + w2)) rfl
          rw [← a1, ← a2, ← a3] at hC
          refine hK _ _ A3 _ (fun Q' hq => mo ⟨hM.o_31, vs, fun y => ?_, fun _ => ⟨vs, vs, fun M18 e18 => ⟨f + 1, ?_⟩⟩⟩) (hC.mono (by omega) hb) ((flR_mk (b := ag + 1) (ww := w2) (d := w2) (tm := tm') (q3.congr (U1 := sM (sM (sM U1 6 2 (nI w2)) 6 3 (nI w2)) 6 4 (nI (ag + 1))) (V1 := sM (sM V1 29 0 (nI w2)) 30 0 (nI (k + 1 + w2))) ?_ (fun i x1 x2 => by rw [sM_k i (by omega), sM_k i (by omega), sM_k i (by omega)]) (fun a x1 x2 => by rw [sM_k a (by omega), sM_k a (by omega)])) ?_ ?_ ?_ ?_ (by omega) ?_ ?_ (by omega)).mono (by omega)) (q4.cg (by omega) ?_ ?_) ⟨fun i x0 x4 x6 x8 => ?_, fun j x9 x13 => ?_, fun a x12 x14 x20 x21 => ?_, Or.inl ⟨?_, ?_, ?_, ?_⟩⟩
          · have : ag = 6 := (nI_eq (b := 6) (by omega) (by decide)).mp y
            omega
          · rw [e18]
            refine hlp Q' ?_
            rw [show f - f + 1 = 0 + 1 by omega]
            unfold w_Mo_pass_L84
            simp only [hM.r_11, hM.r_12, hM.r_13, hM.r_14, hM.r_15, hM.r_16, hM.r_17, hM.r_18, hM.r_19, hM.r_20, hM.r_21, hM.r_22, hM.r_23, hM.r_24, hM.r_25, hM.r_26, hM.r_27, hM.r_28, hM.r_29, hM.r_30, hM.r_31, hM.r_32, hM.r_33, hM.r_34, hM.r_35, hM.r_36, hM.r_37, hM.r_38, hM.r_39, hM.r_40, hM.r_41, hM.r_42, hM.r_43, hM.l_2, hM.l_3, hM.l_4, hM.l_5, hM.l_6, hM.l_7, hM.l_8, hM.l_9, hM.l_10, hM.l_11, hM.l_12, hM.l_13, hM.l_14, hM.l_15, hM.l_16, hM.l_17, hM.l_18, hM.l_19, hM.l_20, hM.l_21, hM.l_22, hM.l_23, hM.l_24, hM.l_25, hM.l_26, hM.l_27, hM.l_28, hM.l_29, hM.l_30, hM.l_31, hM.l_32, hM.l_33, hM.l_34]
            have f21 : M2' 21 s = nI f := (stA1_v q2 rfl).trans q3.2.2.1
            have f29 : M2' 29 s = nI ww := (stA1_v q2 rfl).trans v29
            rw [nI_clamp (by omega), f21, f29]
            have fin : ∀ {N : mM} {v : Int32}, N = M2' → v = nI w2 → w_Mo_pass_B149 34 T2 R2 Q' 1 (nI s) 29 (nI s) v N := by
              intro N v hN hv
              subst hN; subst hv
              unfold w_Mo_pass_B149
              simp only [hM.r_11, hM.r_12, hM.r_13, hM.r_14, hM.r_15, hM.r_16, hM.r_17, hM.r_18, hM.r_19, hM.r_20, hM.r_21, hM.r_22, hM.r_23, hM.r_24, hM.r_25, hM.r_26, hM.r_27, hM.r_28, hM.r_29, hM.r_30, hM.r_31, hM.r_32, hM.r_33, hM.r_34, hM.r_35, hM.r_36, hM.r_37, hM.r_38, hM.r_39, hM.r_40, hM.r_41, hM.r_42, hM.r_43, hM.l_2, hM.l_3, hM.l_4, hM.l_5, hM.l_6, hM.l_7, hM.l_8, hM.l_9, hM.l_10, hM.l_11, hM.l_12, hM.l_13, hM.l_14, hM.l_15, hM.l_16, hM.l_17, hM.l_18, hM.l_19, hM.l_20, hM.l_21, hM.l_22, hM.l_23, hM.l_24, hM.l_25, hM.l_26, hM.l_27, hM.l_28, hM.l_29, hM.l_30, hM.l_31, hM.l_32, hM.l_33, hM.l_34]
              rw [nI_clamp (by omega)]
              refine ⟨vs, fun M27 e27 => ⟨hM.o_30, hM.o_29, vs, vs, fun M32 e32 => ?_⟩⟩
              have y1 : M27 1 7 = nI (k + 1) := by rw [e27, sM_k 1 (by decide)]; exact q2.2.1
              have y2 : M27 29 s = nI w2 := by rw [e27, sM_e]
              rw [y1, y2, nI_add] at e32
              subst e32; subst e27
              exact hq
            refine ⟨hM.o_21, vs, fun _ => ⟨hM.o_29, vs, fun y => fin rfl ?_, fun y => ⟨vs, fin rfl ?_⟩⟩, fun y => absurd (nI_le (Nat.le_refl f) (by omega)) y⟩
            · have : 16 ≤ ww := (nI_leI (a := 16) (by decide) (by omega)).mp y
              rw [show w2 = 32 by omega]; rfl
            · have : ¬ 16 ≤ ww := fun z => y (nI_le (a := 16) z (by omega))
              rw [show (2 : Int32) = nI 2 from rfl, pk_mul, show w2 = 2 * ww by omega]
          · rw [sM_j 1 (by decide), sM_j 1 (by decide), sM_j 1 (by decide)]
          · rw [sM_e]
          · rw [sM_k 31 (by decide), sM_k 31 (by decide)]; exact v31
          · rw [sM_j 2 (by decide), sM_j 2 (by decide), sM_e]
          · rw [sM_k 29 (by decide), sM_e]
          · rw [sM_j 3 (by decide), sM_e]
          · rw [sM_e]
          · rw [sM_k 4 (by decide), sM_k 4 (by decide), sM_k 4 (by decide)]
          · rw [sM_k 14 (by decide), sM_k 14 (by decide)]
          · rw [sM_k i x6, sM_k i x6, sM_k i x6, q5.1 i x4 x8, sM_k i x6]
          · rw [sM_k 0 (by decide), sM_k 0 (by decide), sM_k 0 (by decide), q5.1 0 (by decide) (Or.inl (by decide)), sM_k 0 (by decide)]
          · rw [sM_k a (by omega), sM_k a (by omega), q5.2 a x14 (by omega), sM_k a (by omega)]
          · rw [sM_k 0 (by decide), sM_k 0 (by decide), sM_k 0 (by decide), q5.1 0 (by decide) (Or.inl (by decide)), sM_k 0 (by decide)]
          · rw [sM_j 1 (by decide), sM_j 1 (by decide), sM_j 1 (by decide), q5.1 6 (by decide) (Or.inl (by decide)), sM_j 1 (by decide)]
          · rw [sM_k 12 (by decide), sM_k 12 (by decide), q5.2 12 (by decide) (by decide), sM_k 12 (by decide)]
          · rw [sM_k 20 (by decide), sM_k 20 (by decide), q5.2 20 (by decide) (by decide), sM_k 20 (by decide)]
      · -- it gives up
        have hag : ag = 6 := by
          rcases (show ag = 6 ∨ ag < 6 by omega) with y | y
          · exact y
          · exact absurd (nI_lt (b := 6) y (by decide)) z2
        subst hag
        refine ⟨g61, fun A1 a1 => ⟨g0, fun A2 a2 A3 a3 => ?_⟩⟩
        have hC := (((((hA.setU hsd (i := 6) (j := 1) (x := 0) (by omega)).upd0 hsd (j := 9) (x := 5)).upd0 hsd (j := 13) (x := 0)).setV1 hsd (a := 21) (x := 0) rfl).setV1 hsd (a := 12) (x := 5) rfl).setV1 hsd (a := 20) (x := -1) rfl
        rw [← a1, ← a2, ← a3] at hC
        refine hK _ _ A3 _ (fun Q' hq => mo ⟨hM.o_31, vs, fun _ => ⟨hM.o_21, vs, fun M14 e14 => ⟨hM.ok1, ?_⟩⟩, fun y => absurd rfl y⟩) (hC.mono (by omega) hb) ⟨0, Nat.zero_le _, ?_, ?_, fun y => absurd y (Nat.lt_irrefl 0)⟩ (hn.cg (by omega) ?_ ?_) ⟨fun i x0 x4 x6 x8 => ?_, fun j x9 x13 => ?_, fun a x12 x14 x20 x21 => ?_, Or.inr ⟨?_, ?_, ?_, ?_⟩⟩
        · simp only [hM.r_11, hM.r_12, hM.r_13, hM.r_14, hM.r_15, hM.r_16, hM.r_17, hM.r_18, hM.r_19, hM.r_20, hM.r_21, hM.r_22, hM.r_23, hM.r_24, hM.r_25, hM.r_26, hM.r_27, hM.r_28, hM.r_29, hM.r_30, hM.r_31, hM.r_32, hM.r_33, hM.r_34, hM.r_35, hM.r_36, hM.r_37, hM.r_38, hM.r_39, hM.r_40, hM.r_41, hM.r_42, hM.r_43, hM.l_2, hM.l_3, hM.l_4, hM.l_5, hM.l_6, hM.l_7, hM.l_8, hM.l_9, hM.l_10, hM.l_11, hM.l_12, hM.l_13, hM.l_14, hM.l_15, hM.l_16, hM.l_17, hM.l_18, hM.l_19, hM.l_20, hM.l_21, hM.l_22, hM.l_23, hM.l_24, hM.l_25, hM.l_26, hM.l_27, hM.l_28, hM.l_29, hM.l_30, hM.l_31, hM.l_32, hM.l_33, hM.l_34]
          rw [nI_clamp (by omega)]
          refine ⟨hM.o_12, vs, fun N3 n3 => ⟨hM.o_20, vs, fun N6 n6 => ?_⟩⟩
          subst n6; subst n3; subst e14
          exact hq
        · rw [sM_k 6 (by decide), sM_k 6 (by decide), sM_e]; rfl
        · rw [sM_k 21 (by decide), sM_k 21 (by decide), sM_e]; rfl
        · rw [sM_k 4 (by decide), sM_k 4 (by decide), sM_k 4 (by decide), sM_k 4 (by decide)]
        · rw [sM_k 14 (by decide), sM_k 14 (by decide), sM_k 14 (by decide)]
        · rw [sM_k i x0, sM_k i x0, sM_k i x6, sM_k i x6]
        · rw [sM_j j x13, sM_j j x9, sM_k 0 (by decide), sM_k 0 (by decide)]
        · rw [sM_k a x20, sM_k a x12, sM_k a (by omega)]
        · rw [sM_j 9 (by decide), sM_e]
        · rw [sM_e]
        · rw [sM_k 12 (by decide), sM_e]
        · rw [sM_e]
end WT
