/-! a tick -/
section TK
variable {sd : Int32} {mt k c s cb nf w : Nat} {U V U' V' : mM} {hs : Nat → Int32} {dl : Int32} {T T2 : mT} {R R2 : mR} {M M2 : mM}
theorem nxt_num {e a : Nat} (hn : nxtR c U V) (ha : a ≤ c) : nxtR (c + 1) (sM U 4 e (nI (a + 1))) (sM V 14 e (nI (a + 1))) := by
  intro e' he'
  by_cases q : e' = e
  · subst q
    exact ⟨a + 1, by omega, sM_e, sM_e⟩
  · obtain ⟨b, q1, q2, q3⟩ := hn e' he'
    exact ⟨b, by omega, (sM_j e' q).trans q2, (sM_j e' q).trans q3⟩
theorem stOK5 {x t : Nat} (h : stOK s x t) : stOK s 5 t := by
  unfold stOK at h ⊢
  split
  · rename_i q; rw [if_pos q] at h; right; right; right; right; right; exact ⟨rfl, by omega⟩
  · rename_i q; rw [if_neg q] at h; right; right; right; exact ⟨rfl, by omega⟩
theorem extR.fr {U1 V1 : mM} (hsd : isSd s cb nf w) (h : extR sd s U V hs) (h14 : U1 0 14 = U 0 14) (hu : ∀ i, 12 + 3 * nf ≤ i → U1 i = U i) (hv : V1 13 = V 13) (h35 : s = 1 → U1 35 0 = U 35 0) (h1 : s = 1 → U1 0 13 = 0 ∧ ((U1 0 9 = U 0 9 ∧ U1 6 1 = U 6 1) ∨ U1 0 9 = 5)) : extR sd s U1 V1 hs := by
  unfold extR at h ⊢
  rcases hsd with ⟨rfl, rfl, rfl, rfl⟩ | ⟨rfl, rfl, rfl, rfl⟩
  · exact cliR.cg h hv h14 (fun i x1 x2 => hu i (by omega)) rfl
  · obtain ⟨a1, a2⟩ := h1 rfl
    have h : srvR sd U := h
    show srvR sd U1
    unfold srvR at h ⊢
    rw [h14, hu 39 (by decide), hu 41 (by decide), hu 43 (by decide), hu 45 (by decide), hu 47 (by decide), h35 rfl]
    obtain ⟨b1, b2, b3, b4, b5, b6, b7, b8, b9⟩ := h
    refine ⟨b1, b2, b3, b4, b5, b6, a1, fun x => ?_, fun x => ?_⟩
    · rcases a2 with ⟨c1, c2⟩ | c1
      · rw [c2]; exact b8 (by rw [← c1]; exact x)
      · rw [c1] at x; exact absurd x (by decide)
    · rcases a2 with ⟨c1, c2⟩ | c1
      · exact b9 (by rw [← c1]; exact x)
      · rw [c1] at x; exact absurd x (by decide)
theorem tick_side (hsd : isSd s cb nf w) (hL : LC sd T R) (hM : LM T2 R2) (h : NS sd mt (k + 1) c s cb w U V U' V' hs dl R M M2) (hb : c + 1 + nf ≤ 8208) (hS : SideRel sd mt c s nf k U V) (he : extR sd s U V hs) {K : mM → Prop}
    (hK : ∀ U1 V1 M' M2', (∀ Q', Q' M2' → w_Mo_pass 34 T2 R2 M2 1 (nI s) Q') → NS sd mt (k + 1) (c + 1 + nf) s cb w U1 V1 U' V' hs dl R M' M2' → SideRel sd mt (c + 1 + nf) s nf (k + 1) U1 V1 → extR sd s U1 V1 hs → K M') : w_Side_passTick 200 T R M cb K := by
  have hl := hsd.le
  have hLS := hL.sid hsd
  have ⟨g0, ⟨g2, g3, _⟩, _, _, _, _, ⟨g61, g62, g71, g72⟩, _, _⟩ := hLS
  have vs : vp_in (nI s) 2 := vp_in_nI (by omega) (by decide)
  have e17 : M2 1 7 = nI (k + 1) := h.2.1
  have hk := h.1.2.2.1
  have ⟨a1, ⟨x, t, t1, t2, t3, t4, t5, t6, t7⟩, a3, a4, a5, a6, a7, a8⟩ := hS
  have ht8 : t ≤ 8 := by unfold stOK at t1; split at t1 <;> omega
  have e1320 : M2 20 s = V 20 0 := stA1_v h rfl
  have s13 : s = 1 → U 0 13 = 0 := fun y => by
    subst y
    have : srvR sd U := he
    exact this.2.2.2.2.2.2.1
  have fin : ∀ Ua Va Ma M2a, NS sd mt (k + 1) (c + 1) s cb w Ua Va U' V' hs dl R Ma M2a → nxtR (c + 1) Ua Va → (∀ i, i ≠ 0 → i ≠ 4 → Ua i = U i) → (∀ j, j ≠ 13 → Ua 0 j = U 0 j) → (∀ a, a ≠ 14 → a ≠ 20 → Va a = V a) → ackR (k + 1) Ua Va → (s = 1 → Ua 0 13 = 0) → (∀ Q', w_Mo_pass_B25 34 T2 R2 Q' 1 (nI s) M2a → w_Mo_pass 34 T2 R2 M2 1 (nI s) Q') → (ok T 200 (cb + 6) 2 ∧ w_Flight_hasWaited 200 T R Ma (cb + 6) (fun r2 M3 => ((r2 = 0 → K M3) ∧ (¬ r2 = 0 → w_Side_sendAgainOrFail 200 T R M3 cb (fun M5 => K M5))))) := by
    intro Ua Va Ma M2a n1 n2 f1 f2 f3 ak sa run
    refine ⟨g61, wait_both hsd hL hM n1 (by omega) (by rw [f2 0 (by decide)]; exact a1.1) (a8.cg (by omega) (f1 6 (by decide) (by decide)) (fun i x1 x2 => f1 i (by omega) (by omega)) (fun a x1 x2 => f3 a (by omega) (by omega))) n2 (fun U1 V1 M' M2' r1 r2 r3 r4 r5 => ?_)⟩
    obtain ⟨b1, b2, b3, b4⟩ := r5
    have u0 : ∀ j, j ≠ 9 → j ≠ 13 → U1 0 j = U 0 j := fun j x1 x2 => by rw [b2 j x1 x2, f2 j x2]
    have u1 : ∀ i, i ≠ 0 → i ≠ 4 → i ≠ 6 → i < 8 ∨ 8 + 3 * nf ≤ i → U1 i = U i := fun i x0 x4 x6 x8 => by rw [b1 i x0 x4 x6 x8, f1 i x0 x4]
    have v1 : ∀ a, a ≠ 12 → a ≠ 14 → a ≠ 20 → a < 21 ∨ 31 < a → V1 a = V a := fun a x1 x2 x3 x4 => by rw [b3 a x1 x2 x3 x4, f3 a x2 x3]
    have v13 : V1 13 = V 13 := v1 13 (by decide) (by decide) (by decide) (by decide)
    refine hK U1 V1 M' M2' (fun Q' hq => run Q' (r1 Q' hq)) (r2.mono (by omega) (by omega)) (hS.re (by omega) (fun j hj => u0 j (by omega) (by omega)) (u1 1 (by decide) (by decide) (by decide) (Or.inl (by decide))) (u1 2 (by decide) (by decide) (by decide) (Or.inl (by decide))) (u1 5 (by decide) (by decide) (by decide) (Or.inl (by decide))) (fun e he => u1 _ (by omega) (by omega) (by omega) (by omega)) (fun a ha => v1 a (by omega) (by omega) (by omega) (by omega)) ?_ (r4.mono (by omega)) ?_ (r3.mono (by omega))) (he.fr hsd (u0 14 (by decide) (by decide)) (fun i hi => u1 i (by omega) (by omega) (by omega) (by omega)) v13 (fun y => by rw [u1 35 (by decide) (by decide) (by decide) (Or.inr (by rcases hsd with ⟨z, -⟩ | ⟨-, -, rfl, -⟩ <;> omega))]) (fun y => ?_))
    · rcases b4 with ⟨p0, p6, p12, p20⟩ | ⟨p9, p13, p12, p20⟩
      · exact ⟨x, t, t1, by rw [p0, f2 9 (by decide)]; exact t2, by rw [p12, f3 12 (by decide) (by decide)]; exact t3, by rw [v13]; exact t4, by rw [u0 10 (by decide) (by decide)]; exact t5, by rw [u0 11 (by decide) (by decide)]; exact t6, by rw [u0 12 (by decide) (by decide)]; exact t7⟩
      · exact ⟨5, t, stOK5 t1, p9, p12, by rw [v13]; exact t4, by rw [u0 10 (by decide) (by decide)]; exact t5, by rw [u0 11 (by decide) (by decide)]; exact t6, by rw [u0 12 (by decide) (by decide)]; exact t7⟩
    · rcases b4 with ⟨p0, p6, p12, p20⟩ | ⟨p9, p13, p12, p20⟩
      · exact ak.cg (by rw [p0]) p20
      · exact Or.inl ⟨p13, p20⟩
    · rcases b4 with ⟨p0, p6, p12, p20⟩ | ⟨p9, p13, p12, p20⟩
      · exact ⟨by rw [p0]; exact sa y, Or.inl ⟨by rw [p0, f2 9 (by decide)], by rw [p6, f1 6 (by decide) (by decide)]⟩⟩
      · exact ⟨p13, Or.inr p9⟩
  refine ⟨g0, ?_⟩
  rw [g3, h.u0 hsd (j := 13)]
  rcases a6 with ⟨k1, k2⟩ | ⟨d, k1, k2, k3, k4⟩
  · rw [k1]
    refine ⟨fun _ => fin U V M M2 (h.mono (by omega) (by omega)) (a3.mono (by omega)) (fun _ _ _ => rfl) (fun _ _ => rfl) (fun _ _ _ => rfl) (Or.inl ⟨k1, k2⟩) s13 (fun Q' hq => ⟨hM.ok1, ?_⟩), fun y => absurd (by decide) y⟩
    simp only [hM.r_11, hM.r_12, hM.r_13, hM.r_14, hM.r_15, hM.r_16, hM.r_17, hM.r_18, hM.r_19, hM.r_20, hM.r_21, hM.r_22, hM.r_23, hM.r_24, hM.r_25, hM.r_26, hM.r_27, hM.r_28, hM.r_29, hM.r_30, hM.r_31, hM.r_32, hM.r_33, hM.r_34, hM.r_35, hM.r_36, hM.r_37, hM.r_38, hM.r_39, hM.r_40, hM.r_41, hM.r_42, hM.r_43, hM.l_2, hM.l_3, hM.l_4, hM.l_5, hM.l_6, hM.l_7, hM.l_8, hM.l_9, hM.l_10, hM.l_11, hM.l_12, hM.l_13, hM.l_14, hM.l_15, hM.l_16, hM.l_17, hM.l_18, hM.l_19, hM.l_20, hM.l_21, hM.l_22, hM.l_23, hM.l_24, hM.l_25, hM.l_26, hM.l_27, hM.l_28, hM.l_29, hM.l_30, hM.l_31, hM.l_32, hM.l_33, hM.l_34]
    rw [nI_clamp (by omega), e1320, k2, e17]
    refine ⟨hM.o_20, vs, fun y => ?_, fun _ => hq⟩
    have y2 : (-1 : Int32).toInt = (nI (k + 1)).toInt := by rw [y]
    rw [nI_toInt (by omega)] at y2
    have y3 : (-1 : Int32).toInt = -1 := rfl
    omega
  · rw [k3]
    refine ⟨fun y => absurd y (nI_nle (by omega) (by omega)), fun _ M6 e6 => ?_⟩
    rw [show nI d - 1 = nI (d - 1) from nI_sub (b := 1) k1] at e6
    have d6 : M6 cb 13 = nI (d - 1) := by rw [e6, sM_e]
    rw [d6]
    have hA := h.upd0 hsd (j := 13) (x := nI (d - 1))
    rw [← e6] at hA
    rcases (show d = 1 ∨ d = 2 by omega) with rfl | rfl
    · refine ⟨fun _ => ?_, fun y => absurd rfl y⟩
      have hB := hA.setV1 hsd (a := 20) (x := -1) rfl
      refine ack_both hsd hL hM hB (by omega) ht8 (by rw [sM_j 0 (by decide)]; exact a1.1) (by rw [sM_j 11 (by decide)]; exact t6) (by rw [sM_k 13 (by decide)]; exact t4) (a3.cg (Nat.le_refl _) (sM_k 4 (by decide)) (sM_k 14 (by decide))) (a5.cg (Nat.le_refl _) (by rw [sM_k 1 (by decide)]) (sM_k 2 (by decide)) (sM_k 17 (by decide)) (sM_k 18 (by decide)) (sM_k 19 (by decide))) (fun a M' M2' ha r1 r2 => ?_)
      refine fin _ _ M' M2' r2 ?_ (fun i x0 x4 => by rw [sM_k i x4, sM_k i x0]) (fun j x13 => by rw [sM_k 0 (by decide), sM_j j x13]) (fun a x14 x20 => by rw [sM_k a x14, sM_k a x20]) (Or.inl ⟨?_, ?_⟩) (fun _ => ?_) (fun Q' hq => ⟨hM.ok1, ?_⟩)
      · exact nxt_num (a3.cg (Nat.le_refl _) (sM_k 4 (by decide)) (sM_k 14 (by decide))) ha
      · rw [sM_k 0 (by decide), sM_e]; rfl
      · rw [sM_k 20 (by decide), sM_e]
      · rw [sM_k 0 (by decide), sM_e]; rfl
      · simp only [hM.r_11, hM.r_12, hM.r_13, hM.r_14, hM.r_15, hM.r_16, hM.r_17, hM.r_18, hM.r_19, hM.r_20, hM.r_21, hM.r_22, hM.r_23, hM.r_24, hM.r_25, hM.r_26, hM.r_27, hM.r_28, hM.r_29, hM.r_30, hM.r_31, hM.r_32, hM.r_33, hM.r_34, hM.r_35, hM.r_36, hM.r_37, hM.r_38, hM.r_39, hM.r_40, hM.r_41, hM.r_42, hM.r_43, hM.l_2, hM.l_3, hM.l_4, hM.l_5, hM.l_6, hM.l_7, hM.l_8, hM.l_9, hM.l_10, hM.l_11, hM.l_12, hM.l_13, hM.l_14, hM.l_15, hM.l_16, hM.l_17, hM.l_18, hM.l_19, hM.l_20, hM.l_21, hM.l_22, hM.l_23, hM.l_24, hM.l_25, hM.l_26, hM.l_27, hM.l_28, hM.l_29, hM.l_30, hM.l_31, hM.l_32, hM.l_33, hM.l_34]
        rw [nI_clamp (by omega), e1320, k4, e17]
        refine ⟨hM.o_20, vs, fun _ => ⟨vs, fun M4 e4 => ?_⟩, fun y => absurd rfl y⟩
        rw [e4]
        exact r1 _ hq
    · refine ⟨fun y => absurd y (by decide), fun _ => ?_⟩
      refine fin _ V M6 M2 (hA.mono (by omega) (by omega)) (a3.cg (by omega) (sM_k 4 (by decide)) rfl) (fun i x0 x4 => sM_k i x0) (fun j x13 => sM_j j x13) (fun _ _ _ => rfl) (Or.inr ⟨1, by decide, by decide, sM_e, by rw [k4]⟩) (fun y => ?_) (fun Q' hq => ⟨hM.ok1, ?_⟩)
      · have := s13 y
        rw [k3] at this
        exact absurd this (by decide)
      · simp only [hM.r_11, hM.r_12, hM.r_13, hM.r_14, hM.r_15, hM.r_16, hM.r_17, hM.r_18, hM.r_19, hM.r_20, hM.r_21, hM.r_22, hM.r_23, hM.r_24, hM.r_25, hM.r_26, hM.r_27, hM.r_28, hM.r_29, hM.r_30, hM.r_31, hM.r_32, hM.r_33, hM.r_34, hM.r_35, hM.r_36, hM.r_37, hM.r_38, hM.r_39, hM.r_40, hM.r_41, hM.r_42, hM.r_43, hM.l_2, hM.l_3, hM.l_4, hM.l_5, hM.l_6, hM.l_7, hM.l_8, hM.l_9, hM.l_10, hM.l_11, hM.l_12, hM.l_13, hM.l_14, hM.l_15, hM.l_16, hM.l_17, hM.l_18, hM.l_19, hM.l_20, hM.l_21, hM.l_22, hM.l_23, hM.l_24, hM.l_25, hM.l_26, hM.l_27, hM.l_28, hM.l_29, hM.l_30, hM.l_31, hM.l_32, hM.l_33, hM.l_34]
        rw [nI_clamp (by omega), e1320, k4, e17]
        refine ⟨hM.o_20, vs, fun y => ?_, fun _ => hq⟩
        have : k + 2 = k + 1 := (nI_eq (by omega) (by omega)).mp y
        omega
end TK
theorem sim_tick : ∀ (c : Nat) (T : mT) (R : mR) (M : mM) (T2 : mT) (R2 : mR) (M2 : mM) , c < 512 → Sim c T R M T2 R2 M2 → w_X_tick 200 T R M 1  (fun r M' => w_Mo_tick 34 T2 R2 M2 1  (fun r2 M2' => r = r2 ∧ Sim (c + 1) T R M' T2 R2 M2')) := by
  intro c T R M T2 R2 M2 hc h
  obtain ⟨h0, sd, mt, k, hk, hL, hM, hP⟩ := h
  have s0 := hP.side sd0
  have s1 := hP.side sd1
  have x0 := hP.ext sd0
  have x1 := hP.ext sd1
  -- the reference's clock goes on, and it counts anew
  have hN : NS sd mt (k + 1) (16 * c) 0 128 24 (uw M 128 24) (vw M2 0) (uw M 152 49) (vw M2 1) (M2 32) (M 2 5) R M (sM (sM M2 1 7 (nI (k + 1))) 1 10 0) := by
    obtain ⟨⟨p1, p2, p3, p4⟩, q1, q2, q3, -⟩ := hP
    have v : ∀ s, vw (sM (sM M2 1 7 (nI (k + 1))) 1 10 0) s = vw M2 s := fun s => vw_eq (fun a ha => by rw [sM_k a (by omega), sM_k a (by omega)])
    refine ⟨⟨p1, p2, by omega, p4⟩, ?_, ?_, ?_, rfl, v 0, rfl, v 1, ?_, ?_⟩
    · rw [sM_j 7 (by decide), sM_e]
    · unfold conR at q2 ⊢
      have z : ∀ j, j ≤ 6 → sM (sM M2 1 7 (nI (k + 1))) 1 10 0 1 j = M2 1 j := fun j hj => by rw [sM_j j (by omega), sM_j j (by omega)]
      rw [z 0 (by decide), z 1 (by decide), z 2 (by decide), z 3 (by decide), z 4 (by decide), z 5 (by decide), z 6 (by decide)]
      exact q2
    · rw [nv_out (by decide), nv_out (by decide)]; exact q3
    · rw [sM_k 32 (by decide), sM_k 32 (by decide)]
    · rw [sM_e]; exact (Int32.zero_add _).symm
  generalize hd : M 2 5 = dl at hN
  refine ⟨hL.o_1, ?_⟩
  rw [hL.r_1_0, hL.r_1_1, hL.r_1_2, hd]
  refine ⟨hL.o_2, fun v2 e2 => ⟨hL.o_128, ?_⟩⟩
  refine tick_side sd0 hL hM hN (by omega) s0 x0 (fun U1 V1 M' M2' r1 r2 r3 r4 => ⟨hL.o_152, ?_⟩)
  have hN2 : NS sd mt (k + 1) (16 * c + 1 + 1) 1 152 49 (uw M 152 49) (vw M2 1) U1 V1 (M2 32) dl R M' M2' := by
    obtain ⟨p1, p2, p3, p4, p5, p6, p7, p8, p9, p10⟩ := r2
    exact ⟨p1, p2, p3, p4, p7, p8, p5, p6, p9, p10⟩
  refine tick_side sd1 hL hM hN2 (by omega) (s1.mono (by omega)) x1 (fun U3 V3 M3 M4 t1 t2 t3 t4 => ⟨hM.ok1, fun A1 a1 A2 a2 => ?_⟩)
  have a2' : A2 = sM (sM M2 1 7 (nI (k + 1))) 1 10 0 := by rw [a2, a1, hP.2.1, nI_1]
  rw [a2']
  refine r1 _ (t1 _ ⟨?_, by omega, sd, mt, k + 1, by omega, hL, hM, (t2.sim sd1 t3 t4 ⟨r3.mono (by omega), r4⟩).mono (by omega) (by omega)⟩)
  have := t2.2.2.2.2.2.2.2.2.2
  rw [this, e2, Int32.add_sub_cancel]
