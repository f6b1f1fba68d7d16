/-! deliver: at the client -/
section DL
variable {sd : Int32} {mt k c c' m i n e x t p : Nat} {U V U' V' U1 : mM} {hs : Nat → Int32} {dl : Int32} {T T2 : mT} {R R2 : mR} {M M2 : mM}
theorem SideRel.c40 (h : SideRel sd mt c 1 9 k U V) (hu : ∀ i, i ≠ 40 → U1 i = U i) : SideRel sd mt c 1 9 k U1 V := by
  obtain ⟨a1, a2, a3, a4, a5, a6, a7, a8⟩ := h
  exact ⟨by rw [hu 0 (by decide)]; exact a1, a2.cg (by rw [hu 0 (by decide)]) (by rw [hu 0 (by decide)]) (by rw [hu 0 (by decide)]) (by rw [hu 0 (by decide)]) rfl rfl, a3.cg (Nat.le_refl _) (hu 4 (by decide)) rfl, a4.cg (by rw [hu 0 (by decide)]) (hu 5 (by decide)) rfl rfl, a5.cg (Nat.le_refl _) (by rw [hu 1 (by decide)]) (hu 2 (by decide)) rfl rfl rfl, a6.cg (by rw [hu 0 (by decide)]) rfl, a7.cg (Nat.le_refl _) (fun e' _ => hu _ (by omega)) rfl rfl, a8.cg (Nat.le_refl _) (hu 6 (by decide)) (fun i y1 y2 => hu i (by omega)) (fun _ _ _ => rfl)⟩
theorem srvR.c40 (h : srvR sd U) (hu : ∀ i, i ≠ 40 → U1 i = U i) : srvR sd U1 := by
  unfold srvR at h ⊢
  rw [hu 0 (by decide), hu 6 (by decide), hu 35 (by decide), hu 39 (by decide), hu 41 (by decide), hu 43 (by decide), hu 45 (by decide), hu 47 (by decide)]
  exact h
theorem wm_skipC (hM : LM T2 R2) (h3 : 3 ≤ p) (h6 : p ≤ 6) (e12 : M2 12 0 = nI x) (hx : ¬ nI x = 2) {a3 a4 a5 a6 : Int32} {Q : mM → Prop} (hq : Q M2) : w_Mo_takeFragment 34 T2 R2 M2 1 (nI 0) (nI p) a3 a4 a5 a6 Q := by
  have v0s : vp_in (0 : Int32) 2 := vp_in_nI (n := 0) (by decide) (by decide)
  refine ⟨hM.ok1, fun _ => ⟨fun y => absurd y (fun y => by have := (nI_eq (b := 1) (by omega) (by decide)).mp y; omega), fun _ => ?_⟩, fun y => absurd rfl y⟩
  have B94 : w_Mo_takeFragment_B94 34 T2 R2 Q 1 (nI 0) (nI p) a5 a6 M2 := by
    unfold w_Mo_takeFragment_B94 w_Mo_takeFragment_B112
    exact ⟨fun y => absurd y (by decide), fun _ => ⟨fun y => absurd y (by decide), fun _ => hq⟩⟩
  unfold w_Mo_takeFragment_B42
  simp only [hM.r_11, hM.r_12, hM.r_13, hM.r_14, hM.r_15, hM.r_16, hM.r_17, hM.r_18, hM.r_19, hM.r_20, hM.r_21, hM.r_22, hM.r_23, hM.r_24, hM.r_25, hM.r_26, hM.r_27, hM.r_28, hM.r_29, hM.r_30, hM.r_31, hM.r_32, hM.r_33, hM.r_34, hM.r_35, hM.r_36, hM.r_37, hM.r_38, hM.r_39, hM.r_40, hM.r_41, hM.r_42, hM.r_43, hM.l_2, hM.l_3, hM.l_4, hM.l_5, hM.l_6, hM.l_7, hM.l_8, hM.l_9, hM.l_10, hM.l_11, hM.l_12, hM.l_13, hM.l_14, hM.l_15, hM.l_16, hM.l_17, hM.l_18, hM.l_19, hM.l_20, hM.l_21, hM.l_22, hM.l_23, hM.l_24, hM.l_25, hM.l_26, hM.l_27, hM.l_28, hM.l_29, hM.l_30, hM.l_31, hM.l_32, hM.l_33, hM.l_34]
  rw [e12]
  exact ⟨fun _ => ⟨fun _ => B94, fun _ => ⟨fun _ => B94, fun _ => ⟨hM.o_12, v0s, fun y => absurd y hx, fun _ => B94⟩⟩⟩, fun _ => B94⟩
theorem wm_fragS (hM : LM T2 R2) {a2 a3 a4 a5 a6 : Int32} {Q : mM → Prop} (h0 : a2 = 0 → w_Mo_retry 34 T2 R2 M2 1 a6 Q) (h1 : ¬ a2 = 0 → w_Mo_takeFragment_B112 34 T2 R2 Q 1 1 a2 a5 a6 M2) : w_Mo_takeFragment 34 T2 R2 M2 1 (nI 1) a2 a3 a4 a5 a6 Q := by
  refine ⟨hM.ok1, fun y => absurd y (by decide), fun _ => ⟨fun y => absurd y (by decide), fun _ => ⟨fun _ => ⟨h0, h1⟩, fun y => absurd rfl y⟩⟩⟩
theorem deliver_c (hL : LC sd T R) (hM : LM T2 R2) (h : NS sd mt k c 0 128 24 U V U' V' hs dl R M M2) (hS : SideRel sd mt c 0 1 k U V) (hcl : cliR sd U V hs) (hc : c + 1 ≤ c') (hb : c' ≤ 8208) (hm : m ≤ 60) (hi : i < m) (e1 : M 2 3 = nI m) (e2 : M2 1 8 = nI m) (hsp : ∀ j, j < m → M2 6 j = 0 ∨ M2 6 j = 1) (hrow : rowsOK R) (g3 : M (R 3 i) 3 = M2 3 i) (g4 : M (R 3 i) 4 = nI e) (g5 : M (R 3 i) 5 = nI n) (g8 : M (R 3 i) 8 = M2 6 i) (hn : n ≤ c) (he : e = 0 ∨ e = 2 ∨ e = 3) (hbody : bodyR sd c (nI 1) (M2 3 i) (nI e) (M2 7 i) (M2 8 i) (M2 9 i) (fun j => M2 10 (8 * i + j)) (fun j => M2 11 (8 * i + j)) (M (R 3 i) 6) (M (R 3 i) 7) (M (R 3 i) 1) (M (R 3 i + 1))) {K : Int32 → mM → Prop}
    (hK : ∀ (g : Int32) (M' M2' : mM), (g = 0 ∨ g = 1) → (∀ Q' : Int32 → mM → Prop, Q' g M2' → w_Mo_deliver_B88 34 T2 R2 Q' 1 (nI i) (nI 0) (nI e) (nI n) (M2 3 i) (M2 7 i) (M2 8 i) (M2 9 i) 1 M2) → FinR sd mt k c' 0 128 1 24 U' V' hs dl (tkR R i m) M' M2' → K g M') : w_Client_accept 200 T (tkR R i m) (sM M 2 3 (nI (m - 1))) 128 (R 3 i) K := by
  have hi60 : i < 60 := by omega
  have hL' : LC sd T (tkR R i m) := hL.rows (fun k j a b => tkR_o a b)
  have hLS := hL'.sid sd0
  have hr := (hrow.1 i hi60).1
  obtain ⟨b1, b2, b3, b4⟩ := hL'.rec hr
  have hr2 := hr.2.2
  have hr3 := hr.2.1
  have ⟨a1, ⟨x, t, t1, t2, t3, t4, t5, t6, t7⟩, a3, a4, a5, a6, a7, a8⟩ := hS
  have hxt : x ≤ 5 ∧ t ≤ 8 := by unfold stOK at t1; rw [if_pos rfl] at t1; omega
  have f0 : ∀ a, a ≠ 2 → sM M 2 3 (nI (m - 1)) a = M a := fun a y => sM_k a y
  have hD := h.drop sd0 hm hi e1
  obtain ⟨g, hg, gc, gm, gn⟩ := throws_both (kp := 1) sd0 hLS hM (N := sM M 2 3 (nI (m - 1))) (fun {a j} ha => by rw [f0 _ (by omega)]; exact h.u ha) h b1 hxt.2 hxt.1 t2 t3 t4 t7 a7 he hn (by rw [f0 _ (by omega)]; exact g8) (by rw [f0 _ (by omega)]; exact g4) (by rw [f0 _ (by omega)]; exact g5) hi60 rfl (hsp i hi) (Or.inl rfl)
  refine ⟨hL.o_128, gc _ ⟨fun g0 => ?_, fun g1 => ?_⟩⟩
  · obtain ⟨x5, hrd, hnew⟩ := gn g0
    have he4 : e < 4 := by omega
    obtain ⟨sn', G', l1, l2, l3⟩ := let_ex (cb := 128) hM (Nat.zero_le 1) a7 he4 hn h.1.2.2.2 (hLS.2.2.2.1.2.2 e he4).2 hnew
    have hE := (((hD.setU sd0 (i := 8 + 3 * 1 + e) (j := 1) (x := sn') (by omega)).setU sd0 (i := 8 + 3 * 1 + e) (j := 0) (x := G') (by omega)).setV sd0 (a := 15) (j := e) (x := G') (by show e < 4; exact he4)).setV sd0 (a := 16) (j := 16 * e + n % 16) (x := nI n) (by show 16 * e + n % 16 < 64; omega)
    have hS3 := SideRel.letd hS l3
    have hx3 := extR.letd (U := U) (V := V) (hs := hs) (sd := sd) (a := sn') (b := G') (x := nI n) (j := 16 * e + n % 16) sd0 he4 hcl (fun y => absurd y (by decide))
    have e15 : drM M2 i m 15 (4 * 0 + e) = V 15 e := hD.v (a := 15) (j := e) (by show e < 4; exact he4)
    refine wc_letIn hLS b1 he4 (by rw [f0 _ (by omega)]; exact g4) (by rw [f0 _ (by omega)]; exact g5) (l1 _ _ _ (by rw [f0 _ (by omega)]; exact h.u (by omega)) (by rw [f0 _ (by omega)]; exact h.u (by omega)) ⟨b1, ?_⟩)
    have mo0 : ∀ (a5 a6 a7 a8 : Int32) (Q' : Int32 → mM → Prop), ¬ a5 = 1 → ((a5 = 0 → w_Mo_takeFragment 34 T2 R2 (sM (sM (drM M2 i m) 15 (4 * 0 + e) G') 16 (64 * 0 + (16 * e + n % 16)) (nI n)) 1 (nI 0) a6 a7 a8 (nI e) (nI n) (fun M40 => w_Mo_deliver_B230 34 T2 R2 Q' 1 (nI 0) a5 a6 M40)) ∧ (¬ a5 = 0 → w_Mo_deliver_B230 34 T2 R2 Q' 1 (nI 0) a5 a6 (sM (sM (drM M2 i m) 15 (4 * 0 + e) G') 16 (64 * 0 + (16 * e + n % 16)) (nI n)))) → w_Mo_deliver_B88 34 T2 R2 Q' 1 (nI i) (nI 0) (nI e) (nI n) a5 a6 a7 a8 1 M2 := fun a5 a6 a7 a8 Q' y hq => gm Q' _ _ _ _ (fun y => absurd (g0.symm.trans y) (by decide)) (fun _ => ⟨fun _ => ⟨fun y' => absurd y' y, fun _ => wm_163k hM hm hi e2 hsp (l2 _ _ e15 hq)⟩, fun y => absurd rfl y⟩)
    have ack := fun z hz w7 w1 wnm => ack_act (z := z) (K := fun M5 => K 1 M5) sd0 hL hM h hS (show extR sd 0 U V hs from hcl) (fun y => absurd y (by decide)) (by omega : c ≤ c') hb hm hi e1 e2 hsp hrow hz w7 w1 wnm he4 l2 l3 rfl
    have hE' : NS sd mt k c 0 128 24 (sM (sM U (8 + 3 * 1 + e) 1 sn') (8 + 3 * 1 + e) 0 G') (sM (sM V 15 e G') 16 (16 * e + n % 16) (nI n)) U' V' hs dl (tkR R i m) (sM (sM (sM M 2 3 (nI (m - 1))) (128 + (8 + 3 * 1 + e)) 1 sn') (128 + (8 + 3 * 1 + e)) 0 G') (sM (sM (drM M2 i m) 15 (4 * 0 + e) G') 16 (64 * 0 + (16 * e + n % 16)) (nI n)) := hE
    clear hE
    have nr : ∀ a, a = R 3 i ∨ a = R 3 i + 1 → sM (sM (sM M 2 3 (nI (m - 1))) (128 + (8 + 3 * 1 + e)) 1 sn') (128 + (8 + 3 * 1 + e)) 0 G' a = M a := fun a y => by rw [sM_k _ (by omega), sM_k _ (by omega), sM_k _ (by omega)]
    have e12 : sM (sM (drM M2 i m) 15 (4 * 0 + e) G') 16 (64 * 0 + (16 * e + n % 16)) (nI n) 12 0 = nI x := by rw [sM_k 12 (by decide), sM_k 12 (by decide)]; exact (stA1_v hD rfl).trans t3
    have u9 : sM (sM U (8 + 3 * 1 + e) 1 sn') (8 + 3 * 1 + e) 0 G' 0 9 = nI x := by rw [sM_k 0 (by omega), sM_k 0 (by omega)]; exact t2
    generalize sM (sM (sM M 2 3 (nI (m - 1))) (128 + (8 + 3 * 1 + e)) 1 sn') (128 + (8 + 3 * 1 + e)) 0 G' = N at hE' nr ack ⊢
    generalize sM (sM (drM M2 i m) 15 (4 * 0 + e) G') 16 (64 * 0 + (16 * e + n % 16)) (nI n) = N2 at hE' mo0 e12
    generalize sM (sM U (8 + 3 * 1 + e) 1 sn') (8 + 3 * 1 + e) 0 G' = U3 at hE' hS3 hx3 u9
    generalize sM (sM V 15 e G') 16 (16 * e + n % 16) (nI n) = V3 at hE' hS3 hx3
    rw [nr (R 3 i) (Or.inl rfl), g3, b2, nr (R 3 i + 1) (Or.inr rfl)]
    have none0 : ∀ (Q' : Int32 → mM → Prop) (a6 : Int32) (M' : mM), Q' 1 M' → w_Mo_deliver_B230 34 T2 R2 Q' 1 (nI 0) 0 a6 M' := fun Q' a6 M' hq => ⟨fun y => absurd y (by decide), fun _ => hq⟩
    rcases hbody with ⟨k0, p, q, z, pk, w7, w8, w9, w4, w6, w7', w1, wld⟩ | ⟨k1, -, z, hz, w7, w1, wnm⟩ | ⟨k2, w4, w1, wld⟩
    · rw [k0, w7, w8, w9] at hK
      rw [k0]
      obtain ⟨ps, z0, z24, qz, p5⟩ := pk
      refine ⟨fun y => absurd y (by decide), fun _ => ⟨fun y => absurd y (by decide), fun _ => ?_⟩⟩
      rcases ps with ⟨y, -⟩ | ⟨-, rfl | ⟨p3, p6⟩⟩
      · exact absurd y (by decide)
      · obtain ⟨rfl, z4⟩ := p5 (by decide)
        have z4' : z = 4 := z4
        subst z4'
        rw [w6]
        refine ⟨fun _ => cretry_act (o := nI 0) (l := nI 4) (e := nI e) (n := nI n) hL' hM hE' hS3 hx3 hc hb hr (by rw [nr _ (Or.inl rfl)]; exact w1) (fun j hj => by rw [nr _ (Or.inr rfl), wld j hj, Nat.zero_add]) (fun M' M2' r1 r2 => hK 1 M' M2' (Or.inr rfl) (fun Q' hq => mo0 _ _ _ _ Q' (by decide) ⟨fun _ => r1 _ (none0 Q' _ _ hq), fun y => absurd rfl y⟩) r2), fun y => absurd rfl y⟩
      · have n6 : noP p = p - 2 := by unfold noP; rw [if_neg (by omega), if_neg (by omega), if_neg (by omega)]
        rw [w6, n6]
        refine ⟨fun y => absurd y (fun y => by have := (nI_eq (b := 0) (by omega) (by decide)).mp y; omega), fun _ => ?_⟩
        have n9 : N 128 9 = nI x := by rw [hE'.u0 sd0]; exact u9
        rw [n9]
        refine ⟨fun y => ?_, fun y => hK 1 N N2 (Or.inr rfl) (fun Q' hq => mo0 _ _ _ _ Q' (by decide) ⟨fun _ => wm_skipC hM p3 p6 e12 y (none0 Q' _ _ hq), fun y => absurd rfl y⟩) (hE'.fin hS3 hx3 (by omega) hb)⟩
        exact piece_act (e := e) (n := n) hL' hM hE' hS3 hx3 hc hb hr p3 p6 qz z24 (by rw [nr _ (Or.inl rfl)]; exact w1) (by rw [nr _ (Or.inl rfl)]; exact g4) (by rw [nr _ (Or.inl rfl)]; exact g5) (by omega) hn (by rw [nr _ (Or.inl rfl), w6, n6]) (by rw [nr _ (Or.inl rfl)]; exact w7') (fun j hj => by rw [nr _ (Or.inr rfl)]; exact wld j hj) (u9.trans y) (fun M' M2' r1 r2 => hK 1 M' M2' (Or.inr rfl) (fun Q' hq => mo0 _ _ _ _ Q' (by decide) ⟨fun _ => r1 _ (none0 Q' _ _ hq), fun y => absurd rfl y⟩) r2)
    · rw [k1] at hK
      rw [k1]
      refine ⟨fun _ => ?_, fun y => absurd rfl y⟩
      exact (ack z hz w7 w1 wnm (fun M' M2' r1 r2 => hK 1 M' M2' (Or.inr rfl) (fun Q' hq => gm Q' _ _ _ _ (fun y => absurd (g0.symm.trans y) (by decide)) (fun _ => ⟨fun _ => ⟨fun _ => ⟨fun y => absurd y (by decide), fun _ => r1 Q' _ _ _ hq⟩, fun y => absurd rfl y⟩, fun y => absurd rfl y⟩)) r2)).1 rfl
    · rw [k2] at hK
      rw [k2, wld]
      refine ⟨fun y => absurd y (by decide), fun _ => ⟨fun _ => ⟨b3, by rw [b4]; exact vp_in_nI (n := 0) (by decide) (by decide), ?_⟩, fun y => absurd rfl y⟩⟩
      exact val_act sd0 hL' hM hE' hS3 hx3 (by omega) hb (fun M' M2' r1 r2 => hK 1 M' M2' (Or.inr rfl) (fun Q' hq => mo0 _ _ _ _ Q' (by decide) ⟨fun y => absurd y (by decide), fun _ => r1 Q' hq⟩) r2)
  · exact hK 0 _ _ (Or.inl rfl) (fun Q' hq => gm Q' _ _ _ _ (fun _ => ⟨fun y => absurd y (by decide), fun _ => wm_163t hM hm hi e2 hsp hq⟩) (fun y => absurd y g1)) (hD.fin hS hcl (by omega) hb)
end DL
