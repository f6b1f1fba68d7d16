/-! deliver: at the server; both -/
section DS
variable {sd : Int32} {mt k c c' m i n e x t p : Nat} {U V U' V' U1 : mM} {hs : Nat → Int32} {dl : Int32} {T T2 : mT} {R R2 : mR} {M M2 : mM}
theorem deliver_s (hL : LC sd T R) (hM : LM T2 R2) (h : NS sd mt k c 1 152 49 U V U' V' hs dl R M M2) (hS : SideRel sd mt c 1 9 k U V) (hsv : srvR sd U) (hc : c + 9 ≤ c') (hb : c' ≤ 8208) (hm : m ≤ 60) (hi : i < m) (e1 : M 2 3 = nI m) (e2 : M2 1 8 = nI m) (hsp : ∀ j, j < m → M2 6 j = 0 ∨ M2 6 j = 1) (hrow : rowsOK R) (g3 : M (R 3 i) 3 = M2 3 i) (g4 : M (R 3 i) 4 = nI e) (g5 : M (R 3 i) 5 = nI n) (g8 : M (R 3 i) 8 = M2 6 i) (hn : n ≤ c) (he : e = 0 ∨ e = 2 ∨ e = 3) (hbody : bodyR sd c (nI 0) (M2 3 i) (nI e) (M2 7 i) (M2 8 i) (M2 9 i) (fun j => M2 10 (8 * i + j)) (fun j => M2 11 (8 * i + j)) (M (R 3 i) 6) (M (R 3 i) 7) (M (R 3 i) 1) (M (R 3 i + 1))) (ux : U 0 9 = nI x) {kp : Int32} (hkp : (kp = 1 ∧ (e ≠ 0 ∨ x ≠ 0)) ∨ (kp = 0 ∧ e = 0 ∧ x = 0)) {K : Int32 → mM → Prop} (hx5' : x ≤ 5)
    (hK : ∀ (g : Int32) (M' M2' : mM), (g = 0 ∨ g = 1) → (∀ Q' : Int32 → mM → Prop, Q' g M2' → w_Mo_deliver_B88 34 T2 R2 Q' 1 (nI i) (nI 1) (nI e) (nI n) (M2 3 i) (M2 7 i) (M2 8 i) (M2 9 i) kp M2) → FinR sd mt k c' 1 152 9 49 U' V' hs dl (tkR R i m) M' M2' → K g M') : w_Server_accept 200 T (tkR R i m) (sM M 2 3 (nI (m - 1))) 152 (R 3 i) K := by
  have hi60 : i < 60 := by omega
  have hL' : LC sd T (tkR R i m) := hL.rows (fun k j a b => tkR_o a b)
  have hLS := hL'.sid sd1
  have hrk := tkR_ok hrow hi hm
  have ⟨hr, hr6⟩ := hrow.1 i hi60
  have hrr : ∀ j, j < 60 → tkR R i m 3 j ≠ R 3 i := fun j hj y => by
    have := hrk.2.2.2 j hj
    rw [tkR_tk] at this
    exact this y
  obtain ⟨b1, b2, b3, b4⟩ := hL'.rec hr
  have hr2 := hr.2.2
  have hr3 := hr.2.1
  have ⟨a1, ⟨x', t, t1, t2, t3, t4, t5, t6, t7⟩, a3, a4, a5, a6, a7, a8⟩ := hS
  have hxt : x' ≤ 5 ∧ t ≤ 8 := by unfold stOK at t1; rw [if_neg (by decide)] at t1; omega
  have hxx : x' = x := (nI_eq (by omega) (by omega)).mp (t2.symm.trans ux)
  subst hxx
  have hst : (x' = 0 ∧ t = 0) ∨ (x' = 1 ∧ t = 7) ∨ (x' = 2 ∧ t = 8) ∨ x' = 5 := by
    unfold stOK at t1; rw [if_neg (by decide)] at t1; omega
  have ⟨z1, z39, z41, z43, z47, z45, z13, z61, z35⟩ := hsv
  have f0 : ∀ a, a ≠ 2 → sM M 2 3 (nI (m - 1)) a = M a := fun a y => sM_k a y
  have hD := h.drop sd1 hm hi e1
  obtain ⟨g, hg, gc, gm, gn⟩ := throws_both (kp := kp) sd1 hLS hM (N := sM M 2 3 (nI (m - 1))) (fun {a j} ha => by rw [f0 _ (by omega)]; exact h.u ha) h b1 hxt.2 hxt.1 t2 t3 t4 t7 a7 he hn (by rw [f0 _ (by omega)]; exact g8) (by rw [f0 _ (by omega)]; exact g4) (by rw [f0 _ (by omega)]; exact g5) hi60 rfl (hsp i hi) (by
    rcases hkp with ⟨y, -⟩ | ⟨y, y2, y3⟩
    · exact Or.inl y
    · refine Or.inr ⟨y, ?_⟩
      subst y2; subst y3
      have := (a7 0 (by decide)).1
      exact this.symm.trans (z35 t2))
  refine ⟨hL.o_152, gc _ ⟨fun g0 => ?_, fun g1 => ?_⟩⟩
  · obtain ⟨x5, hrd, hnew⟩ := gn g0
    have he4 : e < 4 := by omega
    obtain ⟨sn', G', l1, l2, l3⟩ := let_ex (cb := 152) hM (Nat.le_refl 1) a7 he4 hn h.1.2.2.2 (hLS.2.2.2.1.2.2 e he4).2 hnew
    have hV := (hD.setV sd1 (a := 15) (j := e) (x := G') (by show e < 4; exact he4)).setV sd1 (a := 16) (j := 16 * e + n % 16) (x := nI n) (by show 16 * e + n % 16 < 64; omega)
    have hE := (hV.setU sd1 (i := 8 + 3 * 9 + e) (j := 1) (x := sn') (by omega)).setU sd1 (i := 8 + 3 * 9 + e) (j := 0) (x := G') (by omega)
    have hS3 := SideRel.letd hS l3
    have hx3 : x' ≠ 0 → extR sd 1 _ _ hs := fun y => extR.letd (U := U) (V := V) (hs := hs) (sd := sd) (a := sn') (b := G') (x := nI n) (j := 16 * e + n % 16) sd1 he4 hsv (fun _ y' => y ((nI_eq (b := 0) (by omega) (by decide)).mp (ux.symm.trans y')))
    have e15 : drM M2 i m 15 (4 * 1 + e) = V 15 e := hD.v (a := 15) (j := e) (by show e < 4; exact he4)
    have n9 : sM M 2 3 (nI (m - 1)) 152 9 = nI x' := by rw [f0 _ (by decide), h.u0 sd1]; exact ux
    have ack := fun z hz w7 w1 wnm hx0 => ack_act (z := z) (K := fun M5 => K 1 M5) sd1 hL hM h hS (show extR sd 1 U V hs from hsv) hx0 (by omega : c ≤ c') hb hm hi e1 e2 hsp hrow hz w7 w1 wnm he4 l2 l3 rfl
    have hE' : NS sd mt k c 1 152 49 (sM (sM U (8 + 3 * 9 + e) 1 sn') (8 + 3 * 9 + e) 0 G') (sM (sM V 15 e G') 16 (16 * e + n % 16) (nI n)) U' V' hs dl (tkR R i m) (sM (sM (sM M 2 3 (nI (m - 1))) (152 + (8 + 3 * 9 + e)) 1 sn') (152 + (8 + 3 * 9 + e)) 0 G') (sM (sM (drM M2 i m) 15 (4 * 1 + e) G') 16 (64 * 1 + (16 * e + n % 16)) (nI n)) := hE
    have hV' : NS sd mt k c 1 152 49 U (sM (sM V 15 e G') 16 (16 * e + n % 16) (nI n)) U' V' hs dl (tkR R i m) (sM M 2 3 (nI (m - 1))) (sM (sM (drM M2 i m) 15 (4 * 1 + e) G') 16 (64 * 1 + (16 * e + n % 16)) (nI n)) := hV
    clear hE hV
    have letC : ∀ (Q : mM → Prop), Q (sM (sM (sM M 2 3 (nI (m - 1))) (152 + (8 + 3 * 9 + e)) 1 sn') (152 + (8 + 3 * 9 + e)) 0 G') → w_Side_letIn 200 T (tkR R i m) (sM M 2 3 (nI (m - 1))) 152 (R 3 i) Q := fun Q hq => wc_letIn hLS b1 he4 (by rw [f0 _ (by omega)]; exact g4) (by rw [f0 _ (by omega)]; exact g5) (l1 _ _ _ (by rw [f0 _ (by omega)]; exact h.u (by omega)) (by rw [f0 _ (by omega)]; exact h.u (by omega)) hq)
    have nr : ∀ a, a = R 3 i ∨ a = R 3 i + 1 → sM (sM (sM M 2 3 (nI (m - 1))) (152 + (8 + 3 * 9 + e)) 1 sn') (152 + (8 + 3 * 9 + e)) 0 G' a = M a := fun a y => by rw [sM_k _ (by omega), sM_k _ (by omega), sM_k _ (by omega)]
    have u0' : sM (sM U (8 + 3 * 9 + e) 1 sn') (8 + 3 * 9 + e) 0 G' 0 = U 0 := by rw [sM_k 0 (by omega), sM_k 0 (by omega)]
    have none0 : ∀ (Q' : Int32 → mM → Prop) (a6 : Int32) (M' : mM), Q' 1 M' → w_Mo_deliver_B230 34 T2 R2 Q' 1 (nI 1) 0 a6 M' := fun Q' a6 M' hq => ⟨fun y => absurd y (by decide), fun _ => hq⟩
    -- is it a piece of message y?
    have isP : ∀ (N : mM) (y : Int32) (Q : Int32 → Prop), N (R 3 i) = M (R 3 i) → (M2 3 i = 0 → M (R 3 i) 6 = y → Q 1) → ((M2 3 i = 0 → ¬ M (R 3 i) 6 = y) → Q 0) → w_Rec_isPieceOf 200 T (tkR R i m) N (R 3 i) y Q := fun N y Q q0 q1 q2 => by
      refine ⟨b1, ?_⟩
      rw [q0, g3]
      exact ⟨fun y1 => ⟨fun y2 => q1 y1 y2, fun y2 => q2 (fun _ => y2)⟩, fun y1 => q2 (fun q => absurd q y1)⟩
    have nM : sM M 2 3 (nI (m - 1)) (R 3 i) = M (R 3 i) := f0 _ (by omega)
    rcases hkp with ⟨k1p, hx0⟩ | ⟨k0p, he0, hx0⟩
    · -- the server has taken a HELLO AGAIN
      have hx12 : (x' = 1 ∧ t = 7) ∨ (x' = 2 ∧ t = 8) := by
        rcases hst with ⟨y1, y2⟩ | y | y | y
        · subst y1; subst y2
          have : rdP 1 0 = 0 := by decide
          omega
        · exact Or.inl y
        · exact Or.inr y
        · exact absurd y x5
      have hxn : x' ≠ 0 := by omega
      have hx4 := hx3 hxn
      clear hx3
      have hxI : ¬ nI x' = 0 := fun y => hxn ((nI_eq (b := 0) (by omega) (by decide)).mp y)
      rw [k1p] at hK gm
      have mo0 : ∀ (a5 a6 a7 a8 : Int32) (Q' : Int32 → mM → Prop), ¬ a5 = 1 → ((a5 = 0 → w_Mo_takeFragment 34 T2 R2 (sM (sM (drM M2 i m) 15 (4 * 1 + e) G') 16 (64 * 1 + (16 * e + n % 16)) (nI n)) 1 (nI 1) a6 a7 a8 (nI e) (nI n) (fun M40 => w_Mo_deliver_B230 34 T2 R2 Q' 1 (nI 1) a5 a6 M40)) ∧ (¬ a5 = 0 → w_Mo_deliver_B230 34 T2 R2 Q' 1 (nI 1) a5 a6 (sM (sM (drM M2 i m) 15 (4 * 1 + e) G') 16 (64 * 1 + (16 * e + n % 16)) (nI n)))) → w_Mo_deliver_B88 34 T2 R2 Q' 1 (nI i) (nI 1) (nI e) (nI n) a5 a6 a7 a8 1 M2 := fun a5 a6 a7 a8 Q' y hq => gm Q' _ _ _ _ (fun y => absurd (g0.symm.trans y) (by decide)) (fun _ => ⟨fun _ => ⟨fun y' => absurd y' y, fun _ => wm_163k hM hm hi e2 hsp (l2 _ _ e15 hq)⟩, fun y => absurd rfl y⟩)
      have n9' : ∀ j, sM (sM (sM M 2 3 (nI (m - 1))) (152 + (8 + 3 * 9 + e)) 1 sn') (152 + (8 + 3 * 9 + e)) 0 G' 152 j = U 0 j := fun j => by rw [hE'.u0 sd1, u0']
      generalize hNl : sM (sM (sM M 2 3 (nI (m - 1))) (152 + (8 + 3 * 9 + e)) 1 sn') (152 + (8 + 3 * 9 + e)) 0 G' = N at hE' nr ack letC n9'
      generalize hN2 : sM (sM (drM M2 i m) 15 (4 * 1 + e) G') 16 (64 * 1 + (16 * e + n % 16)) (nI n) = N2 at hE' mo0 hV'
      generalize hU3 : sM (sM U (8 + 3 * 9 + e) 1 sn') (8 + 3 * 9 + e) 0 G' = U3 at hE' hS3 hx4 u0'
      generalize hV3 : sM (sM V 15 e G') 16 (16 * e + n % 16) (nI n) = V3 at hE' hS3 hx4 hV'
      rcases hbody with ⟨k0, p, q, z, pk, w7, w8, w9, w4, w6, w7', w1, wld⟩ | ⟨k1, -, z, hz, w7, w1, wnm⟩ | ⟨k2, w4, w1, wld⟩
      · rw [k0, w7, w8, w9] at hK
        obtain ⟨ps, z0, z24, qz, p5⟩ := pk
        rcases ps with ⟨-, rfl | rfl | rfl⟩ | ⟨y, -⟩
        · -- a HELLO: a RETRY, and it is let in
          obtain ⟨rfl, z8⟩ := p5 (by decide)
          have z8' : z = 8 := z8
          subst z8'
          refine ⟨b1, isP _ _ _ nM (fun _ _ => ⟨fun y => absurd y (by decide), fun _ => ?_⟩) (fun q => absurd w6 (q k0))⟩
          refine retry_both hL' hM hV' hr hr6 hrr a1.1 z1 (fun j hj => ?_) hn (by rw [nM]; exact g5) (fun M' M2' r1 r2 r3 r4 => ?_)
          · rw [f0 _ (by omega), wld j (by omega), Nat.zero_add]
            show (if j < 4 then _ else _) = _
            rw [if_pos hj]
          · unfold w_Server_accept_B23
            have m9 : M' 152 9 = nI x' := by rw [r2.u0 sd1, ldO_out (by decide)]; exact ux
            rw [m9]
            refine ⟨fun y => absurd y hxI, fun _ => ?_⟩
            unfold w_Server_accept_B40
            have u35 : ∀ j, M' (152 + (8 + 3 * 9 + e)) j = U (8 + 3 * 9 + e) j := fun j => by rw [r2.u (by omega), ldO_out (by omega)]
            refine wc_letIn hLS b1 he4 (by rw [r3, nM]; exact g4) (by rw [r3, nM]; exact g5) (l1 _ _ _ (u35 0) (u35 1) ?_)
            have hF := (r2.setU sd1 (i := 8 + 3 * 9 + e) (j := 1) (x := sn') (by omega)).setU sd1 (i := 8 + 3 * 9 + e) (j := 0) (x := G') (by omega)
            have m3 : sM (sM M' (152 + (8 + 3 * 9 + e)) 1 sn') (152 + (8 + 3 * 9 + e)) 0 G' (R 3 i) = M (R 3 i) := by rw [sM_k _ (by omega), sM_k _ (by omega), r3, nM]
            rw [m3, g3, k0, w6]
            refine ⟨fun y => absurd y (by decide), fun _ => ⟨fun y => absurd y (by decide), fun _ => ⟨fun y => absurd y (by decide), fun _ => ⟨fun y => absurd y (by decide), fun _ => ?_⟩⟩⟩⟩
            have u40 : ∀ i, i ≠ 40 → sM (sM (ldO U 39 0 4 (fun i => byI (ckS sd) (nI i))) (8 + 3 * 9 + e) 1 sn') (8 + 3 * 9 + e) 0 G' i = U3 i := fun i hi => by
              rw [← hU3]
              funext j
              rw [sMt, sMt, sMt, sMt, ldO_out hi]
            refine hK 1 _ M2' (Or.inr rfl) (fun Q' hq => mo0 _ _ _ _ Q' (by decide) ⟨fun _ => wm_fragS hM (fun _ => r1 _ (none0 Q' _ _ hq)) (fun y => absurd rfl y), fun y => absurd rfl y⟩) (hF.fin (hS3.c40 u40) ?_ (by omega) hb)
            exact srvR.c40 (show srvR sd U3 from hx4) u40
        · -- a HELLO AGAIN: only let in
          refine ⟨b1, isP _ _ _ nM (fun _ y => absurd (w6.symm.trans y) (by decide)) (fun _ => ⟨fun _ => ?_, fun y => absurd rfl y⟩)⟩
          unfold w_Server_accept_B23
          rw [n9]
          refine ⟨fun y => absurd y hxI, fun _ => letC _ ?_⟩
          rw [nr _ (Or.inl rfl), g3, k0, w6]
          refine ⟨fun y => absurd y (by decide), fun _ => ⟨fun y => absurd y (by decide), fun _ => ⟨fun _ => ⟨hL.o_152, ?_⟩, fun y => absurd rfl y⟩⟩⟩
          rw [n9' 9, ux]
          refine ⟨fun y => absurd y hxI, fun _ => hK 1 N N2 (Or.inr rfl) (fun Q' hq => mo0 _ _ _ _ Q' (by decide) ⟨fun _ => wm_fragS hM (fun y => absurd y (by decide)) (fun _ => ⟨fun _ => ⟨fun y => absurd y (by decide), fun _ => none0 Q' _ _ hq⟩, fun y => absurd rfl y⟩), fun y => absurd rfl y⟩) (hE'.fin hS3 hx4 (by omega) hb)⟩
        · -- the client's DONE
          obtain ⟨rfl, z4⟩ := p5 (by decide)
          have z4' : z = 4 := z4
          subst z4'
          have he2 : e = 2 := (nI_eq (b := 2) (by omega) (by decide)).mp w4
          subst he2
          refine ⟨b1, isP _ _ _ nM (fun _ y => absurd (w6.symm.trans y) (by decide)) (fun _ => ⟨fun _ => ?_, fun y => absurd rfl y⟩)⟩
          unfold w_Server_accept_B23
          rw [n9]
          refine ⟨fun y => absurd y hxI, fun _ => letC _ ?_⟩
          rw [nr _ (Or.inl rfl), g3, k0, w6]
          refine ⟨fun y => absurd y (by decide), fun _ => ⟨fun y => absurd y (by decide), fun _ => ⟨fun y => absurd y (by decide), fun _ => ⟨fun _ => ?_, fun y => absurd rfl y⟩⟩⟩⟩
          exact done_act (n := n) (x := x') hL' hM hE' hS3 hx4 (by omega) hb hr (by rw [nr _ (Or.inl rfl)]; exact g4) (by rw [nr _ (Or.inl rfl)]; exact g5) hn (by rw [nr _ (Or.inl rfl)]; exact w1) (fun j hj => by rw [nr _ (Or.inr rfl), wld j hj, Nat.zero_add]) (by rw [u0']; exact ux) (by omega) (fun M' M2' r1 r2 => hK 1 M' M2' (Or.inr rfl) (fun Q' hq => mo0 _ _ _ _ Q' (by decide) ⟨fun _ => wm_fragS hM (fun y => absurd y (by decide)) (fun _ => r1 _ (none0 Q' _ _ hq)), fun y => absurd rfl y⟩) r2)
        · exact absurd y (by decide)
      · -- an ACK
        rw [k1] at hK
        refine ⟨b1, isP _ _ _ nM (fun y => absurd (k1.symm.trans y) (by decide)) (fun _ => ⟨fun _ => ?_, fun y => absurd rfl y⟩)⟩
        unfold w_Server_accept_B23
        rw [n9]
        refine ⟨fun y => absurd y hxI, fun _ => letC _ ?_⟩
        rw [nr _ (Or.inl rfl), g3, k1]
        refine ⟨fun _ => ?_, fun y => absurd rfl y⟩
        exact (ack z hz w7 w1 wnm (fun _ y => hxI (ux.symm.trans y)) (fun M' M2' r1 r2 => hK 1 M' M2' (Or.inr rfl) (fun Q' hq => gm Q' _ _ _ _ (fun y => absurd (g0.symm.trans y) (by decide)) (fun _ => ⟨fun _ => ⟨fun _ => ⟨fun y => absurd y (by decide), fun _ => r1 Q' _ _ _ hq⟩, fun y => absurd rfl y⟩, fun y => absurd rfl y⟩)) r2)).2 rfl
      · -- data
        rw [k2] at hK
        refine ⟨b1, isP _ _ _ nM (fun y => absurd (k2.symm.trans y) (by decide)) (fun _ => ⟨fun _ => ?_, fun y => absurd rfl y⟩)⟩
        unfold w_Server_accept_B23
        rw [n9]
        refine ⟨fun y => absurd y hxI, fun _ => letC _ ?_⟩
        rw [nr _ (Or.inl rfl), g3, k2, b2, nr _ (Or.inr rfl), wld]
        refine ⟨fun y => absurd y (by decide), fun _ => ⟨fun _ => ⟨b3, by rw [b4]; exact vp_in_nI (n := 0) (by decide) (by decide), ?_⟩, fun y => absurd rfl y⟩⟩
        exact val_act sd1 hL' hM hE' hS3 hx4 (by omega) hb (fun M' M2' r1 r2 => hK 1 M' M2' (Or.inr rfl) (fun Q' hq => mo0 _ _ _ _ Q' (by decide) ⟨fun y => absurd y (by decide), fun _ => r1 Q' hq⟩) r2)
    · -- it has not
      subst he0; subst hx0
      rw [k0p] at hK gm
      have m0 : ∀ (a5 a6 a7 a8 : Int32) (Q' : Int32 → mM → Prop), (a5 = 0 → w_Mo_welcome 34 T2 R2 (drM M2 i m) 1 a6 (nI n) (fun r36 M37 => ((r36 = 0 → Q' (0 : Int32) M37) ∧ (¬ r36 = 0 → Q' (1 : Int32) M37)))) → (¬ a5 = 0 → Q' 0 (drM M2 i m)) → w_Mo_deliver_B88 34 T2 R2 Q' 1 (nI i) (nI 1) (nI 0) (nI n) a5 a6 a7 a8 0 M2 := fun a5 a6 a7 a8 Q' q1 q2 => gm Q' _ _ _ _ (fun y => absurd (g0.symm.trans y) (by decide)) (fun _ => ⟨fun _ => ⟨fun _ => ⟨fun _ => wm_163z hM hm hi e2 hsp q1 q2, fun y => absurd rfl y⟩, fun _ => wm_163z hM hm hi e2 hsp q1 q2⟩, fun y => absurd rfl y⟩)
      rcases hbody with ⟨k0, p, q, z, pk, w7, w8, w9, w4, w6, w7', w1, wld⟩ | ⟨k1, -, z, hz, w7, w1, wnm⟩ | ⟨k2, w4, w1, wld⟩
      · rw [k0, w7, w8, w9] at hK
        obtain ⟨ps, z0, z24, qz, p5⟩ := pk
        rcases ps with ⟨-, rfl | rfl | rfl⟩ | ⟨y, -⟩
        · obtain ⟨rfl, z8⟩ := p5 (by decide)
          have z8' : z = 8 := z8
          subst z8'
          refine ⟨b1, isP _ _ _ nM (fun _ _ => ⟨fun y => absurd y (by decide), fun _ => ?_⟩) (fun q => absurd w6 (q k0))⟩
          refine retry_both hL' hM hD hr hr6 hrr a1.1 z1 (fun j hj => ?_) hn (by rw [nM]; exact g5) (fun M' M2' r1 r2 r3 r4 => ?_)
          · rw [f0 _ (by omega), wld j (by omega), Nat.zero_add]
            show (if j < 4 then _ else _) = _
            rw [if_pos hj]
          · unfold w_Server_accept_B23
            have m9 : M' 152 9 = 0 := by rw [r2.u0 sd1, ldO_out (by decide)]; exact ux
            rw [m9]
            have u40 : ∀ i, i ≠ 40 → ldO U 39 0 4 (fun i => byI (ckS sd) (nI i)) i = U i := fun i hi => ldO_out hi
            refine ⟨fun _ => isP _ _ _ (by rw [r3, nM]) (fun _ y => absurd (w6.symm.trans y) (by decide)) (fun _ => ⟨fun _ => ?_, fun y => absurd rfl y⟩), fun y => absurd rfl y⟩
            refine hK 0 M' M2' (Or.inl rfl) (fun Q' hq => m0 _ _ _ _ Q' (fun _ => ⟨hM.ok1, fun _ => r1 _ ⟨fun y => absurd y (by decide), fun _ => ⟨fun _ => hq, fun y => absurd rfl y⟩⟩, fun y => absurd rfl y⟩) (fun y => absurd rfl y)) (r2.fin (hS.c40 u40) ?_ (by omega) hb)
            exact srvR.c40 hsv u40
        · obtain ⟨rfl, z8⟩ := p5 (by decide)
          have z8' : z = 8 := z8
          subst z8'
          refine ⟨b1, isP _ _ _ nM (fun _ y => absurd (w6.symm.trans y) (by decide)) (fun _ => ⟨fun _ => ?_, fun y => absurd rfl y⟩)⟩
          unfold w_Server_accept_B23
          rw [n9]
          refine ⟨fun _ => isP _ _ _ nM (fun _ _ => ⟨fun y => absurd y (by decide), fun _ => letC _ ?_⟩) (fun q => absurd w6 (q k0)), fun y => absurd rfl y⟩
          rw [nr _ (Or.inl rfl), g3, k0, w6]
          refine ⟨fun y => absurd y (by decide), fun _ => ⟨fun y => absurd y (by decide), fun _ => ⟨fun _ => ?_, fun y => absurd rfl y⟩⟩⟩
          have us : ∀ i, i < 8 ∨ 39 ≤ i → sM (sM U (8 + 3 * 9 + 0) 1 sn') (8 + 3 * 9 + 0) 0 G' i = U i := fun i hi => by rw [sM_k i (by omega), sM_k i (by omega)]
          refine again_act (n := n) hL' hM hE' hS3 (by rw [us 0 (by decide)]; exact z1) (by rw [us 39 (by decide), us 41 (by decide), us 43 (by decide), us 47 (by decide), us 45 (by decide)]; exact ⟨z39, z41, z43, z47, z45⟩) hc hb hr (by rw [nr _ (Or.inl rfl)]; exact g5) hn (fun j hj => by rw [nr _ (Or.inr rfl), wld j hj, Nat.zero_add]) (by rw [us 0 (by decide)]; exact ux) (fun M' M2' r1 r2 => hK 1 M' M2' (Or.inr rfl) (fun Q' hq => m0 _ _ _ _ Q' (fun _ => ⟨hM.ok1, fun y => absurd y (by decide), fun _ => ⟨fun _ => l2 _ _ e15 ?_, fun y => absurd rfl y⟩⟩) (fun y => absurd rfl y)) r2)
          simp only [hM.r_11, hM.r_12, hM.r_13, hM.r_14, hM.r_15, hM.r_16, hM.r_17, hM.r_18, hM.r_19, hM.r_20, hM.r_21, hM.r_22, hM.r_23, hM.r_24, hM.r_25, hM.r_26, hM.r_27, hM.r_28, hM.r_29, hM.r_30, hM.r_31, hM.r_32, hM.r_33, hM.r_34, hM.r_35, hM.r_36, hM.r_37, hM.r_38, hM.r_39, hM.r_40, hM.r_41, hM.r_42, hM.r_43, hM.l_2, hM.l_3, hM.l_4, hM.l_5, hM.l_6, hM.l_7, hM.l_8, hM.l_9, hM.l_10, hM.l_11, hM.l_12, hM.l_13, hM.l_14, hM.l_15, hM.l_16, hM.l_17, hM.l_18, hM.l_19, hM.l_20, hM.l_21, hM.l_22, hM.l_23, hM.l_24, hM.l_25, hM.l_26, hM.l_27, hM.l_28, hM.l_29, hM.l_30, hM.l_31, hM.l_32, hM.l_33, hM.l_34]
          exact r1 _ ⟨fun y => absurd y (by decide), fun _ => hq⟩
        · exact absurd w4 (by decide)
        · exact absurd y (by decide)
      · rw [k1] at hK
        refine ⟨b1, isP _ _ _ nM (fun y => absurd (k1.symm.trans y) (by decide)) (fun _ => ⟨fun _ => ?_, fun y => absurd rfl y⟩)⟩
        unfold w_Server_accept_B23
        rw [n9]
        refine ⟨fun _ => isP _ _ _ nM (fun y => absurd (k1.symm.trans y) (by decide)) (fun _ => ⟨fun _ => ?_, fun y => absurd rfl y⟩), fun y => absurd rfl y⟩
        exact hK 0 _ _ (Or.inl rfl) (fun Q' hq => m0 _ _ _ _ Q' (fun y => absurd y (by decide)) (fun _ => hq)) (hD.fin hS hsv (by omega) hb)
      · exact absurd w4 (by decide)
  · exact hK 0 _ _ (Or.inl rfl) (fun Q' hq => gm Q' _ _ _ _ (fun _ => ⟨fun y => absurd y (by decide), fun _ => wm_163t hM hm hi e2 hsp hq⟩) (fun y => absurd y g1)) (hD.fin hS hsv (by omega) hb)
end DS
theorem sim_deliver : ∀ (c : Nat) (T : mT) (R : mR) (M : mM) (T2 : mT) (R2 : mR) (M2 : mM) (u1 : Int32), c < 512 → Sim c T R M T2 R2 M2 → w_X_deliver 200 T R M 1 u1 (fun r R' M' => w_Mo_deliver 34 T2 R2 M2 1 u1 (fun r2 M2' => r = r2 ∧ Sim (c + 1) T R' M' T2 R2 M2')) := by
  intro c T R M T2 R2 M2 u1 hc h
  have hn := h.next hc
  obtain ⟨h0, sd, mt, k, hk, hL, hM, hP⟩ := h
  obtain ⟨m, hm, e1, e2, e3, hrow, hrec⟩ := cnt_eq hP
  refine ⟨hL.o_1, ?_⟩
  simp only [hL.r_1_0, hL.r_1_1, hL.r_1_2, hL.r_2_0, hL.r_2_2, hL.r_128_2, hL.r_128_3, hL.r_128_4, hL.r_128_5, hL.r_128_6, hL.r_128_7, hL.r_128_15, hL.r_128_16, hL.r_128_17, hL.r_128_18, hL.r_129_0, hL.r_131_0, hL.r_131_1, hL.r_131_2, hL.r_131_3, hL.r_134_0, hL.r_135_0, hL.r_136_0, hL.r_136_1, hL.r_143_2, hL.r_145_2, hL.r_147_2, hL.r_149_0, hL.r_149_1, hL.r_152_2, hL.r_152_3, hL.r_152_4, hL.r_152_5, hL.r_152_6, hL.r_152_7, hL.r_152_15, hL.r_152_16, hL.r_152_17, hL.r_152_18, hL.r_152_19, hL.r_153_0, hL.r_155_0, hL.r_155_1, hL.r_155_2, hL.r_155_3, hL.r_158_0, hL.r_191_2, hL.r_193_2, hL.r_195_2, hL.r_197_2, hL.r_199_2, hL.l_3, hL.l_130, hL.l_131, hL.l_132, hL.l_133, hL.l_135, hL.l_137, hL.l_138, hL.l_144, hL.l_146, hL.l_148, hL.l_150, hL.l_151, hL.l_154, hL.l_155, hL.l_156, hL.l_157, hL.l_159, hL.l_192, hL.l_194, hL.l_196, hL.l_198, hL.l_200]
  refine ⟨hL.o_2, has_w hm hL.o_2 e1 (fun hno => ⟨fun _ => ⟨hM.ok1, isrec_w hm hM e2 (fun _ => ⟨fun _ => ⟨rfl, hn⟩, fun q => absurd rfl q⟩) (fun i hi hu => absurd ⟨i, hi, hu⟩ hno)⟩, fun q => absurd rfl q⟩) (fun i hi hu => ⟨fun q => absurd q (by decide), fun _ => ?_⟩)⟩
  subst hu
  have hi60 : i < 60 := by omega
  have hL' : LC sd T (tkR R i m) := hL.rows (fun k j a b => tkR_o a b)
  obtain ⟨q0, q1, q2, q3, q4⟩ := row_ok hL hrow hi60
  have hq2 := q0.2.2
  have hq3 := q0.2.1
  obtain ⟨⟨d2, d3, d4, d5, d8⟩, dF, dS, ⟨n, hnc, dn⟩, dB⟩ := rec_at (U := M) (V := M) q0 (hrec i hi)
  have hspa := sp_all hP hm e2
  obtain ⟨e, he, de⟩ : ∃ e : Nat, (e = 0 ∨ e = 2 ∨ e = 3) ∧ M2 4 i = nI e := by
    rcases dB with ⟨-, p, -, -, -, -, -, -, w4, -⟩ | ⟨-, w4, -⟩ | ⟨-, w4, -⟩
    · exact ⟨epP p, by unfold epP; split <;> omega, w4⟩
    · rcases w4 with y | y | y
      · exact ⟨0, Or.inl rfl, y⟩
      · exact ⟨2, Or.inr (Or.inl rfl), y⟩
      · exact ⟨3, Or.inr (Or.inr rfl), y⟩
    · exact ⟨3, Or.inr (Or.inr rfl), w4⟩
  have hin : vp_in (nI i) 60 := vp_in_nI hi60 (by decide)
  have fr : sM M 2 3 (nI (m - 1)) (R 3 i) 2 = M2 2 i := by rw [sM_k _ (by omega)]; exact d2
  refine wc_takeOut hL hrow hm hi e1 ⟨q1, ?_⟩
  rw [fr, hL'.r_1_2, hL'.r_1_1]
  have md : ∀ {Q' : Int32 → mM → Prop}, ((1 - M2 2 i = 0 → w_Mo_deliver_B88 34 T2 R2 Q' 1 (nI i) (1 - M2 2 i) (nI e) (nI n) (M2 3 i) (M2 7 i) (M2 8 i) (M2 9 i) 1 M2) ∧ (¬ 1 - M2 2 i = 0 → ((0 < nI e → w_Mo_deliver_B88 34 T2 R2 Q' 1 (nI i) (1 - M2 2 i) (nI e) (nI n) (M2 3 i) (M2 7 i) (M2 8 i) (M2 9 i) 1 M2) ∧ (¬ 0 < nI e → ((M2 12 1 ≤ 0 → w_Mo_deliver_B88 34 T2 R2 Q' 1 (nI i) (1 - M2 2 i) (nI e) (nI n) (M2 3 i) (M2 7 i) (M2 8 i) (M2 9 i) 0 M2) ∧ (¬ M2 12 1 ≤ 0 → w_Mo_deliver_B88 34 T2 R2 Q' 1 (nI i) (1 - M2 2 i) (nI e) (nI n) (M2 3 i) (M2 7 i) (M2 8 i) (M2 9 i) 1 M2)))))) → w_Mo_deliver 34 T2 R2 M2 1 (nI i) Q' := by
    intro Q' hq
    refine ⟨hM.ok1, isrec_w hm hM e2 (fun hno => absurd ⟨i, hi, rfl⟩ hno) (fun i' _ _ => ⟨fun q => absurd q (by decide), fun _ => ?_⟩)⟩
    simp only [hM.r_11, hM.r_12, hM.r_13, hM.r_14, hM.r_15, hM.r_16, hM.r_17, hM.r_18, hM.r_19, hM.r_20, hM.r_21, hM.r_22, hM.r_23, hM.r_24, hM.r_25, hM.r_26, hM.r_27, hM.r_28, hM.r_29, hM.r_30, hM.r_31, hM.r_32, hM.r_33, hM.r_34, hM.r_35, hM.r_36, hM.r_37, hM.r_38, hM.r_39, hM.r_40, hM.r_41, hM.r_42, hM.r_43, hM.l_2, hM.l_3, hM.l_4, hM.l_5, hM.l_6, hM.l_7, hM.l_8, hM.l_9, hM.l_10, hM.l_11, hM.l_12, hM.l_13, hM.l_14, hM.l_15, hM.l_16, hM.l_17, hM.l_18, hM.l_19, hM.l_20, hM.l_21, hM.l_22, hM.l_23, hM.l_24, hM.l_25, hM.l_26, hM.l_27, hM.l_28, hM.l_29, hM.l_30, hM.l_31, hM.l_32, hM.l_33, hM.l_34]
    rw [nI_clamp (by omega), de, dn]
    refine ⟨hM.o_2, hin, fun v5 y5 => ⟨hM.o_4, hin, fun v8 y8 => ⟨hM.o_5, hin, fun v11 y11 => ⟨hM.o_3, hin, fun v14 y14 => ⟨hM.o_7, hin, fun v17 y17 => ⟨hM.o_8, hin, fun v20 y20 => ⟨hM.o_9, hin, fun v23 y23 => ?_⟩⟩⟩⟩⟩⟩⟩
    subst y5; subst y8; subst y11; subst y14; subst y17; subst y20; subst y23
    exact ⟨hq.1, fun y => ⟨(hq.2 y).1, fun y' => ⟨hM.o_12, vp_in_nI (n := 1) (by decide) (by decide), (hq.2 y).2 y'⟩⟩⟩
  have fin : ∀ {s cb nf w : Nat} {M' M2' : mM}, isSd s cb nf w → FinR sd mt k (16 * c + 16) s cb nf w (uw M (280 - cb) (73 - w)) (vw M2 (1 - s)) (M2 32) (M 2 5 - M2 1 10) (tkR R i m) M' M2' → Sim (c + 1) T (tkR R i m) M' T2 R2 M2' := fun hsd hF => ⟨by omega, sd, mt, k, by omega, hL', hM, by
    have := hF.sim hsd ((hP.oth hsd).mono (by omega))
    rw [show 16 * (c + 1) = 16 * c + 16 by omega]; exact this⟩
  have hb : 16 * c + 16 ≤ 8208 := by omega
  rw [de] at dB d4
  rw [dn] at d5
  rcases dF with dF | dF
  · rw [dF] at dB md ⊢
    refine ⟨fun _ => ⟨hL.o_152, fun y => absurd y.2.2 (by rw [hL.1 152 (by decide) (by decide)]; show ¬ (9 : Nat) = 8; decide), fun _ => ?_⟩, fun y => absurd rfl y⟩
    obtain ⟨x, t, hst, hx5, ht8, o0, o1, o9, o12, -⟩ := hP.own sd1
    have hx9 : uw M 152 49 0 9 = nI x := by rw [uw_at (by decide)]; exact o9
    refine deliver_s (kp := @ite _ (e = 0 ∧ x = 0) (Classical.propDecidable _) 0 1) (c' := 16 * c + 16) hL hM (hP.ns (s := 1) (cb := 152) (w := 49)) (hP.side sd1) (hP.ext sd1) (by omega) hb hm hi e1 e2 hspa hrow d3 d4 d5 d8 hnc he dB hx9 ?_ hx5 (fun g M' M2' hg run hF => ?_)
    · by_cases y : e = 0 ∧ x = 0
      · rw [if_pos y]; exact Or.inr ⟨rfl, y.1, y.2⟩
      · rw [if_neg y]; exact Or.inl ⟨rfl, by omega⟩
    · have go : ∀ {Q' : Int32 → mM → Prop}, Q' g M2' → w_Mo_deliver 34 T2 R2 M2 1 (nI i) Q' := fun {Q'} hq => md (by
        have hr := run Q' hq
        refine ⟨fun y => absurd y (by decide), fun _ => ⟨fun y => ?_, fun y => ?_⟩⟩
        · rw [if_neg (fun q => by rw [q.1] at y; exact absurd y (by decide))] at hr; exact hr
        · have e0 : e = 0 := by
            rcases he with q | q | q
            · exact q
            · rw [q] at y; exact absurd (by decide) y
            · rw [q] at y; exact absurd (by decide) y
          rw [o12]
          refine ⟨fun y2 => ?_, fun y2 => ?_⟩
          · rw [if_pos ⟨e0, by have := (nI_leI (b := 0) (by omega) (by decide)).mp y2; omega⟩] at hr; exact hr
          · rw [if_neg (fun q => by rw [q.2] at y2; exact absurd (by decide) y2)] at hr; exact hr)
      rcases hg with rfl | rfl
      · exact ⟨fun _ => go ⟨rfl, fin sd1 hF⟩, fun y => absurd rfl y⟩
      · exact ⟨fun y => absurd y (by decide), fun _ => go ⟨rfl, fin sd1 hF⟩⟩
  · rw [dF] at dB md ⊢
    refine ⟨fun y => absurd y (by decide), fun _ => ⟨hL.o_128, fun _ => ?_, fun y => absurd y.2.2 (by rw [hL.1 128 (by decide) (by decide)]; show ¬ (8 : Nat) = 9; decide)⟩⟩
    refine deliver_c (c' := 16 * c + 16) hL hM (hP.ns (s := 0) (cb := 128) (w := 24)) (hP.side sd0) (hP.ext sd0) (by omega) hb hm hi e1 e2 hspa hrow d3 d4 d5 d8 hnc he dB (fun g M' M2' hg run hF => ?_)
    have go : ∀ {Q' : Int32 → mM → Prop}, Q' g M2' → w_Mo_deliver 34 T2 R2 M2 1 (nI i) Q' := fun {Q'} hq => md ⟨fun _ => run Q' hq, fun y => absurd (by decide) y⟩
    rcases hg with rfl | rfl
    · exact ⟨fun _ => go ⟨rfl, fin sd0 hF⟩, fun y => absurd rfl y⟩
    · exact ⟨fun y => absurd y (by decide), fun _ => go ⟨rfl, fin sd0 hF⟩⟩
