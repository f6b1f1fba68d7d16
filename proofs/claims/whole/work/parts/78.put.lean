/-! a piece goes out, by both -/
theorem nI_sub {a b : Nat} (h : b ≤ a) : nI a - nI b = nI (a - b) := by
  have : nI a = nI (a - b) + nI b := by rw [nI_add, Nat.sub_add_cancel h]
  rw [this, Int32.add_sub_cancel]
section PT
variable {sd : Int32} {mt k c s cb nf w m : Nat} {U V U' V' : mM} {hs : Nat → Int32} {dl : Int32} {T T2 : mT} {R R2 : mR} {M M2 : mM}
theorem sI (h : s ≤ 1) : nI s = 0 ∨ nI s = 1 := by
  rcases (show s = 0 ∨ s = 1 by omega) with rfl | rfl
  · exact Or.inl rfl
  · exact Or.inr rfl
theorem NS.putFrag (hsd : isSd s cb nf w) (h : NS sd mt k c s cb w U V U' V' hs dl R M M2) (hm : m < 60) (e1 : M 2 3 = nI m) {p q z a : Nat} (hp : pieceOK sd (nI s) p q z) (ha : a ≤ c) {G f : Nat → Int32} (hf : ∀ j, j < z → f j = CT sd p (q + j)) : NS sd mt k c s cb w U V U' V' hs dl R (loadM (putRec (sM (sM M 2 5 (M 2 5 + 1)) 2 3 (nI (m + 1))) (R 3 m) (upd (upd (upd (adF (nI s) 0 (nI (epP p)) (nI a) G) 6 (nI (noP p))) 7 (nI q)) 1 (nI z))) (R 3 m) z f) (sM (sM (sM (puM M2 m (nI s) 0 (nI (epP p)) (nI a)) 7 m (nI p)) 8 m (nI q)) 9 m (nI z)) := by
  have hl := hsd.le
  generalize hN : sM (sM (sM (puM M2 m (nI s) 0 (nI (epP p)) (nI a)) 7 m (nI p)) 8 m (nI q)) 9 m (nI z) = N
  have pt : ∀ a' j, N a' j = if a' = 9 ∧ j = m then nI z else if a' = 8 ∧ j = m then nI q else if a' = 7 ∧ j = m then nI p else puM M2 m (nI s) 0 (nI (epP p)) (nI a) a' j := fun a' j => by rw [← hN]; rfl
  have p2 : N 2 m = nI s := by rw [pt, if_neg (by omega), if_neg (by omega), if_neg (by omega), puM_in (by decide) (by decide)]; rfl
  have p3 : N 3 m = 0 := by rw [pt, if_neg (by omega), if_neg (by omega), if_neg (by omega), puM_in (by decide) (by decide)]; rfl
  have p4 : N 4 m = nI (epP p) := by rw [pt, if_neg (by omega), if_neg (by omega), if_neg (by omega), puM_in (by decide) (by decide)]; rfl
  have p5 : N 5 m = nI a := by rw [pt, if_neg (by omega), if_neg (by omega), if_neg (by omega), puM_in (by decide) (by decide)]; rfl
  have p6 : N 6 m = 0 := by rw [pt, if_neg (by omega), if_neg (by omega), if_neg (by omega), puM_in (by decide) (by decide)]; rfl
  have p7 : N 7 m = nI p := by rw [pt, if_neg (by omega), if_neg (by omega), if_pos ⟨rfl, rfl⟩]
  have p8 : N 8 m = nI q := by rw [pt, if_neg (by omega), if_pos ⟨rfl, rfl⟩]
  have p9 : N 9 m = nI z := by rw [pt, if_pos ⟨rfl, rfl⟩]
  refine h.putIn hsd hm e1 ?_ ?_ (fun j h8 h10 => ?_) (fun a' ha' => ?_) (fun a' h2 h9 i hi => ?_) (fun a' ha' q' hq' => ?_) (by rw [p2]; rfl) (by rw [p3]; rfl) (by rw [p4]; rfl) (by rw [p5]; rfl) (by rw [p6]; rfl) (by rw [p2]; exact sI hl.1) (by rw [p6]; exact Or.inl rfl) ⟨a, ha, p5⟩ (fun ld hld => ?_)
  · rw [pt, if_neg (by omega), if_neg (by omega), if_neg (by omega), puM_8]
  · rw [pt, if_neg (by omega), if_neg (by omega), if_neg (by omega)]; rfl
  · rw [pt, if_neg (by omega), if_neg (by omega), if_neg (by omega), puM_o (by omega) (by omega)]
  · funext j; rw [pt, if_neg (by omega), if_neg (by omega), if_neg (by omega), puM_o (by omega) (by omega)]
  · rw [pt, if_neg (by omega), if_neg (by omega), if_neg (by omega), puM_o (by omega) (by omega)]
  · rw [pt, if_neg (by omega), if_neg (by omega), if_neg (by omega), puM_o (by omega) (by omega)]
  · rw [p2, p3, p4, p7, p8, p9]
    exact Or.inl ⟨rfl, p, q, z, hp, rfl, rfl, rfl, rfl, rfl, rfl, rfl, fun j hj => by rw [hld j hj]; exact hf j hj⟩
/-- the class: a row is addressed, marked and loaded -/
theorem wc_putFrag (hL : LC sd T R) (hr : rowsOK R) (hm : m ≤ 60) (e1 : M 2 3 = nI m) {z src L : Nat} (hs1 : 128 ≤ src) (ho : ok T 200 src 100) (hl : (T src).2 = L) (hz : z ≤ L) (hz2 : z ≤ 24) (hLs : L ≤ 100) {x1 x2 x3 x4 v6 v7 : Int32} {X6 X7 X5 : mM → Int32} (h6 : ∀ M', (∀ a, 128 ≤ a → M' a = M a) → X6 M' = v6) (h7 : ∀ M', (∀ a, 128 ≤ a → M' a = M a) → X7 M' = v7) (h5 : ∀ M', (∀ a, 128 ≤ a → M' a = M a) → X5 M' = nI z) {K : mM → Prop}
    (h1 : m < 60 → K (loadM (putRec (sM (sM M 2 5 (M 2 5 + 1)) 2 3 (nI (m + 1))) (R 3 m) (upd (upd (upd (adF x1 x2 x3 x4 (M (R 3 m))) 6 v6) 7 v7) 1 (nI z))) (R 3 m) z (M src))) (h2 : m = 60 → K (loadM (putRec (sM (sM M 2 5 (M 2 5 + 1)) 2 4 (M 2 4 + 1)) 6 (upd (upd (upd (adF x1 x2 x3 x4 (M 6)) 6 v6) 7 v7) 1 (nI z))) 6 z (M src))) :
    w_Net_append 200 T R M 2 x1 x2 x3 x4 (fun r M12 => ok T 200 r 3 ∧ w_Rec_markAsPiece 200 T R M12 r (X6 M12) (X7 M12) (fun M15 => ok T 200 src 100 ∧ w_Rec_hold 200 T R M15 r src (X5 M15) K)) := by
  have aux : ∀ {r : Nat} {N0 : mM} {F : Nat → Int32}, isRec r → (∀ a, 128 ≤ a → N0 a = M a) → K (loadM (putRec N0 r (upd (upd (upd F 6 v6) 7 v7) 1 (nI z))) r z (M src)) → ok T 200 r 3 ∧ w_Rec_markAsPiece 200 T R (putRec N0 r F) r (X6 (putRec N0 r F)) (X7 (putRec N0 r F)) (fun M15 => ok T 200 src 100 ∧ w_Rec_hold 200 T R M15 r src (X5 M15) K) := by
    intro r N0 F hrec hN hK
    obtain ⟨b1, b2, b3, b4⟩ := hL.rec hrec
    have hr2 := hrec.2.2
    refine ⟨b1, b1, fun M1 q1 M2 q2 => ⟨ho, ?_⟩⟩
    have g0 : ∀ a, 128 ≤ a → putRec N0 r F a = M a := fun a ha => by rw [putRec_out (by omega), hN a ha]
    rw [h6 _ g0, putRec_s (by decide) (by decide)] at q1
    rw [h7 _ g0, q1, putRec_s (by decide) (by decide)] at q2
    have g2 : ∀ a, 128 ≤ a → M2 a = M a := fun a ha => by rw [q2, putRec_out (by omega), hN a ha]
    rw [h5 _ g2]
    refine wc_hold hL hrec ho hl hz hz2 hLs (by omega) (by omega) ?_
    rw [g2 src hs1, q2, putRec_s (by decide) (by decide)]
    exact hK
  refine wc_append hL hr hm e1 (fun hlt => ?_) (fun heq => ?_)
  · exact aux (hr.1 m hlt).1 (fun a ha => by rw [sM_k _ (by omega), sM_k _ (by omega)]) (h1 hlt)
  · exact aux ⟨by decide, by decide, by decide⟩ (fun a ha => by rw [sM_k _ (by omega), sM_k _ (by omega)]) (h2 heq)
def spM (M2 : mM) (s e a tm j : Nat) : mM := sM (sM (sM (sM (sM M2 14 (4 * s + e) (nI (a + 1))) 26 (80 * s + tm) (nI e)) 27 (80 * s + tm) (nI a)) 28 (80 * s + tm) (nI j)) 25 s (nI (tm + 1))
theorem epP_le (p : Nat) : epP p = 0 ∨ epP p = 2 := by unfold epP; split; exact Or.inl rfl; exact Or.inr rfl
theorem wm_sendPiece (hM : LM T2 R2) (hs : s ≤ 1) {j p q z a tm : Nat} (hj : j < 12) (hcon : conR sd mt M2) (hm : m ≤ 60) (e2 : M2 1 8 = nI m) (hp : p ≤ 7) (h22 : M2 22 (12 * s + j) = nI p) (h23 : M2 23 (12 * s + j) = nI q) (hq : q < SZ sd p) (hz : z = min mt (SZ sd p - q)) (h14 : M2 14 (4 * s + epP p) = nI a) (h25 : M2 25 s = nI tm) (ht : tm < 80) (hmt : mt ≤ 24) {Q : mM → Prop}
    (h1 : m < 60 → Q (sM (sM (sM (puM (spM M2 s (epP p) a tm j) m (nI s) 0 (nI (epP p)) (nI a)) 7 m (nI p)) 8 m (nI q)) 9 m (nI z))) (h2 : m = 60 → Q (loM (spM M2 s (epP p) a tm j))) : w_Mo_sendPiece 34 T2 R2 M2 1 (nI s) (nI j) Q := by
  have i12' : (12 : Int32) * nI s + nI j = nI (12 * s + j) := i12 (a := 12)
  refine ⟨hM.ok1, ?_⟩
  simp only [hM.r_11, hM.r_12, hM.r_13, hM.r_14, hM.r_15, hM.r_16, hM.r_17, hM.r_18, hM.r_19, hM.r_20, hM.r_21, hM.r_22, hM.r_23, hM.r_24, hM.r_25, hM.r_26, hM.r_27, hM.r_28, hM.r_29, hM.r_30, hM.r_31, hM.r_32, hM.r_33, hM.r_34, hM.r_35, hM.r_36, hM.r_37, hM.r_38, hM.r_39, hM.r_40, hM.r_41, hM.r_42, hM.r_43, hM.l_2, hM.l_3, hM.l_4, hM.l_5, hM.l_6, hM.l_7, hM.l_8, hM.l_9, hM.l_10, hM.l_11, hM.l_12, hM.l_13, hM.l_14, hM.l_15, hM.l_16, hM.l_17, hM.l_18, hM.l_19, hM.l_20, hM.l_21, hM.l_22, hM.l_23, hM.l_24, hM.l_25, hM.l_26, hM.l_27, hM.l_28, hM.l_29, hM.l_30, hM.l_31, hM.l_32, hM.l_33, hM.l_34]
  rw [i12', nI_clamp (by omega), h22]
  refine ⟨hM.o_22, vp_in_nI (by omega) (by decide), fun v3 e3 => ?_⟩
  subst e3
  have key : w_Mo_sendPiece_B22 34 T2 R2 Q 1 (nI s) (nI j) (nI p) (nI (epP p)) M2 := by
    have he := epP_le p
    have i4 : (4 : Int32) * nI s + nI (epP p) = nI (4 * s + epP p) := i12 (a := 4)
    have i80 : (80 : Int32) * nI s + nI tm = nI (80 * s + tm) := i12 (a := 80)
    unfold w_Mo_sendPiece_B22
    simp only [hM.r_11, hM.r_12, hM.r_13, hM.r_14, hM.r_15, hM.r_16, hM.r_17, hM.r_18, hM.r_19, hM.r_20, hM.r_21, hM.r_22, hM.r_23, hM.r_24, hM.r_25, hM.r_26, hM.r_27, hM.r_28, hM.r_29, hM.r_30, hM.r_31, hM.r_32, hM.r_33, hM.r_34, hM.r_35, hM.r_36, hM.r_37, hM.r_38, hM.r_39, hM.r_40, hM.r_41, hM.r_42, hM.r_43, hM.l_2, hM.l_3, hM.l_4, hM.l_5, hM.l_6, hM.l_7, hM.l_8, hM.l_9, hM.l_10, hM.l_11, hM.l_12, hM.l_13, hM.l_14, hM.l_15, hM.l_16, hM.l_17, hM.l_18, hM.l_19, hM.l_20, hM.l_21, hM.l_22, hM.l_23, hM.l_24, hM.l_25, hM.l_26, hM.l_27, hM.l_28, hM.l_29, hM.l_30, hM.l_31, hM.l_32, hM.l_33, hM.l_34]
    rw [i4, i12', nI_clamp (by omega), h14]
    refine ⟨hM.o_14, vp_in_nI (by omega) (by decide), fun v7 e7 => ⟨vp_in_nI (by omega) (by decide), vp_in_nI (by omega) (by decide), fun M10 e10 => ?_⟩⟩
    subst e7
    rw [nI_1] at e10
    have d25 : M10 25 s = nI tm := by rw [e10, sM_k 25 (by decide)]; exact h25
    rw [nI_clamp (by omega), d25, i80]
    refine ⟨hM.o_25, vp_in_nI (by omega) (by decide), fun v13 e13 => ?_⟩
    subst e13
    rw [nI_clamp (by omega)]
    refine ⟨hM.o_26, vp_in_nI (by omega) (by decide), fun M16 e16 => ⟨hM.o_27, vp_in_nI (by omega) (by decide), fun M19 e19 => ⟨hM.o_28, vp_in_nI (by omega) (by decide), fun M22 e22 => ⟨vp_in_nI (by omega) (by decide), vp_in_nI (by omega) (by decide), fun M25 e25 => ?_⟩⟩⟩⟩
    have d22 : M22 25 s = nI tm := by rw [e22, sM_k 25 (by decide), e19, sM_k 25 (by decide), e16, sM_k 25 (by decide)]; exact d25
    rw [d22, nI_1] at e25
    have e25' : M25 = spM M2 s (epP p) a tm j := by rw [e25, e22, e19, e16, e10]; rfl
    subst e25'
    have o1 : ∀ x, spM M2 s (epP p) a tm j 1 x = M2 1 x := fun x => by unfold spM; rw [sM_k 1 (by decide), sM_k 1 (by decide), sM_k 1 (by decide), sM_k 1 (by decide), sM_k 1 (by decide)]
    have o23 : spM M2 s (epP p) a tm j 23 = M2 23 := by unfold spM; rw [sM_k 23 (by decide), sM_k 23 (by decide), sM_k 23 (by decide), sM_k 23 (by decide), sM_k 23 (by decide)]
    refine wm_put hM hm (by rw [o1]; exact e2) (fun hlt => ⟨fun _ => ?_, fun x => absurd (nI_le (a := 0) (Nat.zero_le m) (by omega)) x⟩) (fun heq => ⟨fun x => absurd x (by decide), fun _ => h2 heq⟩)
    have pu1 : ∀ x, x ≠ 8 → x ≠ 10 → puM (spM M2 s (epP p) a tm j) m (nI s) 0 (nI (epP p)) (nI a) 1 x = M2 1 x := fun x h8 h10 => by rw [puM_o (by omega) (by omega)]; exact o1 x
    have pu23 : puM (spM M2 s (epP p) a tm j) m (nI s) 0 (nI (epP p)) (nI a) 23 (12 * s + j) = nI q := by rw [puM_o (by omega) (by omega), o23]; exact h23
    generalize puM (spM M2 s (epP p) a tm j) m (nI s) 0 (nI (epP p)) (nI a) = N at h1 pu1 pu23
    have hc0 : N 1 0 = nI mt := by rw [pu1 0 (by decide) (by decide)]; exact hcon.1
    have hc1 : N 1 1 = nI (plS sd) := by rw [pu1 1 (by decide) (by decide)]; exact hcon.2.1
    refine wm_sizeOf hM.ok1 hc1 hp ?_
    rw [show szP (plS sd) p = SZ sd p from rfl]
    rw [nI_clamp (by omega), nI_clamp (by omega), pu23]
    refine ⟨hM.o_23, vp_in_nI (by omega) (by decide), fun v31 e31 => ⟨hM.o_7, vp_in_nI hlt (by decide), fun M34 e34 => ⟨hM.o_8, vp_in_nI (by omega) (by decide), vp_in_nI hlt (by decide), fun M38 e38 => ⟨hM.o_9, ?_⟩⟩⟩⟩
    have hszb : SZ sd p ≤ 43 := SZ_le sd p
    have d34 : M34 23 (12 * s + j) = nI q := by rw [e34, sM_k 23 (by decide)]; exact pu23
    rw [d34] at e38
    have d38 : M38 1 0 = nI mt := by rw [e38, sM_k 1 (by decide), e34, sM_k 1 (by decide)]; exact hc0
    rw [nI_sub (by omega)] at e31
    subst e31
    rw [d38]
    subst e38; subst e34
    refine ⟨fun x => ⟨vp_in_nI hlt (by decide), fun M41 e41 => ?_⟩, fun x => ⟨vp_in_nI hlt (by decide), fun M41 e41 => ?_⟩⟩
    · have : mt ≤ SZ sd p - q := (nI_leI (by omega) (by omega)).mp x
      rw [e41, show mt = z by omega]; exact h1 hlt
    · have : ¬ mt ≤ SZ sd p - q := fun y => x (nI_le y (by omega))
      rw [e41, show SZ sd p - q = z by omega]; exact h1 hlt
  have g4 : (4 : Int32) ≤ nI p ↔ 4 ≤ p := nI_leI (a := 4) (by decide) (by omega)
  refine ⟨fun x => ?_, fun x => ?_⟩
  · have : epP p = 2 := by unfold epP; rw [if_neg (by have := g4.mp x; omega)]
    rw [this] at key; exact key
  · have : epP p = 0 := by unfold epP; rw [if_pos (Nat.not_le.mp fun y => x (g4.mpr y))]
    rw [this] at key; exact key
end PT
