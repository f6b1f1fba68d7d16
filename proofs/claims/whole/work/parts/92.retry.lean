/-! the server's RETRY; noting a record -/
section RT
variable {sd : Int32} {mt k c s cb nf w n e m i : Nat} {U V U' V' : mM} {hs : Nat → Int32} {dl : Int32} {T T2 : mT} {R R2 : mR} {M M2 : mM}
theorem retry_both (hL : LC sd T R) (hM : LM T2 R2) (h : NS sd mt k c 1 152 49 U V U' V' hs dl R M M2) {r : Nat} (hr : isRec r) (hr6 : r ≠ 6) (hrr : ∀ j, j < 60 → R 3 j ≠ r) (hU0 : U 0 0 = 1) (h14 : U 0 14 = sS sd) (hv : ∀ j, j < 4 → M (r + 1) j = byI (rS sd) (nI j)) (hn : n ≤ c) (r5 : M r 5 = nI n) {K : mM → Prop}
    (hK : ∀ M' M2', (∀ Q', Q' M2' → w_Mo_retry 34 T2 R2 M2 1 (nI n) Q') → NS sd mt k c 1 152 49 (ldO U 39 0 4 (fun i => byI (ckS sd) (nI i))) V U' V' hs dl R M' M2' → M' r = M r → M' (r + 1) = M (r + 1) → K M') : w_Server_sendRetry 200 T R M 152 r K := by
  obtain ⟨b1, b2, b3, b4⟩ := hL.rec hr
  have hr1 := hr.1
  have hr2 := hr.2.2
  have hr3 := hr.2.1
  refine ⟨hL.o_152, ?_⟩
  rw [hL.r_152_15, hL.r_191_2, hL.r_152_2, hL.l_192]
  have e14 : M 152 14 = sS sd := (h.u0 sd1).trans h14
  rw [e14]
  refine ⟨hL.o_191, b1, wc_readInt hL hr hv (wr_mix (wc_writeInt (st := 0) hL.o_191 hL.r_191_2 hL.o_192 hL.l_192 (by decide) (by decide) ⟨hL.o_2, ?_⟩))⟩
  have hA := h.ldU sd1 (i := 39) (st := 0) (z := 4) (F := fun i => byI (ckS sd) (nI i)) (by decide)
  have hA' : NS sd mt k c 1 152 49 (ldO U 39 0 4 (fun i => byI (ckS sd) (nI i))) V U' V' hs dl R (ldO M 191 0 4 (fun i => byI (mixI (sS sd) (rS sd)) (nI i))) M2 := hA
  clear hA
  have f5 : ∀ a, a ≠ 192 → ldO M 191 0 4 (fun i => byI (mixI (sS sd) (rS sd)) (nI i)) a = M a := fun a ha => ldO_out ha
  have f192 : ∀ j, j < 4 → ldO M 191 0 4 (fun i => byI (mixI (sS sd) (rS sd)) (nI i)) 192 j = byI (ckS sd) (nI j) := fun j hj => ldO_in (h := 191) (Nat.zero_le j) (by omega)
  generalize ldO M 191 0 4 (fun i => byI (mixI (sS sd) (rS sd)) (nI i)) = M5 at hA' f5 f192 ⊢
  have e0 : M5 152 0 = nI 1 := by rw [f5 152 (by decide), h.u0 sd1]; exact hU0
  have er5 : M5 r 5 = nI n := by rw [f5 r (by omega)]; exact r5
  rw [e0, er5]
  obtain ⟨m, hm, c1, c2, c3, hrow, hrec⟩ := hA'.cnt
  have mo : ∀ {Q' : mM → Prop}, (m < 60 → Q' (sM (sM (sM (puM M2 m (nI 1) 0 (nI (epP 1)) (nI n)) 7 m (nI 1)) 8 m (nI 0)) 9 m (nI 4))) → (m = 60 → Q' (loM M2)) → w_Mo_retry 34 T2 R2 M2 1 (nI n) Q' := by
    intro Q' q1 q2
    refine ⟨hM.ok1, wm_put hM hm c2 (fun hlt => ⟨fun _ => ?_, fun x => absurd (nI_le (a := 0) (Nat.zero_le m) (by omega)) x⟩) (fun heq => ⟨fun x => absurd x (by decide), fun _ => q2 heq⟩)⟩
    simp only [hM.r_11, hM.r_12, hM.r_13, hM.r_14, hM.r_15, hM.r_16, hM.r_17, hM.r_18, hM.r_19, hM.r_20, hM.r_21, hM.r_22, hM.r_23, hM.r_24, hM.r_25, hM.r_26, hM.r_27, hM.r_28, hM.r_29, hM.r_30, hM.r_31, hM.r_32, hM.r_33, hM.r_34, hM.r_35, hM.r_36, hM.r_37, hM.r_38, hM.r_39, hM.r_40, hM.r_41, hM.r_42, hM.r_43, hM.l_2, hM.l_3, hM.l_4, hM.l_5, hM.l_6, hM.l_7, hM.l_8, hM.l_9, hM.l_10, hM.l_11, hM.l_12, hM.l_13, hM.l_14, hM.l_15, hM.l_16, hM.l_17, hM.l_18, hM.l_19, hM.l_20, hM.l_21, hM.l_22, hM.l_23, hM.l_24, hM.l_25, hM.l_26, hM.l_27, hM.l_28, hM.l_29, hM.l_30, hM.l_31, hM.l_32, hM.l_33, hM.l_34]
    rw [nI_clamp (by omega)]
    refine ⟨hM.o_7, vp_in_nI hlt (by decide), fun N5 n5 => ⟨hM.o_9, vp_in_nI hlt (by decide), fun N8 n8 => ?_⟩⟩
    have : N8 = sM (sM (sM (puM M2 m (nI 1) 0 (nI (epP 1)) (nI n)) 7 m (nI 1)) 8 m (nI 0)) 9 m (nI 4) := by
      rw [n8, n5]
      funext a j
      simp only [sMt]
      by_cases q : a = 8 ∧ j = m
      · obtain ⟨rfl, rfl⟩ := q
        rw [if_neg (by omega), if_neg (by omega), if_neg (by omega), if_pos ⟨rfl, rfl⟩]
        exact puM_in (by decide) (by decide)
      · rw [if_neg (c := a = 8 ∧ j = m) q]; rfl
    rw [this]; exact q1 hlt
  have fr : ∀ {r' : Nat} {N0 : mM} {F f : Nat → Int32}, isRec r' → r' ≠ r → (∀ a, a ≠ 2 → N0 a = M5 a) → loadM (putRec N0 r' F) r' 4 f r = M r ∧ loadM (putRec N0 r' F) r' 4 f (r + 1) = M (r + 1) := by
    intro r' N0 F f h1 h2 h3
    have h11 := h1.1
    constructor
    · rw [loadM_out (by omega), putRec_out (by omega), h3 r (by omega), f5 r (by omega)]
    · rw [loadM_out (by omega), putRec_out (by omega), h3 (r + 1) (by omega), f5 (r + 1) (by omega)]
  have hpo : pieceOK sd (nI 1) 1 0 4 := ⟨Or.inr ⟨rfl, Or.inl rfl⟩, by decide, by decide, Nat.le_refl 4, fun _ => ⟨rfl, rfl⟩⟩
  refine wc_putFrag hL hrow hm c1 (z := 4) (src := 192) (L := 4) (by decide) hL.o_192 hL.l_192 (by decide) (by decide) (by decide) (v6 := nI (noP 1)) (v7 := nI 0) (X6 := fun _ => 0) (X7 := fun _ => 0) (X5 := fun _ => nI 4) (fun _ _ => rfl) (fun _ _ => rfl) (fun _ _ => rfl) (fun hlt => ?_) (fun heq => ?_)
  · obtain ⟨y1, y2⟩ := hrow.1 m hlt
    have ff := fr (F := upd (upd (upd (adF (nI 1) 0 0 (nI n) (M5 (R 3 m))) 6 (nI (noP 1))) 7 (nI 0)) 1 (nI 4)) (f := M5 192) y1 (hrr m hlt) (N0 := sM (sM M5 2 5 (M5 2 5 + 1)) 2 3 (nI (m + 1))) (fun a ha => by rw [sM_k a ha, sM_k a ha])
    exact hK _ _ (fun Q' hq => mo (fun _ => hq) (fun x => absurd x (by omega))) (hA'.putFrag sd1 hlt c1 hpo hn (fun j hj => by rw [f192 j hj, Nat.zero_add]; rfl)) ff.1 ff.2
  · have ff := fr (F := upd (upd (upd (adF (nI 1) 0 0 (nI n) (M5 6)) 6 (nI (noP 1))) 7 (nI 0)) 1 (nI 4)) (f := M5 192) (r' := 6) ⟨by decide, by decide, by decide⟩ (Ne.symm hr6) (N0 := sM (sM M5 2 5 (M5 2 5 + 1)) 2 4 (M5 2 4 + 1)) (fun a ha => by rw [sM_k a ha, sM_k a ha])
    exact hK _ _ (fun Q' hq => mo (fun x => absurd x (by omega)) (fun _ => hq)) (hA'.putLo sd1) ff.1 ff.2
/-! noting -/
def ndM (M : mM) (c1 c2 q : Nat) (x : Int32) : mM := fun a j => if a = c1 ∧ j = 1 then nI q else if a = c2 ∧ j < q then (if j = 0 then x else M c2 (j - 1)) else M a j
def ndP (M : mM) (c2 q i : Nat) : mM := fun a j => if a = c2 ∧ i < j ∧ j < q then M c2 (j - 1) else M a j
theorem wc_noted (hS : LSd T R cb nf) {q : Nat} (hq8 : q ≤ 8) (h1 : M (cb + 1) 1 = nI q) {x : Int32} {K : mM → Prop} (hK : K (ndM M (cb + 1) (cb + 2) (min (q + 1) 8) x)) : w_Noted_add 200 T R M (cb + 1) x K := by
  have ⟨g0, _, ⟨g11, g12, g21, g22⟩, _⟩ := hS
  have key : ∀ (q' : Nat) (N : mM), 1 ≤ q' → q' ≤ 8 → N (cb + 1) 1 = nI q' → K (sM (ndP N (cb + 2) q' 0) (cb + 2) 0 x) → w_Noted_add_B22 200 T R K (cb + 1) x N := by
    intro q' N h1 h8 hN hK
    intro v3 e3
    rw [hN, show nI q' - 1 = nI (q' - 1) from nI_sub (b := 1) h1] at e3
    subst e3
    refine ⟨q' - 1 + 1, ?_⟩
    have lp : ∀ i, i < q' → w_Noted_add_L29 200 T R K (cb + 1) x (i + 1) (nI i) (ndP N (cb + 2) q' i) := by
      intro i
      induction i with
      | zero =>
        intro _
        unfold w_Noted_add_L29
        rw [g12, g22]
        exact ⟨fun _ => ⟨g21, vp_in_nI (n := 0) (by decide) (by decide), fun M7 e7 => by rw [e7]; exact hK⟩, fun y => absurd (by decide) y⟩
      | succ i ih =>
        intro hi
        unfold w_Noted_add_L29
        rw [g12, g22, show nI (i + 1) - 1 = nI i from nI_pred i, nI_clamp (by omega), nI_clamp (by omega)]
        refine ⟨fun y => absurd y (nI_nle (by omega) (by omega)), fun _ => ⟨g21, vp_in_nI (by omega) (by decide), vp_in_nI (by omega) (by decide), fun M11 e11 v12 e12 => ?_⟩⟩
        have e12' : v12 = nI i := by rw [e12, ← Int32.sub_eq_add_neg, nI_pred]
        have e11' : M11 = ndP N (cb + 2) q' i := by
          rw [e11]
          funext a j
          simp only [sMt, ndP]
          by_cases y : a = cb + 2 ∧ j = i + 1
          · rw [if_pos y, if_neg (by omega), if_pos (by omega), y.2]; rfl
          · rw [if_neg y]
            by_cases y2 : a = cb + 2 ∧ i + 1 < j ∧ j < q'
            · rw [if_pos y2, if_pos (by omega)]
            · rw [if_neg y2, if_neg (by omega)]
        rw [e12', e11']
        exact ih (by omega)
    have e0 : ndP N (cb + 2) q' (q' - 1) = N := by
      funext a j
      simp only [ndP]
      rw [if_neg (by omega)]
    have := lp (q' - 1) (by omega)
    rw [e0] at this
    exact this
  have fin : ∀ q' : Nat, q' = min (q + 1) 8 → ∀ N : mM, (∀ a j, ¬ (a = cb + 1 ∧ j = 1) → N a j = M a j) → N (cb + 1) 1 = nI q' → sM (ndP N (cb + 2) q' 0) (cb + 2) 0 x = ndM M (cb + 1) (cb + 2) (min (q + 1) 8) x := by
    intro q' hq' N h1 h2
    subst hq'
    funext a j
    simp only [sMt, ndP, ndM]
    by_cases y1 : a = cb + 1 ∧ j = 1
    · rw [if_neg (by omega), if_neg (by omega), if_pos y1, y1.1, y1.2, h2]
    · rw [if_neg y1]
      by_cases y2 : a = cb + 2 ∧ j < min (q + 1) 8
      · rw [if_pos y2]
        by_cases y3 : j = 0
        · rw [if_pos ⟨y2.1, y3⟩, if_pos y3]
        · rw [if_neg (by omega), if_pos (by omega), if_neg y3, h1 _ _ (by omega)]
      · rw [if_neg y2, if_neg (by omega), if_neg (by omega), h1 a j y1]
  refine ⟨g11, ?_⟩
  rw [g12, g22, h1]
  refine ⟨g21, fun y => ?_, fun y M13 e13 => ?_⟩
  · have h8 : q = 8 := by
      have := (nI_leI (a := 8) (by decide) (by omega)).mp y
      omega
    subst h8
    refine key 8 M (by decide) (by decide) h1 ?_
    rw [fin 8 rfl M (fun _ _ _ => rfl) h1]; exact hK
  · have h8 : q < 8 := Nat.not_le.mp fun z => y (nI_le (a := 8) z (by omega))
    rw [nI_1] at e13
    refine key (q + 1) M13 (by omega) (by omega) (by rw [e13, sM_e]) ?_
    rw [fin (q + 1) (by omega) M13 (fun a j z => by rw [e13, sMt, if_neg z]) (by rw [e13, sM_e])]; exact hK
theorem NS.ndU (hsd : isSd s cb nf w) (h : NS sd mt k c s cb w U V U' V' hs dl R M M2) {q : Nat} {x : Int32} : NS sd mt k c s cb w (ndM U 1 2 q x) V U' V' hs dl R (ndM M (cb + 1) (cb + 2) q x) M2 := by
  have hl := hsd.le
  have out : ∀ a, a ≠ cb + 1 → a ≠ cb + 2 → ndM M (cb + 1) (cb + 2) q x a = M a := fun a h1 h2 => by
    funext j
    simp only [ndM]
    rw [if_neg (by omega), if_neg (by omega)]
  obtain ⟨a1, a2, a3, a4, rfl, rfl, rfl, rfl, rfl, a10⟩ := h
  refine ⟨a1, a2, a3, ?_, ?_, rfl, uw_eq (fun j hj => out _ ?_ ?_), rfl, rfl, by rw [out 2 (by omega) (by omega)]; exact a10⟩
  · have : nw (ndM M (cb + 1) (cb + 2) q x) = nw M := by
      funext a j
      unfold nw
      split
      · rw [out a (by omega) (by omega)]
      · rfl
    rw [this]; exact a4
  · funext i j
    simp only [uw, ndM]
    by_cases y : i < w
    · rw [if_pos y, if_pos y]
      by_cases y1 : i = 1 ∧ j = 1
      · rw [if_pos y1, if_pos (by omega)]
      · rw [if_neg y1, if_neg (by omega)]
        by_cases y2 : i = 2 ∧ j < q
        · rw [if_pos y2, if_pos (by omega)]
          by_cases y3 : j = 0
          · rw [if_pos y3, if_pos y3]
          · rw [if_neg y3, if_neg y3, if_pos (by omega)]
        · rw [if_neg y2, if_neg (by omega)]
    · rw [if_neg y, if_neg y, if_neg (by omega), if_neg (by omega)]
  · rcases hsd with ⟨rfl, rfl, rfl, rfl⟩ | ⟨rfl, rfl, rfl, rfl⟩ <;> omega
  · rcases hsd with ⟨rfl, rfl, rfl, rfl⟩ | ⟨rfl, rfl, rfl, rfl⟩ <;> omega
end RT
