/-! noting, the reference -/
def noM (M : mM) (s q : Nat) (e n : Int32) : mM := fun a j => if a = 17 ∧ j = s then nI q else if a = 18 ∧ 8 * s ≤ j ∧ j < 8 * s + q then (if j = 8 * s then e else M 18 (j - 1)) else if a = 19 ∧ 8 * s ≤ j ∧ j < 8 * s + q then (if j = 8 * s then n else M 19 (j - 1)) else M a j
def noV' (V : mM) (q : Nat) (e n : Int32) : mM := fun a j => if a = 17 ∧ j = 0 then nI q else if a = 18 ∧ j < q then (if j = 0 then e else V 18 (j - 1)) else if a = 19 ∧ j < q then (if j = 0 then n else V 19 (j - 1)) else V a j
def npM (N : mM) (s q i : Nat) : mM := fun a j => if (a = 18 ∨ a = 19) ∧ 8 * s + i < j ∧ j < 8 * s + q then N a (j - 1) else N a j
section NT
variable {sd : Int32} {mt k c s cb nf w m i : Nat} {U V U' V' : mM} {hs : Nat → Int32} {dl : Int32} {T T2 : mT} {R R2 : mR} {M M2 : mM}
theorem wm_note (hM : LM T2 R2) (hs : s ≤ 1) {q : Nat} (hq8 : q ≤ 8) (h17 : M2 17 s = nI q) {e n : Int32} {Q : mM → Prop} (hq : Q (noM M2 s (min (q + 1) 8) e n)) : w_Mo_note 34 T2 R2 M2 1 (nI s) e n Q := by
  have vs : vp_in (nI s) 2 := vp_in_nI (by omega) (by decide)
  have key : ∀ q' : Nat, q' = min (q + 1) 8 → w_Mo_note_B29 34 T2 R2 Q 1 (nI s) e n 17 (nI s) (nI q') M2 := by
    intro q' hq'
    unfold w_Mo_note_B29
    simp only [hM.r_11, hM.r_12, hM.r_13, hM.r_14, hM.r_15, hM.r_16, hM.r_17, hM.r_18, hM.r_19, hM.r_20, hM.r_21, hM.r_22, hM.r_23, hM.r_24, hM.r_25, hM.r_26, hM.r_27, hM.r_28, hM.r_29, hM.r_30, hM.r_31, hM.r_32, hM.r_33, hM.r_34, hM.r_35, hM.r_36, hM.r_37, hM.r_38, hM.r_39, hM.r_40, hM.r_41, hM.r_42, hM.r_43, hM.l_2, hM.l_3, hM.l_4, hM.l_5, hM.l_6, hM.l_7, hM.l_8, hM.l_9, hM.l_10, hM.l_11, hM.l_12, hM.l_13, hM.l_14, hM.l_15, hM.l_16, hM.l_17, hM.l_18, hM.l_19, hM.l_20, hM.l_21, hM.l_22, hM.l_23, hM.l_24, hM.l_25, hM.l_26, hM.l_27, hM.l_28, hM.l_29, hM.l_30, hM.l_31, hM.l_32, hM.l_33, hM.l_34]
    rw [nI_clamp (by omega)]
    refine ⟨vs, fun M6 e6 => ⟨hM.o_17, vs, fun v9 e9 => ?_⟩⟩
    have d17 : M6 17 s = nI q' := by rw [e6, sM_e]
    rw [d17, show nI q' - 1 = nI (q' - 1) from nI_sub (b := 1) (by omega)] at e9
    subst e9
    refine ⟨q' - 1 + 1, ?_⟩
    have lp : ∀ i, i < q' → w_Mo_note_L40 34 T2 R2 Q 1 (nI s) e n (i + 1) (nI i) (npM M6 s q' i) := by
      intro i
      induction i with
      | zero =>
        intro _
        unfold w_Mo_note_L40
        simp only [hM.r_11, hM.r_12, hM.r_13, hM.r_14, hM.r_15, hM.r_16, hM.r_17, hM.r_18, hM.r_19, hM.r_20, hM.r_21, hM.r_22, hM.r_23, hM.r_24, hM.r_25, hM.r_26, hM.r_27, hM.r_28, hM.r_29, hM.r_30, hM.r_31, hM.r_32, hM.r_33, hM.r_34, hM.r_35, hM.r_36, hM.r_37, hM.r_38, hM.r_39, hM.r_40, hM.r_41, hM.r_42, hM.r_43, hM.l_2, hM.l_3, hM.l_4, hM.l_5, hM.l_6, hM.l_7, hM.l_8, hM.l_9, hM.l_10, hM.l_11, hM.l_12, hM.l_13, hM.l_14, hM.l_15, hM.l_16, hM.l_17, hM.l_18, hM.l_19, hM.l_20, hM.l_21, hM.l_22, hM.l_23, hM.l_24, hM.l_25, hM.l_26, hM.l_27, hM.l_28, hM.l_29, hM.l_30, hM.l_31, hM.l_32, hM.l_33, hM.l_34]
        rw [show (8 : Int32) * nI s = nI (8 * s) from pk_mul 8 s, nI_clamp (by omega)]
        refine ⟨fun _ => ⟨hM.o_18, vp_in_nI (by omega) (by decide), fun M13 e13 => ⟨hM.o_19, vp_in_nI (by omega) (by decide), fun M16 e16 => ?_⟩⟩, fun y => absurd (by decide) y⟩
        have : M16 = noM M2 s (min (q + 1) 8) e n := by
          rw [e16, e13, ← hq', e6]
          funext a j
          by_cases y17 : a = 17
          · subst y17
            simp only [sMt, npM, noM, true_and, true_or, or_true]
            (repeat' split) <;> first | rfl | omega | (congr 1; omega)
          · by_cases y18 : a = 18
            · subst y18
              simp only [sMt, npM, noM, true_and, true_or, or_true]
              (repeat' split) <;> first | rfl | omega | (congr 1; omega)
            · by_cases y19 : a = 19
              · subst y19
                simp only [sMt, npM, noM, true_and, true_or, or_true]
                (repeat' split) <;> first | rfl | omega | (congr 1; omega)
              · simp only [sMt, npM, noM, true_and, true_or, or_true]
                (repeat' split) <;> first | rfl | omega | (congr 1; omega)
        rw [this]; exact hq
      | succ i ih =>
        intro hi
        unfold w_Mo_note_L40
        simp only [hM.r_11, hM.r_12, hM.r_13, hM.r_14, hM.r_15, hM.r_16, hM.r_17, hM.r_18, hM.r_19, hM.r_20, hM.r_21, hM.r_22, hM.r_23, hM.r_24, hM.r_25, hM.r_26, hM.r_27, hM.r_28, hM.r_29, hM.r_30, hM.r_31, hM.r_32, hM.r_33, hM.r_34, hM.r_35, hM.r_36, hM.r_37, hM.r_38, hM.r_39, hM.r_40, hM.r_41, hM.r_42, hM.r_43, hM.l_2, hM.l_3, hM.l_4, hM.l_5, hM.l_6, hM.l_7, hM.l_8, hM.l_9, hM.l_10, hM.l_11, hM.l_12, hM.l_13, hM.l_14, hM.l_15, hM.l_16, hM.l_17, hM.l_18, hM.l_19, hM.l_20, hM.l_21, hM.l_22, hM.l_23, hM.l_24, hM.l_25, hM.l_26, hM.l_27, hM.l_28, hM.l_29, hM.l_30, hM.l_31, hM.l_32, hM.l_33, hM.l_34]
        rw [show (8 : Int32) * nI s = nI (8 * s) from pk_mul 8 s, nI_add, show nI (8 * s + (i + 1)) - 1 = nI (8 * s + i) from nI_pred _, nI_clamp (n := 8 * s + i) (by omega), nI_clamp (n := 8 * s + (i + 1)) (by omega)]
        refine ⟨fun y => absurd y (nI_nle (by omega) (by omega)), fun _ => ⟨hM.o_18, vp_in_nI (by omega) (by decide), vp_in_nI (by omega) (by decide), fun M20 e20 => ⟨hM.o_19, vp_in_nI (by omega) (by decide), vp_in_nI (by omega) (by decide), fun M24 e24 v25 e25 => ?_⟩⟩⟩
        have e25' : v25 = nI i := by rw [e25, ← Int32.sub_eq_add_neg, nI_pred]
        have e24' : M24 = npM M6 s q' i := by
          rw [e24, e20]
          funext a j
          by_cases y18 : a = 18
          · subst y18
            simp only [sMt, npM, true_and, true_or, or_true]
            (repeat' split) <;> first | rfl | omega | (congr 1; omega)
          · by_cases y19 : a = 19
            · subst y19
              simp only [sMt, npM, true_and, true_or, or_true]
              (repeat' split) <;> first | rfl | omega | (congr 1; omega)
            · simp only [sMt, npM, true_and, true_or, or_true]
              (repeat' split) <;> first | rfl | omega | (congr 1; omega)
        rw [e25', e24']
        exact ih (by omega)
    have e0 : npM M6 s q' (q' - 1) = M6 := by
      funext a j
      simp only [npM]
      rw [if_neg (by omega)]
    have := lp (q' - 1) (by omega)
    rw [e0] at this
    exact this
  refine ⟨hM.ok1, ?_⟩
  simp only [hM.r_11, hM.r_12, hM.r_13, hM.r_14, hM.r_15, hM.r_16, hM.r_17, hM.r_18, hM.r_19, hM.r_20, hM.r_21, hM.r_22, hM.r_23, hM.r_24, hM.r_25, hM.r_26, hM.r_27, hM.r_28, hM.r_29, hM.r_30, hM.r_31, hM.r_32, hM.r_33, hM.r_34, hM.r_35, hM.r_36, hM.r_37, hM.r_38, hM.r_39, hM.r_40, hM.r_41, hM.r_42, hM.r_43, hM.l_2, hM.l_3, hM.l_4, hM.l_5, hM.l_6, hM.l_7, hM.l_8, hM.l_9, hM.l_10, hM.l_11, hM.l_12, hM.l_13, hM.l_14, hM.l_15, hM.l_16, hM.l_17, hM.l_18, hM.l_19, hM.l_20, hM.l_21, hM.l_22, hM.l_23, hM.l_24, hM.l_25, hM.l_26, hM.l_27, hM.l_28, hM.l_29, hM.l_30, hM.l_31, hM.l_32, hM.l_33, hM.l_34]
  rw [nI_clamp (by omega), h17]
  refine ⟨hM.o_17, vs, fun y => ?_, fun y => ⟨vs, ?_⟩⟩
  · have := (nI_leI (a := 8) (by decide) (by omega)).mp y
    exact key 8 (by omega)
  · have h8 : q < 8 := Nat.not_le.mp fun z => y (nI_le (a := 8) z (by omega))
    rw [nI_1]
    exact key (q + 1) (by omega)
theorem NS.noV (hsd : isSd s cb nf w) (h : NS sd mt k c s cb w U V U' V' hs dl R M M2) {q : Nat} (hq8 : q ≤ 8) {e n : Int32} : NS sd mt k c s cb w U (noV' V q e n) U' V' hs dl R M (noM M2 s q e n) := by
  have hl := hsd.le
  have out : ∀ a, a ≠ 17 → a ≠ 18 → a ≠ 19 → noM M2 s q e n a = M2 a := fun a h1 h2 h3 => by
    funext j
    simp only [noM]
    rw [if_neg (by omega), if_neg (by omega), if_neg (by omega)]
  obtain ⟨a1, a2, a3, a4, rfl, rfl, rfl, rfl, rfl, a10⟩ := h
  refine ⟨a1, by rw [out 1 (by decide) (by decide) (by decide)]; exact a2, ?_, ?_, rfl, ?_, rfl, ?_, by rw [out 32 (by decide) (by decide) (by decide)], by rw [out 1 (by decide) (by decide) (by decide)]; exact a10⟩
  · unfold conR at a3 ⊢; rw [out 1 (by decide) (by decide) (by decide)]; exact a3
  · have : nv (noM M2 s q e n) = nv M2 := by
      funext a j
      unfold nv
      split
      · rw [out a (by omega) (by omega) (by omega)]
      · rfl
    rw [this]; exact a4
  · funext a j
    by_cases y : a = 17 ∨ a = 18 ∨ a = 19
    · rcases y with rfl | rfl | rfl
      · show (if j < 1 then noM M2 s q e n 17 (1 * s + j) else 0) = if 17 = 17 ∧ j = 0 then nI q else if 17 = 18 ∧ j < q then _ else if 17 = 19 ∧ j < q then _ else (if j < 1 then M2 17 (1 * s + j) else 0)
        simp only [noM, true_and]
        (repeat' split) <;> first | rfl | omega | (congr 1; omega)
      · show (if j < 8 then noM M2 s q e n 18 (8 * s + j) else 0) = if 18 = 17 ∧ j = 0 then nI q else if 18 = 18 ∧ j < q then (if j = 0 then e else if j - 1 < 8 then M2 18 (8 * s + (j - 1)) else 0) else if 18 = 19 ∧ j < q then _ else (if j < 8 then M2 18 (8 * s + j) else 0)
        simp only [noM, true_and]
        (repeat' split) <;> first | rfl | omega | (congr 1; omega)
      · show (if j < 8 then noM M2 s q e n 19 (8 * s + j) else 0) = if 19 = 17 ∧ j = 0 then nI q else if 19 = 18 ∧ j < q then _ else if 19 = 19 ∧ j < q then (if j = 0 then n else if j - 1 < 8 then M2 19 (8 * s + (j - 1)) else 0) else (if j < 8 then M2 19 (8 * s + j) else 0)
        simp only [noM, true_and]
        (repeat' split) <;> first | rfl | omega | (congr 1; omega)
    · have : noV' (vw M2 s) q e n a j = vw M2 s a j := by
        simp only [noV']
        rw [if_neg (by omega), if_neg (by omega), if_neg (by omega)]
      rw [this]
      unfold vw
      rw [out a (by omega) (by omega) (by omega)]
  · funext a j
    by_cases y : a = 17 ∨ a = 18 ∨ a = 19
    · rcases y with rfl | rfl | rfl
      · show (if j < 1 then noM M2 s q e n 17 (1 * (1 - s) + j) else 0) = (if j < 1 then M2 17 (1 * (1 - s) + j) else 0)
        simp only [noM, true_and]
        (repeat' split) <;> first | rfl | omega | (congr 1; omega)
      · show (if j < 8 then noM M2 s q e n 18 (8 * (1 - s) + j) else 0) = (if j < 8 then M2 18 (8 * (1 - s) + j) else 0)
        simp only [noM, true_and]
        (repeat' split) <;> first | rfl | omega | (congr 1; omega)
      · show (if j < 8 then noM M2 s q e n 19 (8 * (1 - s) + j) else 0) = (if j < 8 then M2 19 (8 * (1 - s) + j) else 0)
        simp only [noM, true_and]
        (repeat' split) <;> first | rfl | omega | (congr 1; omega)
    · unfold vw
      rw [out a (by omega) (by omega) (by omega)]
/-- what is noted by both is named alike -/
theorem notR.add {q e n : Nat} (h : notR c U V) (h1 : U 1 1 = nI q) (hq : q ≤ 8) (hn : n ≤ c) (he : e ≤ 3) : notR c (ndM U 1 2 (min (q + 1) 8) (nI (4 * n + e))) (noV' V (min (q + 1) 8) (nI e) (nI n)) := by
  obtain ⟨q', a1, a2, a3, a4⟩ := h
  have : q' = q := (nI_eq (by omega) (by omega)).mp (a2.symm.trans h1)
  subst this
  refine ⟨min (q' + 1) 8, by omega, by unfold ndM; rw [if_pos ⟨rfl, rfl⟩], by unfold noV'; rw [if_pos ⟨rfl, rfl⟩], fun j hj => ?_⟩
  have e2 : ndM U 1 2 (min (q' + 1) 8) (nI (4 * n + e)) 2 j = if j = 0 then nI (4 * n + e) else U 2 (j - 1) := by
    simp only [ndM]; rw [if_neg (by omega), if_pos ⟨trivial, hj⟩]
  have e18 : noV' V (min (q' + 1) 8) (nI e) (nI n) 18 j = if j = 0 then nI e else V 18 (j - 1) := by
    simp only [noV']; rw [if_neg (by omega), if_pos ⟨trivial, hj⟩]
  have e19 : noV' V (min (q' + 1) 8) (nI e) (nI n) 19 j = if j = 0 then nI n else V 19 (j - 1) := by
    simp only [noV']; rw [if_neg (by omega), if_neg (by omega), if_pos ⟨trivial, hj⟩]
  rw [e2, e18, e19]
  by_cases y : j = 0
  · rw [if_pos y, if_pos y, if_pos y]; exact ⟨n, e, hn, he, rfl, rfl, rfl⟩
  · rw [if_neg y, if_neg y, if_neg y]; exact a4 (j - 1) (by omega)
theorem ndM_k {a q : Nat} {x : Int32} (h1 : a ≠ 1) (h2 : a ≠ 2) : ndM U 1 2 q x a = U a := by
  funext j; simp only [ndM]; rw [if_neg (by omega), if_neg (by omega)]
theorem noV_k {a q : Nat} {e n : Int32} (h1 : a ≠ 17) (h2 : a ≠ 18) (h3 : a ≠ 19) : noV' V q e n a = V a := by
  funext j; simp only [noV']; rw [if_neg (by omega), if_neg (by omega), if_neg (by omega)]
end NT
