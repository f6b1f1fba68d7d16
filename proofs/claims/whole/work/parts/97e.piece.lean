/-! a piece of the server's flight, taken -/
def hsN (hs : Nat → Int32) (st z : Nat) : Nat → Int32 := fun j => if st ≤ j ∧ j < st + z then 1 else hs j
section PC
variable {sd : Int32} {mt k c c' s cb nf w t p q z n e : Nat} {U V U' V' : mM} {hs : Nat → Int32} {dl : Int32} {T T2 : mT} {R R2 : mR} {M M2 : mM}
theorem NS.setH (h : NS sd mt k c s cb w U V U' V' hs dl R M M2) {st : Nat} : NS sd mt k c s cb w U V U' V' (hsN hs st z) dl R M (ldO M2 31 st z (fun _ => 1)) := by
  have o : ∀ a, a ≠ 32 → ldO M2 31 st z (fun _ => 1) a = M2 a := fun a ha => ldO_out ha
  obtain ⟨a1, a2, a3, a4, rfl, rfl, rfl, rfl, rfl, a10⟩ := h
  have vv : ∀ s, vw (ldO M2 31 st z (fun _ => 1)) s = vw M2 s := fun s => by
    funext a j
    unfold vw
    by_cases y : a = 32
    · subst y
      show (if j < 0 then _ else (0 : Int32)) = if j < 0 then _ else 0
      rw [if_neg (Nat.not_lt_zero j), if_neg (Nat.not_lt_zero j)]
    · rw [o a y]
  refine ⟨a1, by rw [o 1 (by decide)]; exact a2, by unfold conR at a3 ⊢; rw [o 1 (by decide)]; exact a3, ?_, rfl, vv _, rfl, vv _, ?_, by rw [o 1 (by decide)]; exact a10⟩
  · have : nv (ldO M2 31 st z (fun _ => 1)) = nv M2 := by
      funext a j
      unfold nv
      split
      · rw [o a (by omega)]
      · rfl
    rw [this]; exact a4
  · funext j
    show (if 32 = 31 + 1 ∧ st ≤ j ∧ j < st + z then (1 : Int32) else M2 32 j) = if st ≤ j ∧ j < st + z then 1 else M2 32 j
    by_cases y : st ≤ j ∧ j < st + z
    · rw [if_pos y, if_pos ⟨rfl, y⟩]
    · rw [if_neg y, if_neg (fun w => y w.2)]
/-- the segments of the assembly lie apart -/
theorem asm_apart {p p' : Nat} (h3 : 3 ≤ p) (h6 : p ≤ 6) (h3' : 3 ≤ p') (h6' : p' ≤ 6) (hne : p' ≠ p) {i j : Nat} (hi : i < SZ sd p') (hj : j < SZ sd p) : asmS sd (p' - 2) + i ≠ asmS sd (p - 2) + j := by
  have key : ∀ a b, 3 ≤ a → a < b → b ≤ 6 → asmS sd (a - 2) + SZ sd a ≤ asmS sd (b - 2) := by
    obtain ⟨-, -, -, s3, s4, s5, s6, -⟩ := SZ_v sd
    have e1 : asmS sd 1 = 0 := rfl
    have e2 : asmS sd 2 = 4 := rfl
    have e3 : asmS sd 3 = 10 := rfl
    have e4 : asmS sd 4 = 10 + plS sd := rfl
    intro a b h1 h2 h3
    rcases (show (a = 3 ∧ b = 4) ∨ (a = 3 ∧ b = 5) ∨ (a = 3 ∧ b = 6) ∨ (a = 4 ∧ b = 5) ∨ (a = 4 ∧ b = 6) ∨ (a = 5 ∧ b = 6) by omega) with ⟨rfl, rfl⟩ | ⟨rfl, rfl⟩ | ⟨rfl, rfl⟩ | ⟨rfl, rfl⟩ | ⟨rfl, rfl⟩ | ⟨rfl, rfl⟩
    · show asmS sd 1 + _ ≤ asmS sd 2; omega
    · show asmS sd 1 + _ ≤ asmS sd 3; omega
    · show asmS sd 1 + _ ≤ asmS sd 4; omega
    · show asmS sd 2 + _ ≤ asmS sd 3; omega
    · show asmS sd 2 + _ ≤ asmS sd 4; omega
    · show asmS sd 3 + _ ≤ asmS sd 4; omega
  rcases (show p' < p ∨ p < p' by omega) with y | y
  · have := key p' p h3' y h6
    omega
  · have := key p p' h3 y h6'
    omega
theorem asmB.put (h : asmB sd U hs) (h3 : 3 ≤ p) (h6 : p ≤ 6) (hz : q + z ≤ SZ sd p) {f : Nat → Int32} (hf : ∀ j, j < z → f j = CT sd p (q + j)) : asmB sd (ldO U 22 (asmS sd (p - 2) + q) z f) (hsN hs (48 * (p - 3) + q) z) := by
  obtain ⟨h1, h2, h4⟩ := h
  have hszb : SZ sd p ≤ 43 := SZ_le sd p
  refine ⟨fun m hm => by rw [ldO_out (by decide)]; exact h1 m hm, fun p' i k3 k6 hi => ?_, fun p' i k3 k6 hi hi48 => ?_⟩
  · have hszb' : SZ sd p' ≤ 43 := SZ_le sd p'
    by_cases y : p' = p ∧ q ≤ i ∧ i < q + z
    · obtain ⟨rfl, y1, y2⟩ := y
      left
      refine ⟨if_pos (by omega), ?_⟩
      have := ldO_in (M := U) (h := 22) (st := asmS sd (p' - 2) + q) (z := z) (f := f) (j := asmS sd (p' - 2) + i) (by omega) (by omega)
      refine this.trans ?_
      rw [hf _ (by omega)]
      congr 1; omega
    · have e1 : hsN hs (48 * (p - 3) + q) z (48 * (p' - 3) + i) = hs (48 * (p' - 3) + i) := if_neg (by omega)
      have e2 : ldO U 22 (asmS sd (p - 2) + q) z f 23 (asmS sd (p' - 2) + i) = U 23 (asmS sd (p' - 2) + i) := by
        refine ldO_lo (h := 22) ?_
        by_cases y2 : p' = p
        · subst y2; omega
        · have := fun j (hj : j < z) => asm_apart (sd := sd) h3 h6 k3 k6 y2 hi (j := q + j) (by omega)
          rcases (show asmS sd (p' - 2) + i < asmS sd (p - 2) + q ∨ asmS sd (p - 2) + q + z ≤ asmS sd (p' - 2) + i ∨ (asmS sd (p - 2) + q ≤ asmS sd (p' - 2) + i ∧ asmS sd (p' - 2) + i < asmS sd (p - 2) + q + z) by omega) with w | w | ⟨w1, w2⟩
          · exact Or.inl w
          · exact Or.inr w
          · exact absurd (show asmS sd (p' - 2) + i = asmS sd (p - 2) + (q + (asmS sd (p' - 2) + i - asmS sd (p - 2) - q)) by omega) (this _ (by omega))
      rw [e1, e2]; exact h2 p' i k3 k6 hi
  · have e1 : hsN hs (48 * (p - 3) + q) z (48 * (p' - 3) + i) = hs (48 * (p' - 3) + i) := if_neg (fun w => by
      have : p' = p := by omega
      subst this
      omega)
    rw [e1]; exact h4 p' i k3 k6 hi hi48
theorem wc_asmPut (hL : LC sd T R) (h150 : ∀ m, m < 6 → M 150 m = nI (asmS sd m)) {r : Nat} (hr : isRec r) (h3 : 3 ≤ p) (h6 : p ≤ 6) (hz : q + z ≤ SZ sd p) (hz24 : z ≤ 24) (r6 : M r 6 = nI (p - 2)) (r7 : M r 7 = nI q) (r1 : M r 1 = nI z) {K : mM → Prop} (hK : K (ldO M 150 (asmS sd (p - 2) + q) z (M (r + 1)))) : w_Asm_put 200 T R M 149 r K := by
  obtain ⟨b1, b2, b3, b4⟩ := hL.rec hr
  have hr2 := hr.2.2
  have pl := plS_b sd
  obtain ⟨n1, n2⟩ := asmS_next (sd := sd) h3 h6
  refine ⟨hL.o_149, b1, ?_⟩
  rw [r6, r7]
  refine wc_startOf hL h150 (by omega) (fun v3 e3 => ⟨z + 1, ?_⟩)
  rw [if_pos (by omega : p - 2 < 6), nI_add] at e3
  subst e3
  have lp : ∀ d i, i + d = z → w_Asm_put_L16 200 T R K 149 r (nI (asmS sd (p - 2) + q)) (d + 1) (nI i) (ldO M 150 (asmS sd (p - 2) + q) i (M (r + 1))) := by
    intro d
    induction d with
    | zero =>
      intro i hi
      have : i = z := by omega
      subst this
      unfold w_Asm_put_L16
      rw [ldO_out (a := r) (by omega), r1]
      exact ⟨fun _ => hK, fun y => absurd (nI_le (Nat.le_refl i) (by omega)) y⟩
    | succ d ih =>
      intro i hi
      unfold w_Asm_put_L16
      rw [ldO_out (a := r) (by omega), r1, hL.r_149_1, hL.l_151, b2, b4, nI_add, nI_clamp (by omega), nI_clamp (by omega), ldO_out (a := r + 1) (by omega)]
      refine ⟨fun y => absurd y (nI_ge (by omega) (by omega)), fun _ => ⟨hL.o_151, fun y => absurd y (nI_ge (by omega) (by omega)), fun _ => ⟨b3, vp_in_nI (by omega) (by decide), vp_in_nI (by omega) (by omega), fun M10 e10 v11 e11 => ?_⟩⟩⟩
      have := ldO_s (M := M) (h := 150) (st := asmS sd (p - 2) + q) (i := i) (f := M (r + 1))
      have e10' : M10 = ldO M 150 (asmS sd (p - 2) + q) (i + 1) (M (r + 1)) := by rw [← this]; exact e10
      rw [e10', e11, nI_1]
      exact ih (i + 1) (by omega)
  have := lp z 0 (by omega)
  rw [ldO_0] at this
  exact this
theorem wm_gatherL (hM : LM T2 R2) (h3 : 3 ≤ p) (h6 : p ≤ 6) (hz : q + z ≤ 48) {Q : mM → Prop} (hq : ∃ N32, w_Mo_gather_L32 34 T2 R2 Q 1 N32 (ldO M2 31 (48 * (p - 3) + q) z (fun _ => 1))) : w_Mo_gather 34 T2 R2 M2 1 (nI p) (nI q) (nI z) Q := by
  have i3 : nI p - 3 = nI (p - 3) := nI_sub (b := 3) h3
  refine ⟨hM.ok1, z + 1, ?_⟩
  have lp : ∀ d i, i + d = z → w_Mo_gather_L3 34 T2 R2 Q 1 (nI p) (nI q) (nI z) (d + 1) (nI (q + i)) (ldO M2 31 (48 * (p - 3) + q) i (fun _ => 1)) := by
    intro d
    induction d with
    | zero =>
      intro i hi
      have : i = z := by omega
      subst this
      unfold w_Mo_gather_L3
      rw [nI_add]
      exact ⟨fun _ => hq, fun y => absurd (nI_le (Nat.le_refl _) (by omega)) y⟩
    | succ d ih =>
      intro i hi
      unfold w_Mo_gather_L3
      simp only [hM.r_11, hM.r_12, hM.r_13, hM.r_14, hM.r_15, hM.r_16, hM.r_17, hM.r_18, hM.r_19, hM.r_20, hM.r_21, hM.r_22, hM.r_23, hM.r_24, hM.r_25, hM.r_26, hM.r_27, hM.r_28, hM.r_29, hM.r_30, hM.r_31, hM.r_32, hM.r_33, hM.r_34, hM.r_35, hM.r_36, hM.r_37, hM.r_38, hM.r_39, hM.r_40, hM.r_41, hM.r_42, hM.r_43, hM.l_2, hM.l_3, hM.l_4, hM.l_5, hM.l_6, hM.l_7, hM.l_8, hM.l_9, hM.l_10, hM.l_11, hM.l_12, hM.l_13, hM.l_14, hM.l_15, hM.l_16, hM.l_17, hM.l_18, hM.l_19, hM.l_20, hM.l_21, hM.l_22, hM.l_23, hM.l_24, hM.l_25, hM.l_26, hM.l_27, hM.l_28, hM.l_29, hM.l_30, hM.l_31, hM.l_32, hM.l_33, hM.l_34]
      rw [nI_add, i3, show (48 : Int32) * nI (p - 3) + nI (q + i) = nI (48 * (p - 3) + (q + i)) from i12 (a := 48), nI_clamp (by omega)]
      refine ⟨fun y => absurd y (nI_ge (by omega) (by omega)), fun _ => ⟨hM.o_32, vp_in_nI (by omega) (by decide), fun M23 e23 v24 e24 => ?_⟩⟩
      have := ldO_s (M := M2) (h := 31) (st := 48 * (p - 3) + q) (i := i) (f := fun _ => 1)
      have e23' : M23 = ldO M2 31 (48 * (p - 3) + q) (i + 1) (fun _ => 1) := by rw [← this, e23, Nat.add_assoc]
      rw [e23', e24, nI_1]
      exact ih (i + 1) (by omega)
  have := lp z 0 (by omega)
  rw [ldO_0] at this
  exact this
end PC
