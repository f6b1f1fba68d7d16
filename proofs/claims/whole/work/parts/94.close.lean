/-! an ACK closes pieces, by both -/
noncomputable def clM (M : mM) (cb f : Nat) (P : Nat → Prop) : mM := fun a j => @ite Int32 (j = 7 ∧ ∃ q, q < f ∧ a = cb + (8 + 3 * q) ∧ P q) (Classical.propDecidable _) 0 (M a j)
noncomputable def clN (M : mM) (s f : Nat) (P : Nat → Prop) : mM := fun a j => @ite Int32 (a = 24 ∧ ∃ q, q < f ∧ j = 12 * s + q ∧ P q) (Classical.propDecidable _) 0 (M a j)
section CL
variable {sd : Int32} {mt k c s cb nf w m i f : Nat} {U V U' V' : mM} {hs : Nat → Int32} {dl : Int32} {T T2 : mT} {R R2 : mR} {M M2 : mM} {P P' : Nat → Prop}
theorem clM_yes {q : Nat} (h : q < f) (hp : P q) : clM M cb f P (cb + (8 + 3 * q)) 7 = 0 := by
  unfold clM; exact if_pos ⟨rfl, q, h, rfl, hp⟩
theorem clM_no {q : Nat} (hp : ¬ (q < f ∧ P q)) : clM M cb f P (cb + (8 + 3 * q)) 7 = M (cb + (8 + 3 * q)) 7 := by
  unfold clM; exact if_neg (fun ⟨_, q', h1, h2, h3⟩ => hp (by rw [show q = q' by omega]; exact ⟨h1, h3⟩))
theorem clM_j {a j : Nat} (h : j ≠ 7) : clM M cb f P a j = M a j := by
  unfold clM; exact if_neg (fun q => h q.1)
theorem clM_a {a : Nat} (h : ∀ q, q < f → a ≠ cb + (8 + 3 * q)) : clM M cb f P a = M a := by
  funext j; unfold clM; exact if_neg (fun ⟨_, q, h1, h2, _⟩ => h q h1 h2)
theorem clN_yes {q : Nat} (h : q < f) (hp : P q) : clN M s f P 24 (12 * s + q) = 0 := by
  unfold clN; exact if_pos ⟨rfl, q, h, rfl, hp⟩
theorem clN_no {q : Nat} (hp : ¬ (q < f ∧ P q)) : clN M s f P 24 (12 * s + q) = M 24 (12 * s + q) := by
  unfold clN; exact if_neg (fun ⟨_, q', h1, h2, h3⟩ => hp (by rw [show q = q' by omega]; exact ⟨h1, h3⟩))
theorem clN_a {a : Nat} (h : a ≠ 24) : clN M s f P a = M a := by
  funext j; unfold clN; exact if_neg (fun q => h q.1)
theorem clN_o {j : Nat} (h : j < 12 * s ∨ 12 * s + f ≤ j) : clN M s f P 24 j = M 24 j := by
  unfold clN; exact if_neg (fun ⟨_, q, h1, h2, _⟩ => by omega)
/-- the same cells with all that is closed -/
theorem clM_eq {N : mM} (h1 : ∀ q, q < f → P q → N (cb + (8 + 3 * q)) 7 = 0) (h2 : ∀ a j, ¬ (j = 7 ∧ ∃ q, q < f ∧ a = cb + (8 + 3 * q) ∧ P q) → N a j = M a j) : N = clM M cb f P := by
  funext a j
  unfold clM
  by_cases y : j = 7 ∧ ∃ q, q < f ∧ a = cb + (8 + 3 * q) ∧ P q
  · rw [if_pos y]
    obtain ⟨rfl, q, a1, rfl, a3⟩ := y
    exact h1 q a1 a3
  · rw [if_neg y]; exact h2 a j y
theorem clN_eq {N : mM} (h1 : ∀ q, q < f → P q → N 24 (12 * s + q) = 0) (h2 : ∀ a j, ¬ (a = 24 ∧ ∃ q, q < f ∧ j = 12 * s + q ∧ P q) → N a j = M a j) : N = clN M s f P := by
  funext a j
  unfold clN
  by_cases y : a = 24 ∧ ∃ q, q < f ∧ j = 12 * s + q ∧ P q
  · rw [if_pos y]
    obtain ⟨rfl, q, a1, rfl, a3⟩ := y
    exact h1 q a1 a3
  · rw [if_neg y]; exact h2 a j y
theorem clM_0 (h : ∀ q, q < f → ¬ P q) : clM M cb f P = M := by
  funext a j; unfold clM; exact if_neg (fun ⟨_, q, h1, _, h3⟩ => h q h1 h3)
theorem clN_0 (h : ∀ q, q < f → ¬ P q) : clN M s f P = M := by
  funext a j; unfold clN; exact if_neg (fun ⟨_, q, h1, _, h3⟩ => h q h1 h3)
theorem clM_congr (h : ∀ q, q < f → (P q ↔ P' q)) : clM M cb f P = clM M cb f P' := by
  refine clM_eq (fun q h1 h2 => clM_yes h1 ((h q h1).mpr h2)) (fun a j y => ?_)
  unfold clM
  exact if_neg (fun ⟨y1, q, h1, h2, h3⟩ => y ⟨y1, q, h1, h2, (h q h1).mp h3⟩)
theorem wc_wasSent (hS : LSd T R cb nf) {j sn : Nat} (hj : j < nf) (hsn : sn ≤ 7) (h6 : M (cb + (8 + 3 * j)) 6 = nI sn) {x : Int32} {Q : Int32 → Prop} (h1 : (∃ i, i < sn ∧ M (cb + (10 + 3 * j)) i = x) → Q 1) (h0 : ¬ (∃ i, i < sn ∧ M (cb + (10 + 3 * j)) i = x) → Q 0) : w_Frag_wasSentIn 200 T R M (cb + (8 + 3 * j)) x Q := by
  have ⟨s1, s2, s3, s4, s5, s6, s7, s8⟩ := hS.2.2.2.2.2.2.2.1 j hj
  refine ⟨s2, sn + 1, ?_⟩
  have lp : ∀ d i, i + d = sn → (∀ i', i' < i → ¬ M (cb + (10 + 3 * j)) i' = x) → w_Frag_wasSentIn_L2 200 T R M Q (cb + (8 + 3 * j)) x (d + 1) (nI i) := by
    intro d
    induction d with
    | zero =>
      intro i hi hno
      have : i = sn := by omega
      subst this
      unfold w_Frag_wasSentIn_L2
      rw [h6]
      exact ⟨fun _ => h0 fun ⟨i', z1, z2⟩ => hno i' z1 z2, fun y => absurd (nI_le (Nat.le_refl i) (by omega)) y⟩
    | succ d ih =>
      intro i hi hno
      unfold w_Frag_wasSentIn_L2
      rw [h6, s4, s8, nI_clamp (by omega)]
      refine ⟨fun y => absurd y (nI_ge (by omega) (by omega)), fun _ => ⟨s7, vp_in_nI (by omega) (by decide), fun y => h1 ⟨i, by omega, y⟩, fun y v4 e4 => ?_⟩⟩
      rw [e4, nI_1]
      refine ih (i + 1) (by omega) (fun i' z => ?_)
      rcases (show i' < i ∨ i' = i by omega) with z | z
      · exact hno i' z
      · rw [z]; exact y
  exact lp sn 0 (by omega) (fun i' z => absurd z (Nat.not_lt_zero i'))
theorem wc_closeSent (hS : LSd T R cb nf) (hf : f ≤ nf) (h61 : M (cb + 6) 1 = nI f) {sn : Nat → Nat} (hsn : ∀ j, j < f → sn j ≤ 7 ∧ M (cb + (8 + 3 * j)) 6 = nI (sn j)) {x : Int32} {Q : mM → Prop} (hq : Q (clM M cb f (fun j => ∃ i, i < sn j ∧ M (cb + (10 + 3 * j)) i = x))) : w_Flight_closeSentIn 200 T R M (cb + 6) x Q := by
  have ⟨g61, g62, g71, g72⟩ := hS.2.2.2.2.2.2.1
  have hnf := hS.2.2.2.2.2.2.2.2.2.2.2
  refine ⟨g61, f + 1, ?_⟩
  have lp : ∀ d i, i + d = f → w_Flight_closeSentIn_L2 200 T R Q (cb + 6) x (d + 1) (nI i) (clM M cb i (fun j => ∃ i, i < sn j ∧ M (cb + (10 + 3 * j)) i = x)) := by
    intro d
    induction d with
    | zero =>
      intro i hi
      have : i = f := by omega
      subst this
      unfold w_Flight_closeSentIn_L2
      rw [clM_a (a := cb + 6) (fun q _ => by omega), h61]
      exact ⟨fun _ => hq, fun y => absurd (nI_le (Nat.le_refl i) (by omega)) y⟩
    | succ d ih =>
      intro i hi
      have ⟨s1, s2, _⟩ := hS.2.2.2.2.2.2.2.1 i (by omega)
      unfold w_Flight_closeSentIn_L2
      rw [clM_a (a := cb + 6) (fun q _ => by omega), h61, g62, g72, nI_clamp (by omega), s1]
      have a6 : clM M cb i (fun j => ∃ i, i < sn j ∧ M (cb + (10 + 3 * j)) i = x) (cb + (8 + 3 * i)) 6 = nI (sn i) := by rw [clM_j (by decide)]; exact (hsn i (by omega)).2
      have a10 : clM M cb i (fun j => ∃ i, i < sn j ∧ M (cb + (10 + 3 * j)) i = x) (cb + (10 + 3 * i)) = M (cb + (10 + 3 * i)) := clM_a (fun q _ => by omega)
      refine ⟨fun y => absurd y (nI_ge (by omega) (by omega)), fun _ => ⟨g71, vp_in_nI (by omega) (by omega), s2, wc_wasSent hS (by omega) (hsn i (by omega)).1 a6 (fun y => ⟨fun z => absurd z (by decide), fun _ => ⟨vp_in_nI (by omega) (by omega), fun M9 e9 v10 e10 => ?_⟩⟩) (fun y => ⟨fun _ v7 e7 => ?_, fun z => absurd rfl z⟩)⟩⟩
      · rw [e10, nI_1]
        rw [a10] at y
        have : M9 = clM M cb (i + 1) (fun j => ∃ i, i < sn j ∧ M (cb + (10 + 3 * j)) i = x) := by
          rw [e9]
          refine clM_eq (fun q h1 h2 => ?_) (fun a j z => ?_)
          · rw [sMt]
            by_cases y2 : q = i
            · rw [if_pos ⟨by rw [y2], rfl⟩]
            · rw [if_neg (by omega), clM_yes (by omega) h2]
          · rw [sMt, if_neg (fun w => z ⟨w.2, i, by omega, w.1, y⟩)]
            unfold clM
            exact if_neg (fun ⟨z1, q, z2, z3, z4⟩ => z ⟨z1, q, by omega, z3, z4⟩)
        rw [this]
        exact ih (i + 1) (by omega)
      · rw [e7, nI_1]
        rw [a10] at y
        have : clM M cb i (fun j => ∃ i, i < sn j ∧ M (cb + (10 + 3 * j)) i = x) = clM M cb (i + 1) (fun j => ∃ i, i < sn j ∧ M (cb + (10 + 3 * j)) i = x) := by
          refine clM_eq (fun q h1 h2 => ?_) (fun a j z => ?_)
          · by_cases y2 : q = i
            · rw [y2] at h2; exact absurd h2 y
            · exact clM_yes (by omega) h2
          · unfold clM
            exact if_neg (fun ⟨z1, q, z2, z3, z4⟩ => z ⟨z1, q, by omega, z3, z4⟩)
        rw [this]
        exact ih (i + 1) (by omega)
  have := lp f 0 (by omega)
  rw [clM_0 (fun q hq => absurd hq (Nat.not_lt_zero q))] at this
  exact this
/-- the class: all pieces that went out in a named record are closed -/
theorem wc_closeNamed (hS : LSd T R cb nf) (hL : LC sd T R) (hf : f ≤ nf) (h61 : M (cb + 6) 1 = nI f) {sn : Nat → Nat} (hsn : ∀ j, j < f → sn j ≤ 7 ∧ M (cb + (8 + 3 * j)) 6 = nI (sn j)) {r z : Nat} (hr : isRec r) (hz : z ≤ 8) (r1 : M r 1 = nI z) {Q : mM → Prop} (hq : Q (clM M cb f (fun j => ∃ x, x < z ∧ ∃ i, i < sn j ∧ M (cb + (10 + 3 * j)) i = M (r + 1) x))) : w_Side_closeNamed 200 T R M cb r Q := by
  have ⟨g0, ⟨_, g3, _⟩, _, _, _, _, ⟨g61, g62, g71, g72⟩, _, ⟨g9, _⟩⟩ := hS
  obtain ⟨b1, b2, b3, b4⟩ := hL.rec hr
  have hr2 := hr.2.2
  refine ⟨g0, z + 1, ?_⟩
  have lp : ∀ d i, i + d = z → w_Side_closeNamed_L2 200 T R Q cb r (d + 1) (nI i) (clM M cb f (fun j => ∃ x, x < i ∧ ∃ i, i < sn j ∧ M (cb + (10 + 3 * j)) i = M (r + 1) x)) := by
    intro d
    induction d with
    | zero =>
      intro i hi
      have : i = z := by omega
      subst this
      unfold w_Side_closeNamed_L2
      rw [clM_a (a := r) (fun q _ => by omega), r1]
      exact ⟨b1, fun _ => hq, fun y => absurd (nI_le (Nat.le_refl i) (by omega)) y⟩
    | succ d ih =>
      intro i hi
      unfold w_Side_closeNamed_L2
      rw [clM_a (a := r) (fun q _ => by omega), r1, g3, b2, b4, nI_clamp (by omega), clM_a (a := r + 1) (fun q _ => by omega)]
      refine ⟨b1, fun y => absurd y (nI_ge (by omega) (by omega)), fun _ => ⟨g61, b3, vp_in_nI (by omega) (by decide), wc_closeSent hS hf (by rw [clM_a (a := cb + 6) (fun q _ => by omega)]; exact h61) (sn := sn) (fun j hj => ⟨(hsn j hj).1, by rw [clM_j (by decide)]; exact (hsn j hj).2⟩) (fun v7 e7 => ?_)⟩⟩
      rw [e7, nI_1]
      have : clM (clM M cb f (fun j => ∃ x, x < i ∧ ∃ i, i < sn j ∧ M (cb + (10 + 3 * j)) i = M (r + 1) x)) cb f (fun j => ∃ i_1, i_1 < sn j ∧ clM M cb f (fun j => ∃ x, x < i ∧ ∃ i, i < sn j ∧ M (cb + (10 + 3 * j)) i = M (r + 1) x) (cb + (10 + 3 * j)) i_1 = M (r + 1) i) = clM M cb f (fun j => ∃ x, x < i + 1 ∧ ∃ i, i < sn j ∧ M (cb + (10 + 3 * j)) i = M (r + 1) x) := by
        have c10 : ∀ j, clM M cb f (fun j => ∃ x, x < i ∧ ∃ i, i < sn j ∧ M (cb + (10 + 3 * j)) i = M (r + 1) x) (cb + (10 + 3 * j)) = M (cb + (10 + 3 * j)) := fun j => clM_a (fun q _ => by omega)
        simp only [c10]
        refine clM_eq (fun q h1 h2 => ?_) (fun a j y => ?_)
        · obtain ⟨x, x1, x2⟩ := h2
          by_cases y : x = i
          · rw [y] at x2; exact clM_yes h1 x2
          · by_cases y2 : ∃ i_1, i_1 < sn q ∧ M (cb + (10 + 3 * q)) i_1 = M (r + 1) i
            · exact clM_yes h1 y2
            · rw [clM_no (fun w => y2 w.2)]
              exact clM_yes h1 ⟨x, by omega, x2⟩
        · unfold clM
          rw [if_neg (fun ⟨z1, q, z2, z3, z4⟩ => y ⟨z1, q, z2, z3, i, by omega, z4⟩), if_neg (fun ⟨z1, q, z2, z3, x, z4, z5⟩ => y ⟨z1, q, z2, z3, x, by omega, z5⟩)]
      rw [this]
      exact ih (i + 1) (by omega)
  have := lp z 0 (by omega)
  rw [clM_0 (fun q _ ⟨x, hx, _⟩ => absurd hx (Nat.not_lt_zero x))] at this
  exact this
/-- how the reference's closing ends -/
def clT (T2 : mT) (R2 : mR) (Q : mM → Prop) (s : Nat) (N : mM) : Prop := (nI s = 0 → (ok T2 34 12 100 ∧ vp_in (0 : Int32) 2 ∧ ((N 12 0 = (3 : Int32) → w_Mo_openOf 34 T2 R2 N 1 (0 : Int32) (fun r6 => ((r6 = 0 → w_Mo_become 34 T2 R2 N 1 (0 : Int32) (4 : Int32) (fun M7 => Q M7)) ∧ (¬ r6 = 0 → Q N)))) ∧ (¬ N 12 0 = (3 : Int32) → Q N)))) ∧ (¬ nI s = 0 → Q N)
theorem wm_close (hM : LM T2 R2) (hs : s ≤ 1) (hi : i < 60) {tm z : Nat} (hf : f ≤ 12) (hz : z ≤ 8) (h7 : M2 7 i = nI z) (h21 : M2 21 s = nI f) (ht : 0 < f → tm ≤ 80 ∧ M2 25 s = nI tm ∧ ∀ t, t < tm → ∃ j, j < f ∧ M2 28 (80 * s + t) = nI j) {Q : mM → Prop} (hq : clT T2 R2 Q s (clN M2 s f (fun j => ∃ x, x < z ∧ ∃ t, t < tm ∧ M2 28 (80 * s + t) = nI j ∧ M2 26 (80 * s + t) = M2 10 (8 * i + x) ∧ M2 27 (80 * s + t) = M2 11 (8 * i + x)))) : w_Mo_close 34 T2 R2 M2 1 (nI s) (nI i) Q := by
  have vs : vp_in (nI s) 2 := vp_in_nI (by omega) (by decide)
  refine ⟨hM.ok1, z + 1, ?_⟩
  have lp : ∀ d x, x + d = z → w_Mo_close_L2 34 T2 R2 Q 1 (nI s) (nI i) (d + 1) (nI x) (clN M2 s f (fun j => ∃ x', x' < x ∧ ∃ t, t < tm ∧ M2 28 (80 * s + t) = nI j ∧ M2 26 (80 * s + t) = M2 10 (8 * i + x') ∧ M2 27 (80 * s + t) = M2 11 (8 * i + x'))) := by
    intro d
    induction d with
    | zero =>
      intro x hx
      have : x = z := by omega
      subst this
      unfold w_Mo_close_L2
      simp only [hM.r_11, hM.r_12, hM.r_13, hM.r_14, hM.r_15, hM.r_16, hM.r_17, hM.r_18, hM.r_19, hM.r_20, hM.r_21, hM.r_22, hM.r_23, hM.r_24, hM.r_25, hM.r_26, hM.r_27, hM.r_28, hM.r_29, hM.r_30, hM.r_31, hM.r_32, hM.r_33, hM.r_34, hM.r_35, hM.r_36, hM.r_37, hM.r_38, hM.r_39, hM.r_40, hM.r_41, hM.r_42, hM.r_43, hM.l_2, hM.l_3, hM.l_4, hM.l_5, hM.l_6, hM.l_7, hM.l_8, hM.l_9, hM.l_10, hM.l_11, hM.l_12, hM.l_13, hM.l_14, hM.l_15, hM.l_16, hM.l_17, hM.l_18, hM.l_19, hM.l_20, hM.l_21, hM.l_22, hM.l_23, hM.l_24, hM.l_25, hM.l_26, hM.l_27, hM.l_28, hM.l_29, hM.l_30, hM.l_31, hM.l_32, hM.l_33, hM.l_34]
      rw [nI_clamp (by omega), clN_a (a := 7) (by decide), h7]
      exact ⟨hM.o_7, vp_in_nI (by omega) (by decide), fun _ => hq, fun y => absurd (nI_le (Nat.le_refl x) (by omega)) y⟩
    | succ d ih =>
      intro x hx
      unfold w_Mo_close_L2
      simp only [hM.r_11, hM.r_12, hM.r_13, hM.r_14, hM.r_15, hM.r_16, hM.r_17, hM.r_18, hM.r_19, hM.r_20, hM.r_21, hM.r_22, hM.r_23, hM.r_24, hM.r_25, hM.r_26, hM.r_27, hM.r_28, hM.r_29, hM.r_30, hM.r_31, hM.r_32, hM.r_33, hM.r_34, hM.r_35, hM.r_36, hM.r_37, hM.r_38, hM.r_39, hM.r_40, hM.r_41, hM.r_42, hM.r_43, hM.l_2, hM.l_3, hM.l_4, hM.l_5, hM.l_6, hM.l_7, hM.l_8, hM.l_9, hM.l_10, hM.l_11, hM.l_12, hM.l_13, hM.l_14, hM.l_15, hM.l_16, hM.l_17, hM.l_18, hM.l_19, hM.l_20, hM.l_21, hM.l_22, hM.l_23, hM.l_24, hM.l_25, hM.l_26, hM.l_27, hM.l_28, hM.l_29, hM.l_30, hM.l_31, hM.l_32, hM.l_33, hM.l_34]
      rw [nI_clamp (by omega), clN_a (a := 7) (by decide), h7]
      refine ⟨hM.o_7, vp_in_nI (by omega) (by decide), fun y => absurd y (nI_ge (by omega) (by omega)), fun _ => ?_⟩
      have ih' := ih (x + 1) (by omega)
      rcases Nat.eq_zero_or_pos f with f0 | f0
      · -- no pieces
        subst f0
        rw [clN_0 (fun q hq => absurd hq (Nat.not_lt_zero q))] at ih' ⊢
        refine ⟨1, ?_⟩
        unfold w_Mo_close_L15
        simp only [hM.r_11, hM.r_12, hM.r_13, hM.r_14, hM.r_15, hM.r_16, hM.r_17, hM.r_18, hM.r_19, hM.r_20, hM.r_21, hM.r_22, hM.r_23, hM.r_24, hM.r_25, hM.r_26, hM.r_27, hM.r_28, hM.r_29, hM.r_30, hM.r_31, hM.r_32, hM.r_33, hM.r_34, hM.r_35, hM.r_36, hM.r_37, hM.r_38, hM.r_39, hM.r_40, hM.r_41, hM.r_42, hM.r_43, hM.l_2, hM.l_3, hM.l_4, hM.l_5, hM.l_6, hM.l_7, hM.l_8, hM.l_9, hM.l_10, hM.l_11, hM.l_12, hM.l_13, hM.l_14, hM.l_15, hM.l_16, hM.l_17, hM.l_18, hM.l_19, hM.l_20, hM.l_21, hM.l_22, hM.l_23, hM.l_24, hM.l_25, hM.l_26, hM.l_27, hM.l_28, hM.l_29, hM.l_30, hM.l_31, hM.l_32, hM.l_33, hM.l_34]
        rw [nI_clamp (by omega), h21]
        refine ⟨hM.o_25, vs, fun _ v11 e11 => ?_, fun _ => ⟨hM.o_21, vs, fun _ v14 e14 => ?_, fun y => absurd (by decide) y⟩⟩
        · rw [e11, nI_1]; exact ih'
        · rw [e14, nI_1]; exact ih'
      · obtain ⟨t1, t2, t3⟩ := ht f0
        refine ⟨tm + 1, ?_⟩
        have lt : ∀ d' t, t + d' = tm → w_Mo_close_L15 34 T2 R2 Q (fun a0 a1 a2 a3 M => w_Mo_close_L2 34 T2 R2 Q a0 a1 a2 (d + 1) a3 M) 1 (nI s) (nI i) (nI x) (d' + 1) (nI t) (clN M2 s f (fun j => (∃ x', x' < x ∧ ∃ t, t < tm ∧ M2 28 (80 * s + t) = nI j ∧ M2 26 (80 * s + t) = M2 10 (8 * i + x') ∧ M2 27 (80 * s + t) = M2 11 (8 * i + x')) ∨ ∃ t', t' < t ∧ M2 28 (80 * s + t') = nI j ∧ M2 26 (80 * s + t') = M2 10 (8 * i + x) ∧ M2 27 (80 * s + t') = M2 11 (8 * i + x))) := by
          intro d'
          induction d' with
          | zero =>
            intro t ht'
            have : t = tm := by omega
            subst this
            unfold w_Mo_close_L15
            simp only [hM.r_11, hM.r_12, hM.r_13, hM.r_14, hM.r_15, hM.r_16, hM.r_17, hM.r_18, hM.r_19, hM.r_20, hM.r_21, hM.r_22, hM.r_23, hM.r_24, hM.r_25, hM.r_26, hM.r_27, hM.r_28, hM.r_29, hM.r_30, hM.r_31, hM.r_32, hM.r_33, hM.r_34, hM.r_35, hM.r_36, hM.r_37, hM.r_38, hM.r_39, hM.r_40, hM.r_41, hM.r_42, hM.r_43, hM.l_2, hM.l_3, hM.l_4, hM.l_5, hM.l_6, hM.l_7, hM.l_8, hM.l_9, hM.l_10, hM.l_11, hM.l_12, hM.l_13, hM.l_14, hM.l_15, hM.l_16, hM.l_17, hM.l_18, hM.l_19, hM.l_20, hM.l_21, hM.l_22, hM.l_23, hM.l_24, hM.l_25, hM.l_26, hM.l_27, hM.l_28, hM.l_29, hM.l_30, hM.l_31, hM.l_32, hM.l_33, hM.l_34]
            rw [nI_clamp (by omega), clN_a (a := 25) (by decide), t2]
            refine ⟨hM.o_25, vs, fun _ v11 e11 => ?_, fun y => absurd (nI_le (Nat.le_refl t) (by omega)) y⟩
            rw [e11, nI_1]
            have : clN M2 s f (fun j => (∃ x', x' < x ∧ ∃ t', t' < t ∧ M2 28 (80 * s + t') = nI j ∧ M2 26 (80 * s + t') = M2 10 (8 * i + x') ∧ M2 27 (80 * s + t') = M2 11 (8 * i + x')) ∨ ∃ t', t' < t ∧ M2 28 (80 * s + t') = nI j ∧ M2 26 (80 * s + t') = M2 10 (8 * i + x) ∧ M2 27 (80 * s + t') = M2 11 (8 * i + x)) = clN M2 s f (fun j => ∃ x', x' < x + 1 ∧ ∃ t', t' < t ∧ M2 28 (80 * s + t') = nI j ∧ M2 26 (80 * s + t') = M2 10 (8 * i + x') ∧ M2 27 (80 * s + t') = M2 11 (8 * i + x')) := by
              congr 1
              funext j
              refine propext ⟨fun h => ?_, fun ⟨x', h1, h2⟩ => ?_⟩
              · rcases h with ⟨x', h1, h2⟩ | h
                · exact ⟨x', by omega, h2⟩
                · exact ⟨x, by omega, h⟩
              · by_cases y : x' = x
                · rw [y] at h2; exact Or.inr h2
                · exact Or.inl ⟨x', by omega, h2⟩
            rw [this]
            exact ih'
          | succ d' iht =>
            intro t ht'
            obtain ⟨jj, hj1, hj2⟩ := t3 t (by omega)
            unfold w_Mo_close_L15
            simp only [hM.r_11, hM.r_12, hM.r_13, hM.r_14, hM.r_15, hM.r_16, hM.r_17, hM.r_18, hM.r_19, hM.r_20, hM.r_21, hM.r_22, hM.r_23, hM.r_24, hM.r_25, hM.r_26, hM.r_27, hM.r_28, hM.r_29, hM.r_30, hM.r_31, hM.r_32, hM.r_33, hM.r_34, hM.r_35, hM.r_36, hM.r_37, hM.r_38, hM.r_39, hM.r_40, hM.r_41, hM.r_42, hM.r_43, hM.l_2, hM.l_3, hM.l_4, hM.l_5, hM.l_6, hM.l_7, hM.l_8, hM.l_9, hM.l_10, hM.l_11, hM.l_12, hM.l_13, hM.l_14, hM.l_15, hM.l_16, hM.l_17, hM.l_18, hM.l_19, hM.l_20, hM.l_21, hM.l_22, hM.l_23, hM.l_24, hM.l_25, hM.l_26, hM.l_27, hM.l_28, hM.l_29, hM.l_30, hM.l_31, hM.l_32, hM.l_33, hM.l_34]
            have i80 : (80 : Int32) * nI s + nI t = nI (80 * s + t) := i12 (a := 80)
            have i8 : (8 : Int32) * nI i + nI x = nI (8 * i + x) := i12 (a := 8)
            rw [nI_clamp (n := s) (by omega), clN_a (a := 25) (by decide), t2, clN_a (a := 21) (by decide), h21, i80, i8]
            refine ⟨hM.o_25, vs, fun y => absurd y (nI_ge (by omega) (by omega)), fun _ => ⟨hM.o_21, vs, fun y => absurd y (nI_nle f0 (by omega)), fun _ v15 e15 => ?_⟩⟩
            subst e15
            have i12' : (12 : Int32) * nI s + nI jj = nI (12 * s + jj) := i12 (a := 12)
            rw [nI_clamp (n := 80 * s + t) (by omega), nI_clamp (n := 8 * i + x) (by omega), clN_a (a := 26) (by decide), clN_a (a := 10) (by decide), clN_a (a := 27) (by decide), clN_a (a := 11) (by decide), clN_a (a := 28) (by decide), hj2, i12', nI_clamp (n := 12 * s + jj) (by omega)]
            have keep : ¬ (M2 26 (80 * s + t) = M2 10 (8 * i + x) ∧ M2 27 (80 * s + t) = M2 11 (8 * i + x)) → w_Mo_close_L15 34 T2 R2 Q (fun a0 a1 a2 a3 M => w_Mo_close_L2 34 T2 R2 Q a0 a1 a2 (d + 1) a3 M) 1 (nI s) (nI i) (nI x) (d' + 1) (nI (t + 1)) (clN M2 s f (fun j => (∃ x', x' < x ∧ ∃ t, t < tm ∧ M2 28 (80 * s + t) = nI j ∧ M2 26 (80 * s + t) = M2 10 (8 * i + x') ∧ M2 27 (80 * s + t) = M2 11 (8 * i + x')) ∨ ∃ t', t' < t ∧ M2 28 (80 * s + t') = nI j ∧ M2 26 (80 * s + t') = M2 10 (8 * i + x) ∧ M2 27 (80 * s + t') = M2 11 (8 * i + x))) := by
              intro hno
              have e := iht (t + 1) (by omega)
              have : (fun j => (∃ x', x' < x ∧ ∃ t, t < tm ∧ M2 28 (80 * s + t) = nI j ∧ M2 26 (80 * s + t) = M2 10 (8 * i + x') ∧ M2 27 (80 * s + t) = M2 11 (8 * i + x')) ∨ ∃ t', t' < t + 1 ∧ M2 28 (80 * s + t') = nI j ∧ M2 26 (80 * s + t') = M2 10 (8 * i + x) ∧ M2 27 (80 * s + t') = M2 11 (8 * i + x)) = (fun j => (∃ x', x' < x ∧ ∃ t, t < tm ∧ M2 28 (80 * s + t) = nI j ∧ M2 26 (80 * s + t) = M2 10 (8 * i + x') ∧ M2 27 (80 * s + t) = M2 11 (8 * i + x')) ∨ ∃ t', t' < t ∧ M2 28 (80 * s + t') = nI j ∧ M2 26 (80 * s + t') = M2 10 (8 * i + x) ∧ M2 27 (80 * s + t') = M2 11 (8 * i + x)) := by
                funext j
                refine propext (or_congr Iff.rfl ⟨fun ⟨t', h1, h2⟩ => ?_, fun ⟨t', h1, h2⟩ => ⟨t', by omega, h2⟩⟩)
                by_cases y : t' = t
                · rw [y] at h2; exact absurd h2.2 hno
                · exact ⟨t', by omega, h2⟩
              rw [this] at e
              exact e
            refine ⟨hM.o_26, vp_in_nI (by omega) (by decide), hM.o_10, vp_in_nI (by omega) (by decide), fun y1 => ⟨hM.o_27, vp_in_nI (by omega) (by decide), hM.o_11, vp_in_nI (by omega) (by decide), fun y2 => ⟨hM.o_24, hM.o_28, vp_in_nI (by omega) (by decide), vp_in_nI (by omega) (by decide), fun M28 e28 v29 e29 => ?_⟩, fun y2 v30 e30 => ?_⟩, fun y1 v31 e31 => ?_⟩
            · rw [e29, nI_1]
              have : M28 = clN M2 s f (fun j => (∃ x', x' < x ∧ ∃ t, t < tm ∧ M2 28 (80 * s + t) = nI j ∧ M2 26 (80 * s + t) = M2 10 (8 * i + x') ∧ M2 27 (80 * s + t) = M2 11 (8 * i + x')) ∨ ∃ t', t' < t + 1 ∧ M2 28 (80 * s + t') = nI j ∧ M2 26 (80 * s + t') = M2 10 (8 * i + x) ∧ M2 27 (80 * s + t') = M2 11 (8 * i + x)) := by
                rw [e28]
                refine clN_eq (fun q h1 h2 => ?_) (fun a j z => ?_)
                · rw [sMt]
                  by_cases y : q = jj
                  · rw [if_pos ⟨rfl, by rw [y]⟩]
                  · rw [if_neg (by omega)]
                    refine clN_yes h1 ?_
                    rcases h2 with h2 | ⟨t', h3, h4⟩
                    · exact Or.inl h2
                    · by_cases y3 : t' = t
                      · rw [y3, hj2] at h4
                        have := (nI_eq (by omega) (by omega)).mp h4.1
                        omega
                      · exact Or.inr ⟨t', by omega, h4⟩
                · rw [sMt, if_neg (fun w => z ⟨w.1, jj, hj1, w.2, Or.inr ⟨t, by omega, hj2, y1, y2⟩⟩)]
                  unfold clN
                  refine if_neg (fun ⟨z1, q, z2, z3, z4⟩ => z ⟨z1, q, z2, z3, ?_⟩)
                  rcases z4 with z4 | ⟨t', h3, h4⟩
                  · exact Or.inl z4
                  · exact Or.inr ⟨t', by omega, h4⟩
              rw [this]
              exact iht (t + 1) (by omega)
            · rw [e30, nI_1]; exact keep (fun w => y2 w.2)
            · rw [e31, nI_1]; exact keep (fun w => y1 w.1)
        have := lt tm 0 (by omega)
        have e0 : (fun j => (∃ x', x' < x ∧ ∃ t, t < tm ∧ M2 28 (80 * s + t) = nI j ∧ M2 26 (80 * s + t) = M2 10 (8 * i + x') ∧ M2 27 (80 * s + t) = M2 11 (8 * i + x')) ∨ ∃ t', t' < 0 ∧ M2 28 (80 * s + t') = nI j ∧ M2 26 (80 * s + t') = M2 10 (8 * i + x) ∧ M2 27 (80 * s + t') = M2 11 (8 * i + x)) = (fun j => ∃ x', x' < x ∧ ∃ t, t < tm ∧ M2 28 (80 * s + t) = nI j ∧ M2 26 (80 * s + t) = M2 10 (8 * i + x') ∧ M2 27 (80 * s + t) = M2 11 (8 * i + x')) := by
          funext j
          refine propext ⟨fun h => ?_, fun h => Or.inl h⟩
          rcases h with h | ⟨t', h1, _⟩
          · exact h
          · exact absurd h1 (Nat.not_lt_zero t')
        rw [e0] at this
        exact this
  have := lp z 0 (by omega)
  rw [clN_0 (fun q _ ⟨x, hx, _⟩ => absurd hx (Nat.not_lt_zero x))] at this
  exact this
end CL
