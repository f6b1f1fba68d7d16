/-! rows of the net, written; copy -/
def putRec (M : mM) (h : Nat) (F : Nat → Int32) : mM := fun a j => if a = h ∧ 1 ≤ j ∧ j ≤ 8 then F j else M a j
def loadM (M : mM) (h z : Nat) (f : Nat → Int32) : mM := fun a j => if a = h + 1 ∧ j < z then f j else M a j
theorem putRec_s {M : mM} {h j : Nat} {F : Nat → Int32} {v : Int32} (h1 : 1 ≤ j) (h8 : j ≤ 8) : sM (putRec M h F) h j v = putRec M h (upd F j v) := by
  funext a b
  simp only [sMt, putRec, upd]
  by_cases q : a = h ∧ b = j
  · obtain ⟨rfl, rfl⟩ := q
    rw [if_pos ⟨rfl, rfl⟩, if_pos ⟨rfl, h1, h8⟩, if_pos rfl]
  · rw [if_neg q]
    by_cases q2 : a = h ∧ 1 ≤ b ∧ b ≤ 8
    · rw [if_pos q2, if_pos q2, if_neg (by omega)]
    · rw [if_neg q2, if_neg q2]
theorem putRec_0 {M : mM} {h : Nat} : putRec M h (M h) = M := by
  funext a b
  simp only [putRec]
  split
  · rename_i q; rw [q.1]
  · rfl
theorem putRec_in {M : mM} {h j : Nat} {F : Nat → Int32} (h1 : 1 ≤ j) (h8 : j ≤ 8) : putRec M h F h j = F j := if_pos ⟨rfl, h1, h8⟩
theorem putRec_out {M : mM} {h a : Nat} {F : Nat → Int32} (h1 : a ≠ h) : putRec M h F a = M a := by funext j; exact if_neg (fun q => h1 q.1)
theorem loadM_s {M : mM} {h i : Nat} {f : Nat → Int32} : sM (loadM M h i f) (h + 1) i (f i) = loadM M h (i + 1) f := by
  funext a j
  simp only [sMt, loadM]
  by_cases q : a = h + 1 ∧ j = i
  · obtain ⟨rfl, rfl⟩ := q
    rw [if_pos ⟨rfl, rfl⟩, if_pos ⟨rfl, by omega⟩]
  · rw [if_neg q]
    by_cases q2 : a = h + 1 ∧ j < i
    · rw [if_pos q2, if_pos (by omega)]
    · rw [if_neg q2, if_neg (by omega)]
theorem loadM_0 {M : mM} {h : Nat} {f : Nat → Int32} : loadM M h 0 f = M := by
  funext a j
  simp only [loadM]
  rw [if_neg (by omega)]
theorem loadM_out {M : mM} {h a z : Nat} {f : Nat → Int32} (h1 : a ≠ h + 1) : loadM M h z f a = M a := by funext j; exact if_neg (fun q => h1 q.1)
theorem loadM_in {M : mM} {h j z : Nat} {f : Nat → Int32} (h1 : j < z) : loadM M h z f (h + 1) j = f j := if_pos ⟨rfl, h1⟩
theorem loadM_put {M : mM} {h z j : Nat} {f : Nat → Int32} {v : Int32} : sM (loadM M h z f) h j v = loadM (sM M h j v) h z f := by
  funext a b
  simp only [sMt, loadM]
  by_cases q : a = h ∧ b = j
  · rw [if_pos q, if_neg (by omega), if_pos q]
  · rw [if_neg q, if_neg q]
theorem jmin_l {a b : Nat} (h : a ≤ b) (hb : b < 2 ^ 31) : jmin (nI a) (nI b) = nI a := if_neg (fun q => nI_ge (Nat.lt_of_le_of_ne h (fun e => by subst e; exact nI_nlt (Nat.le_refl a) hb q)) hb (nI_le h hb |> fun _ => by
  have : ¬ nI b < nI a := nI_nlt h hb
  exact absurd q this))
theorem jmin_r {a b : Nat} (h : b ≤ a) (ha : a < 2 ^ 31) : jmin (nI a) (nI b) = nI b := by
  by_cases e : b = a
  · subst e; exact if_neg (nI_nlt (Nat.le_refl b) ha)
  · exact if_pos (nI_lt (by omega) ha)
section HO
variable {sd : Int32} {c mt k : Nat} {T T2 : mT} {R R2 : mR} {M M2 N : mM}
theorem wc_hold (hL : LC sd T R) {h src z L : Nat} (hh : isRec h) (ho : ok T 200 src 100) (hl : (T src).2 = L) (hz : z ≤ L) (hz2 : z ≤ 24) (hLs : L ≤ 100) (h1 : src ≠ h) (h2 : src ≠ h + 1) {Q : mM → Prop} (hq : Q (loadM (sM N h 1 (nI z)) h z (N src))) : w_Rec_hold 200 T R N h src (nI z) Q := by
  obtain ⟨g1, g2, g3, g4⟩ := hL.rec hh
  refine ⟨g1, ho, ?_⟩
  rw [g2, g4, hl]
  refine ⟨g3, fun M3 e3 => ⟨z + 1, ?_⟩⟩
  rw [jmin_l hz (by omega), show nI 24 = nI 24 from rfl, jmin_l hz2 (by decide)] at e3
  have lp : ∀ d i, i + d = z → w_Rec_hold_L20 200 T R Q h src (d + 1) (nI i) (loadM M3 h i (N src)) := by
    intro d
    induction d with
    | zero =>
      intro i hi
      unfold w_Rec_hold_L20
      have hi : i = z := by omega
      subst hi
      have : loadM M3 h i (N src) h 1 = nI i := by rw [loadM_out (by omega), e3, sM_e]
      rw [this]
      exact ⟨fun _ => by rw [e3]; exact hq, fun q => absurd (nI_le (Nat.le_refl i) (by omega)) q⟩
    | succ d ih =>
      intro i hi
      unfold w_Rec_hold_L20
      have e1 : loadM M3 h i (N src) h 1 = nI z := by rw [loadM_out (by omega), e3, sM_e]
      have e2 : loadM M3 h i (N src) src = N src := by rw [loadM_out h2, e3, sM_k _ h1]
      rw [e1, g2, g4, hl, nI_clamp (by omega), e2]
      refine ⟨fun q => absurd q (nI_ge (by omega) (by omega)), fun _ => ⟨g3, vp_in_nI (by omega) (by omega), vp_in_nI (by omega) (by decide), fun M9 e9 v10 e10 => ?_⟩⟩
      subst e9; subst e10
      rw [loadM_s, nI_1]
      exact ih (i + 1) (by omega)
  have := lp z 0 (by omega)
  rw [loadM_0] at this
  exact this
/-- the fields of a row, as 'address' leaves them -/
def adF (f k e n : Int32) (G : Nat → Int32) : Nat → Int32 := upd (upd (upd (upd (upd (upd (upd (upd G 2 f) 3 k) 4 e) 5 n) 6 0) 7 0) 1 0) 8 0
theorem wc_address {h : Nat} (ho : ok T 200 h 3) {f k e n : Int32} {Q : mM → Prop} (hq : Q (putRec M h (adF f k e n (M h)))) : w_Rec_address 200 T R M h f k e n Q := by
  refine ⟨ho, fun M1 e1 M2 e2 M3 e3 M4 e4 M5 e5 M6 e6 M7 e7 M8 e8 => ?_⟩
  rw [← putRec_0 (M := M) (h := h), putRec_s (by decide) (by decide)] at e1
  rw [e1, putRec_s (by decide) (by decide)] at e2
  rw [e2, putRec_s (by decide) (by decide)] at e3
  rw [e3, putRec_s (by decide) (by decide)] at e4
  rw [e4, putRec_s (by decide) (by decide)] at e5
  rw [e5, putRec_s (by decide) (by decide)] at e6
  rw [e6, putRec_s (by decide) (by decide)] at e7
  rw [e7, putRec_s (by decide) (by decide)] at e8
  rw [e8]
  have e0 : ∀ F : Nat → Int32, putRec (putRec M h (M h)) h F = putRec M h F := fun F => by rw [putRec_0]
  have e9 : putRec M h (M h) h = M h := by rw [putRec_0]
  exact hq
theorem rec_len {U V : mM} {r i : Nat} (h : recR sd c U V r i) : ∃ z : Nat, z ≤ 24 ∧ U r 1 = nI z := by
  obtain ⟨-, -, -, -, g⟩ := h
  rcases g with ⟨-, p, q, z, c2, -, -, -, -, -, -, c9, -⟩ | ⟨-, -, z, q3, -, q5, -⟩ | ⟨-, -, q, -⟩
  · exact ⟨z, c2.2.2.1, c9⟩
  · exact ⟨z, by omega, q5⟩
  · exact ⟨1, by decide, q⟩
theorem recR_copy {U U' V V' : mM} {r r' i i' z : Nat} (h : recR sd c U V r i) (hz : U r 1 = nI z) (hz24 : z ≤ 24) (h1 : ∀ j, 1 ≤ j → j ≤ 8 → U' r' j = U r j) (h2 : ∀ j, j < z → U' (r' + 1) j = U (r + 1) j) (h3 : ∀ a, 2 ≤ a → a ≤ 9 → V' a i' = V a i) (h4 : ∀ j, j < 8 → V' 10 (8 * i' + j) = V 10 (8 * i + j)) (h5 : ∀ j, j < 8 → V' 11 (8 * i' + j) = V 11 (8 * i + j)) : recR sd c U' V' r' i' := by
  unfold recR at h ⊢
  simp only [h1 1 (by decide) (by decide), h1 2 (by decide) (by decide), h1 3 (by decide) (by decide), h1 4 (by decide) (by decide), h1 5 (by decide) (by decide), h1 6 (by decide) (by decide), h1 7 (by decide) (by decide), h1 8 (by decide) (by decide), h3 2 (by decide) (by decide), h3 3 (by decide) (by decide), h3 4 (by decide) (by decide), h3 5 (by decide) (by decide), h3 6 (by decide) (by decide), h3 7 (by decide) (by decide), h3 8 (by decide) (by decide), h3 9 (by decide) (by decide)]
  obtain ⟨g1, g2, g3, g4, g5⟩ := h
  refine ⟨g1, g2, g3, g4, ?_⟩
  rcases g5 with ⟨q1, p, q, z', q2, q3, q4, q5, q6, q7, q8, q9, q10⟩ | ⟨q1, q2, z', q3, q4, q5, q6⟩ | ⟨q1, q2, q3, q4⟩
  · have : z = z' := (nI_eq (by omega) (by have := q2.2.2.1; omega)).mp (hz.symm.trans q9)
    subst this
    exact Or.inl ⟨q1, p, q, z, q2, q3, q4, q5, q6, q7, q8, q9, fun j hj => by rw [h2 j hj]; exact q10 j hj⟩
  · have : z = z' := (nI_eq (by omega) (by omega)).mp (hz.symm.trans q5)
    subst this
    refine Or.inr (Or.inl ⟨q1, q2, z, q3, q4, q5, fun j hj => ?_⟩)
    have := q6 j hj
    show nameR c (V' 11 (8 * i' + j)) (V' 10 (8 * i' + j)) _
    rw [h4 j (by omega), h5 j (by omega), h2 j hj]
    exact this
  · have : z = 1 := (nI_eq (by omega) (by decide)).mp (hz.symm.trans q3)
    exact Or.inr (Or.inr ⟨q1, q2, q3, by rw [h2 0 (by omega)]; exact q4⟩)
/-- row r' becomes like row r -/
theorem wc_like (hL : LC sd T R) {h r z : Nat} (hh : isRec h) (hr : isRec r) (hne : h ≠ r) (hz : M r 1 = nI z) (hz24 : z ≤ 24) (hs : M r 8 = 0 ∨ M r 8 = 1) {Q : mM → Prop} (hq : ∀ M', (∀ j, 1 ≤ j → j ≤ 8 → M' h j = M r j) → (∀ j, j < z → M' (h + 1) j = M (r + 1) j) → (∀ a, a ≠ h → a ≠ h + 1 → M' a = M a) → Q M') : w_Rec_becomeLike 200 T R M h r Q := by
  have p1 := hh.1
  have p2 := hr.1
  obtain ⟨g1, g2, g3, g4⟩ := hL.rec hh
  obtain ⟨k1, k2, k3, k4⟩ := hL.rec hr
  refine ⟨g1, k1, wc_address g1 ⟨g1, fun M1 e1 M2 e2 => ?_⟩⟩
  rw [putRec_out (Ne.symm hne)] at e1
  rw [e1, putRec_s (by decide) (by decide), putRec_out (Ne.symm hne), putRec_s (by decide) (by decide)] at e2
  rw [k2]
  refine ⟨k3, ?_⟩
  have z1 : M2 r 1 = nI z := by rw [e2, putRec_out (Ne.symm hne)]; exact hz
  rw [z1]
  refine wc_hold hL hh k3 k4 (by omega) hz24 (by decide) (by omega) (by omega) ⟨?_, fun M7 e7 => ?_⟩
  · rw [loadM_out (by omega), sM_k _ (Ne.symm hne), e2, putRec_out (Ne.symm hne)]; exact hs
  · rw [loadM_out (a := r) (by omega), sM_k _ (Ne.symm hne), e2, putRec_out (Ne.symm hne), putRec_s (by decide) (by decide), loadM_put, putRec_s (by decide) (by decide)] at e7
    subst e7
    refine hq _ (fun j h1 h8 => ?_) (fun j hj => ?_) (fun a ha hb => ?_)
    · rw [loadM_out (by omega), putRec_in h1 h8]
      rcases (show j = 1 ∨ j = 2 ∨ j = 3 ∨ j = 4 ∨ j = 5 ∨ j = 6 ∨ j = 7 ∨ j = 8 by omega) with rfl | rfl | rfl | rfl | rfl | rfl | rfl | rfl
      · rw [hz]; rfl
      all_goals rfl
    · rw [loadM_in hj, putRec_out (by omega)]
    · rw [loadM_out hb, putRec_out ha]
end HO
