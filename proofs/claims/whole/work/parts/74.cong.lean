/-! what each part of a side's relation reads -/
section CG
variable {sd : Int32} {mt c c' s nf k : Nat} {U U' V V' : mM}
theorem thrR.cg (h : thrR sd s U V) (h9 : U' 0 9 = U 0 9) (h10 : U' 0 10 = U 0 10) (h11 : U' 0 11 = U 0 11) (h12 : U' 0 12 = U 0 12) (v12 : V' 12 = V 12) (v13 : V' 13 = V 13) : thrR sd s U' V' := by
  unfold thrR at h ⊢
  rw [h9, h10, h11, h12, v12, v13]; exact h
theorem nxtR.cg (h : nxtR c U V) (hc : c ≤ c') (h4 : U' 4 = U 4) (v14 : V' 14 = V 14) : nxtR c' U' V' := by
  intro e he
  obtain ⟨a, q1, q2⟩ := h e he
  rw [h4, v14]
  exact ⟨a, Nat.le_trans q1 hc, q2⟩
theorem valR.cg (h : valR U V) (h8 : U' 0 8 = U 0 8) (h5 : U' 5 = U 5) (v33 : V' 33 = V 33) (v34 : V' 34 = V 34) : valR U' V' := by
  unfold valR at h ⊢
  rw [h8, h5, v33, v34]; exact h
theorem notR.cg (h : notR c U V) (hc : c ≤ c') (h1 : U' 1 1 = U 1 1) (h2 : U' 2 = U 2) (v17 : V' 17 = V 17) (v18 : V' 18 = V 18) (v19 : V' 19 = V 19) : notR c' U' V' := by
  obtain ⟨q, b1, b2, b3, b4⟩ := h
  refine ⟨q, b1, by rw [h1]; exact b2, by rw [v17]; exact b3, fun j hj => ?_⟩
  obtain ⟨a, b, w1, w2⟩ := b4 j hj
  rw [h2, v18, v19]
  exact ⟨a, b, Nat.le_trans w1 hc, w2⟩
theorem ackR.cg (h : ackR k U V) (h13 : U' 0 13 = U 0 13) (v20 : V' 20 = V 20) : ackR k U' V' := by
  unfold ackR at h ⊢
  rw [h13, v20]; exact h
theorem winsR.cg (h : winsR c nf U V) (hc : c ≤ c') (hu : ∀ e, e < 4 → U' (8 + 3 * nf + e) = U (8 + 3 * nf + e)) (v15 : V' 15 = V 15) (v16 : V' 16 = V 16) : winsR c' nf U' V' := by
  intro e he
  obtain ⟨w1, w2⟩ := h e he
  rw [hu e he, v15, v16]
  refine ⟨w1, ?_⟩
  rcases w2 with w2 | ⟨a, q1, q2⟩
  · exact Or.inl w2
  · exact Or.inr ⟨a, Nat.le_trans q1 hc, q2⟩
theorem fragR.cg {ag tm j : Nat} (h : fragR sd mt c s ag tm U V j) (h1 : U' (8 + 3 * j) = U (8 + 3 * j)) (h2 : U' (9 + 3 * j) = U (9 + 3 * j)) (h3 : U' (10 + 3 * j) = U (10 + 3 * j)) (v22 : V' 22 = V 22) (v23 : V' 23 = V 23) (v24 : V' 24 = V 24) (v26 : V' 26 = V 26) (v27 : V' 27 = V 27) (v28 : V' 28 = V 28) : fragR sd mt c' s ag tm U' V' j := by
  unfold fragR at h ⊢
  rw [h1, h2, h3, v22, v23, v24, v26, v27, v28]; exact h
theorem flR.cg (h : flR sd mt c s nf k U V) (hc : c ≤ c') (h6 : U' 6 = U 6) (hf : ∀ i, 8 ≤ i → i < 8 + 3 * nf → U' i = U i) (hv : ∀ a, 21 ≤ a → a ≤ 31 → V' a = V a) : flR sd mt c' s nf k U' V' := by
  obtain ⟨f, d1, d2, d3, d4⟩ := h
  refine ⟨f, d1, by rw [h6]; exact d2, by rw [hv 21 (by decide) (by decide)]; exact d3, fun h0 => ?_⟩
  obtain ⟨ag, tm, w, e1, e2, e3, e4, e5, e6, e7, e8, e9, e10, e11⟩ := d4 h0
  rw [h6, hv 31 (by decide) (by decide), hv 25 (by decide) (by decide), hv 29 (by decide) (by decide), hv 30 (by decide) (by decide), hv 24 (by decide) (by decide)]
  refine ⟨ag, tm, w, e1, e2, e3, e4, e5, e6, e7, e8, e9, fun t ht => ?_, fun j hj => ?_⟩
  · obtain ⟨j, x, y, q1, q2, q3⟩ := e10 t ht
    rw [hv 26 (by decide) (by decide), hv 27 (by decide) (by decide), hv 28 (by decide) (by decide)]
    exact ⟨j, x, y, q1, Nat.le_trans q2 hc, q3⟩
  · exact fragR.cg (c := c) (e11 j hj) (hf _ (by omega) (by omega)) (hf _ (by omega) (by omega)) (hf _ (by omega) (by omega)) (hv 22 (by decide) (by decide)) (hv 23 (by decide) (by decide)) (hv 24 (by decide) (by decide)) (hv 26 (by decide) (by decide)) (hv 27 (by decide) (by decide)) (hv 28 (by decide) (by decide))
/-- a number is taken -/
theorem SideRel.num {e a : Nat} (h : SideRel sd mt c s nf k U V) (he : e < 4) (ha : a ≤ c) : SideRel sd mt (c + 1) s nf k (sM U 4 e (nI (a + 1))) (sM V 14 e (nI (a + 1))) := by
  obtain ⟨a1, a2, a3, a4, a5, a6, a7, a8⟩ := h
  have u : ∀ i, i ≠ 4 → sM U 4 e (nI (a + 1)) i = U i := fun i hi => sM_k i hi
  have v : ∀ i, i ≠ 14 → sM V 14 e (nI (a + 1)) i = V i := fun i hi => sM_k i hi
  refine ⟨by rw [u 0 (by decide)]; exact a1, a2.cg (by rw [u 0 (by decide)]) (by rw [u 0 (by decide)]) (by rw [u 0 (by decide)]) (by rw [u 0 (by decide)]) (v _ (by decide)) (v _ (by decide)), fun e' he' => ?_, a4.cg (by rw [u 0 (by decide)]) (u _ (by decide)) (v _ (by decide)) (v _ (by decide)), a5.cg (by omega) (by rw [u 1 (by decide)]) (u _ (by decide)) (v _ (by decide)) (v _ (by decide)) (v _ (by decide)), a6.cg (by rw [u 0 (by decide)]) (v _ (by decide)), a7.cg (by omega) (fun e' _ => u _ (by omega)) (v _ (by decide)) (v _ (by decide)), a8.cg (by omega) (u _ (by decide)) (fun i h1 h2 => u _ (by omega)) (fun i h1 h2 => v _ (by omega))⟩
  by_cases q : e' = e
  · subst q
    exact ⟨a + 1, by omega, sM_e, sM_e⟩
  · obtain ⟨b, q1, q2, q3⟩ := a3 e' he'
    exact ⟨b, by omega, by rw [sM_j e' q]; exact q2, by rw [sM_j e' q]; exact q3⟩
theorem SideRel.mono (h : SideRel sd mt c s nf k U V) (hc : c ≤ c') : SideRel sd mt c' s nf k U V := by
  obtain ⟨a1, a2, a3, a4, a5, a6, a7, a8⟩ := h
  exact ⟨a1, a2, a3.cg hc rfl rfl, a4, a5.cg hc rfl rfl rfl rfl rfl, a6, a7.cg hc (fun _ _ => rfl) rfl rfl, a8.cg hc rfl (fun _ _ _ => rfl) (fun _ _ _ => rfl)⟩
end CG
theorem cliR.cg {sd : Int32} {U U' V V' : mM} {hs hs' : Nat → Int32} (h : cliR sd U V hs) (v : V' 13 = V 13) (h14 : U' 0 14 = U 0 14) (hu : ∀ i, 15 ≤ i → i < 24 → U' i = U i) (hh : hs' = hs) : cliR sd U' V' hs' := by
  unfold cliR asmR at h ⊢
  rw [v, h14, hh, hu 15 (by decide) (by decide), hu 16 (by decide) (by decide), hu 17 (by decide) (by decide), hu 19 (by decide) (by decide), hu 21 (by decide) (by decide), hu 22 (by decide) (by decide), hu 23 (by decide) (by decide)]
  exact h
theorem srvR.cg {sd : Int32} {U U' : mM} (h : srvR sd U) (h0 : ∀ j, j ≠ 10 → U' 0 j = U 0 j) (h6 : U' 6 1 = U 6 1) (h35 : U' 35 0 = U 35 0) (hu : ∀ i, 39 ≤ i → i < 49 → U' i = U i) : srvR sd U' := by
  unfold srvR at h ⊢
  rw [h0 14 (by decide), h0 13 (by decide), h0 9 (by decide), h6, h35, hu 39 (by decide) (by decide), hu 41 (by decide) (by decide), hu 43 (by decide) (by decide), hu 45 (by decide) (by decide), hu 47 (by decide) (by decide)]
  exact h
/-! a side of the two -/
def isSd (s cb nf w : Nat) : Prop := (s = 0 ∧ cb = 128 ∧ nf = 1 ∧ w = 24) ∨ (s = 1 ∧ cb = 152 ∧ nf = 9 ∧ w = 49)
section SD
variable {sd : Int32} {mt c c' s cb nf w k : Nat} {T : mT} {R R' : mR} {M M' M2 M2' : mM}
theorem SimP.side (hs : isSd s cb nf w) (h : SimP sd mt k c R M M2) : SideRel sd mt c s nf k (uw M cb w) (vw M2 s) := by
  rcases hs with ⟨rfl, rfl, rfl, rfl⟩ | ⟨rfl, rfl, rfl, rfl⟩
  · exact h.2.2.2.2.1
  · exact h.2.2.2.2.2.1
theorem LC.sid (hL : LC sd T R) (hs : isSd s cb nf w) : LSd T R cb nf := by
  rcases hs with ⟨rfl, rfl, rfl, rfl⟩ | ⟨rfl, rfl, rfl, rfl⟩
  · exact hL.sC
  · exact hL.sS
/-- the cells of side s, its arrays' parts and nothing else have changed -/
theorem SimP.setS (hs : isSd s cb nf w) (h : SimP sd mt k c R M M2) (hc : c ≤ c') (hb : c' ≤ 8208) (h1 : ∀ a, a < cb ∨ cb + w ≤ a → M' a = M a) (h2 : ∀ a j, stA a = 0 → M2' a j = M2 a j) (h3 : ∀ a j, (j < stA a * s ∨ stA a * s + stA a ≤ j) → M2' a j = M2 a j) (hS : SideRel sd mt c' s nf k (uw M' cb w) (vw M2' s)) (hx : if s = 0 then cliR sd (uw M' cb w) (vw M2' s) (M2' 32) else srvR sd (uw M' cb w)) : SimP sd mt k c' R M' M2' := by
  obtain ⟨⟨a1, a1', a1'', _⟩, a2, a3, a4, a5, a6, a7, a8⟩ := h
  have z1 : ∀ j, M2' 1 j = M2 1 j := fun j => h2 1 j rfl
  have n1 : nv M2' = nv M2 := by
    funext a j
    unfold nv
    split
    · rename_i q
      have : stA a = 0 := by
        have z : ∀ a, a < 12 → stA a = 0 := by decide
        exact z a (by omega)
      rw [h2 a j this]
    · rfl
  have ov : ∀ s', s' ≠ s → s' ≤ 1 → s ≤ 1 → vw M2' s' = vw M2 s' := by
    intro s' hne hs' hs1
    funext a j
    unfold vw
    split
    · rename_i q
      rw [h3 a _ ?_]
      rcases (show (s = 0 ∧ s' = 1) ∨ (s = 1 ∧ s' = 0) by omega) with ⟨rfl, rfl⟩ | ⟨rfl, rfl⟩ <;> omega
    · rfl
  refine ⟨⟨a1, a1', a1'', hb⟩, by rw [z1]; exact a2, ?_, ?_, ?_⟩
  · unfold conR at a3 ⊢; simp only [z1]; exact a3
  · rw [n1, show nw M' = nw M from ?_]
    · obtain ⟨q1, q2, m, q3, q4, q5, q6⟩ := a4
      exact ⟨q1, q2, m, q3, q4, q5, fun i hi => recR_mono hc (q6 i hi)⟩
    · funext a j
      unfold nw
      split
      · rename_i q
        rw [h1 a (by rcases hs with ⟨-, rfl, -⟩ | ⟨-, rfl, -⟩ <;> omega)]
      · rfl
  · rcases hs with ⟨rfl, rfl, rfl, rfl⟩ | ⟨rfl, rfl, rfl, rfl⟩
    · have u1 : uw M' 152 49 = uw M 152 49 := uw_eq (fun i _ => h1 _ (by omega))
      refine ⟨hS, ?_, hx, ?_⟩
      · rw [u1, ov 1 (by decide) (by decide) (by decide)]; exact a6.mono hc
      · rw [u1]; exact a8
    · have u0 : uw M' 128 24 = uw M 128 24 := uw_eq (fun i hi => h1 _ (by omega))
      refine ⟨?_, hS, ?_, hx⟩
      · rw [u0, ov 0 (by decide) (by decide) (by decide)]; exact a5.mono hc
      · rw [u0, ov 0 (by decide) (by decide) (by decide), show M2' 32 = M2 32 from funext fun j => h2 32 j rfl]; exact a7
end SD
