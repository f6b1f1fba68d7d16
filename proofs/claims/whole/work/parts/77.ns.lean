/-! the two memories with one side's views named: U, V the side that acts, U', V' the other -/
def NS (sd : Int32) (mt k c s cb w : Nat) (U V U' V' : mM) (hs : Nat → Int32) (dl : Int32) (R : mR) (M M2 : mM) : Prop := (8 ≤ mt ∧ mt ≤ 24 ∧ k ≤ 512 ∧ c ≤ 8208) ∧ M2 1 7 = nI k ∧ conR sd mt M2 ∧ NetRel sd c R (nw M) (nv M2) ∧ uw M cb w = U ∧ vw M2 s = V ∧ uw M (280 - cb) (73 - w) = U' ∧ vw M2 (1 - s) = V' ∧ M2 32 = hs ∧ M 2 5 = M2 1 10 + dl
section NSS
variable {sd : Int32} {mt k c c' s cb nf w : Nat} {U V U' V' : mM} {hs : Nat → Int32} {dl : Int32} {T T2 : mT} {R R2 : mR} {M M2 M' M2' : mM}
theorem SimP.ns (h : SimP sd mt k c R M M2) : NS sd mt k c s cb w (uw M cb w) (vw M2 s) (uw M (280 - cb) (73 - w)) (vw M2 (1 - s)) (M2 32) (M 2 5 - M2 1 10) R M M2 := ⟨h.1, h.2.1, h.2.2.1, h.2.2.2.1, rfl, rfl, rfl, rfl, rfl, by rw [Int32.add_comm, Int32.sub_add_cancel]⟩
/-- what the relation says of the side that acts, besides SideRel -/
def extR (sd : Int32) (s : Nat) (U V : mM) (hs : Nat → Int32) : Prop := if s = 0 then cliR sd U V hs else srvR sd U
theorem SimP.ext (hs : isSd s cb nf w) (h : SimP sd mt k c R M M2) : extR sd s (uw M cb w) (vw M2 s) (M2 32) := by
  rcases hs with ⟨rfl, rfl, rfl, rfl⟩ | ⟨rfl, rfl, rfl, rfl⟩
  · exact h.2.2.2.2.2.2.1
  · exact h.2.2.2.2.2.2.2
/-- the other side's part of the relation -/
def othR (sd : Int32) (mt c s k : Nat) (U' V' : mM) (hs : Nat → Int32) : Prop := SideRel sd mt c (1 - s) (if s = 0 then 9 else 1) k U' V' ∧ extR sd (1 - s) U' V' hs
theorem SimP.oth (hs : isSd s cb nf w) (h : SimP sd mt k c R M M2) : othR sd mt c s k (uw M (280 - cb) (73 - w)) (vw M2 (1 - s)) (M2 32) := by
  rcases hs with ⟨rfl, rfl, rfl, rfl⟩ | ⟨rfl, rfl, rfl, rfl⟩
  · exact ⟨h.2.2.2.2.2.1, h.2.2.2.2.2.2.2⟩
  · exact ⟨h.2.2.2.2.1, h.2.2.2.2.2.2.1⟩
theorem othR.mono (h : othR sd mt c s k U' V' hs) (hc : c ≤ c') : othR sd mt c' s k U' V' hs := ⟨h.1.mono hc, h.2⟩
theorem NS.sim (hsd : isSd s cb nf w) (h : NS sd mt k c s cb w U V U' V' hs dl R M M2) (h1 : SideRel sd mt c s nf k U V) (h2 : extR sd s U V hs) (h3 : othR sd mt c s k U' V' hs) : SimP sd mt k c R M M2 := by
  obtain ⟨a1, a2, a3, a4, rfl, rfl, rfl, rfl, rfl, -⟩ := h
  obtain ⟨h3, h4⟩ := h3
  rcases hsd with ⟨rfl, rfl, rfl, rfl⟩ | ⟨rfl, rfl, rfl, rfl⟩
  · exact ⟨a1, a2, a3, a4, h1, h3, h2, h4⟩
  · exact ⟨a1, a2, a3, a4, h3, h1, h4, h2⟩
theorem NS.mono (h : NS sd mt k c s cb w U V U' V' hs dl R M M2) (hc : c ≤ c') (hb : c' ≤ 8208) : NS sd mt k c' s cb w U V U' V' hs dl R M M2 := by
  obtain ⟨⟨a1, a1', a1'', _⟩, a2, a3, ⟨q1, q2, m, q3, q4, q5, q6⟩, r⟩ := h
  exact ⟨⟨a1, a1', a1'', hb⟩, a2, a3, ⟨q1, q2, m, q3, q4, q5, fun i hi => recR_mono hc (q6 i hi)⟩, r⟩
theorem NS.u (h : NS sd mt k c s cb w U V U' V' hs dl R M M2) {i j : Nat} (hi : i < w) : M (cb + i) j = U i j := by rw [← h.2.2.2.2.1, uw_at hi]
theorem NS.v (h : NS sd mt k c s cb w U V U' V' hs dl R M M2) {a j : Nat} (hj : j < stA a) : M2 a (stA a * s + j) = V a j := by rw [← h.2.2.2.2.2.1, vw_at hj]
/-- the side writes a cell of its own -/
theorem NS.setU (hsd : isSd s cb nf w) (h : NS sd mt k c s cb w U V U' V' hs dl R M M2) {i j : Nat} {x : Int32} (hi : i < w) : NS sd mt k c s cb w (sM U i j x) V U' V' hs dl R (sM M (cb + i) j x) M2 := by
  have hl := hsd.le
  obtain ⟨a1, a2, a3, a4, rfl, rfl, rfl, rfl, rfl, a10⟩ := h
  refine ⟨a1, a2, a3, ?_, uw_in hi, rfl, uw_out ?_, rfl, rfl, by rw [sM_k 2 (by omega)]; exact a10⟩
  · rw [nw_out (by omega)]; exact a4
  · rcases hsd with ⟨rfl, rfl, rfl, rfl⟩ | ⟨rfl, rfl, rfl, rfl⟩ <;> omega
/-- the reference writes an array's part of that side -/
theorem NS.setV (hsd : isSd s cb nf w) (h : NS sd mt k c s cb w U V U' V' hs dl R M M2) {a j : Nat} {x : Int32} (hj : j < stA a) : NS sd mt k c s cb w U (sM V a j x) U' V' hs dl R M (sM M2 a (stA a * s + j) x) := by
  have hl := hsd.le
  have ha : 12 ≤ a ∧ a ≠ 32 := by
    refine ⟨?_, fun q => by subst q; exact absurd hj (Nat.not_lt_zero j)⟩
    by_cases q : 12 ≤ a
    · exact q
    · have z : ∀ a, a < 12 → stA a = 0 := by decide
      rw [z a (by omega)] at hj; omega
  obtain ⟨a1, a2, a3, a4, rfl, rfl, rfl, rfl, rfl, a10⟩ := h
  refine ⟨a1, by rw [sM_k 1 (by omega)]; exact a2, ?_, ?_, rfl, vw_in hj, rfl, vw_out ?_, sM_k 32 (by omega), by rw [sM_k 1 (by omega)]; exact a10⟩
  · unfold conR at a3 ⊢; rw [sM_k 1 (by omega)]; exact a3
  · rw [nv_out (by omega)]; exact a4
  · rcases (show s = 0 ∨ s = 1 by omega) with rfl | rfl <;> omega
/-- only the net's cells have changed -/
theorem NS.net (hsd : isSd s cb nf w) (h : NS sd mt k c s cb w U V U' V' hs dl R M M2) {R' : mR} (h1 : ∀ a, 128 ≤ a → M' a = M a) (h2 : ∀ a, 12 ≤ a → M2' a = M2 a) (h3 : ∀ j, j ≠ 8 → j ≠ 9 → j ≠ 10 → M2' 1 j = M2 1 j) (h5 : ∀ d, M 2 5 = M2 1 10 + d → M' 2 5 = M2' 1 10 + d) (hN : NetRel sd c R' (nw M') (nv M2')) : NS sd mt k c s cb w U V U' V' hs dl R' M' M2' := by
  have hl := hsd.le
  obtain ⟨a1, a2, a3, a4, rfl, rfl, rfl, rfl, rfl, a10⟩ := h
  refine ⟨a1, ?_, ?_, hN, uw_eq (fun i _ => h1 _ (by omega)), vw_eq h2, uw_eq (fun i _ => h1 _ ?_), vw_eq h2, h2 32 (by decide), h5 _ a10⟩
  · rw [h3 7 (by decide) (by decide) (by decide)]; exact a2
  · unfold conR at a3 ⊢
    rw [h3 0 (by decide) (by decide) (by decide), h3 1 (by decide) (by decide) (by decide), h3 2 (by decide) (by decide) (by decide), h3 3 (by decide) (by decide) (by decide), h3 4 (by decide) (by decide) (by decide), h3 5 (by decide) (by decide) (by decide), h3 6 (by decide) (by decide) (by decide)]
    exact a3
  · rcases hsd with ⟨rfl, rfl, rfl, rfl⟩ | ⟨rfl, rfl, rfl, rfl⟩ <;> omega
theorem NS.cnt (h : NS sd mt k c s cb w U V U' V' hs dl R M M2) : ∃ m : Nat, m ≤ 60 ∧ M 2 3 = nI m ∧ M2 1 8 = nI m ∧ M 2 4 = M2 1 9 ∧ rowsOK R ∧ ∀ i, i < m → recR sd c (nw M) (nv M2) (R 3 i) i := by
  obtain ⟨-, -, -, ⟨hr, hl, m, hm, hu, hv, hrec⟩, -⟩ := h
  rw [nw_at (by decide)] at hu hl
  rw [nv_at (by decide)] at hv hl
  exact ⟨m, hm, hu, hv, hl, hr, hrec⟩
theorem NS.putIn {m : Nat} {M15 : mM} (hsd : isSd s cb nf w) (hP : NS sd mt k c s cb w U V U' V' hs dl R M M2) (hm : m < 60) (e1 : M 2 3 = nI m) {F f : Nat → Int32} {z : Nat} (v8 : M15 1 8 = nI (m + 1)) (v10 : M15 1 10 = M2 1 10 + 1) (v1 : ∀ j, j ≠ 8 → j ≠ 10 → M15 1 j = M2 1 j) (v12 : ∀ a, 12 ≤ a → M15 a = M2 a) (vV : ∀ a, 2 ≤ a → a ≤ 9 → ∀ i, i < m → M15 a i = M2 a i) (vN : ∀ a, a = 10 ∨ a = 11 → ∀ q, q < 8 * m → M15 a q = M2 a q)
    (f2 : F 2 = M15 2 m) (f3 : F 3 = M15 3 m) (f4 : F 4 = M15 4 m) (f5 : F 5 = M15 5 m) (f8 : F 8 = M15 6 m) (g2 : M15 2 m = 0 ∨ M15 2 m = 1) (g6 : M15 6 m = 0 ∨ M15 6 m = 1) (g5 : ∃ a : Nat, a ≤ c ∧ M15 5 m = nI a)
    (hb : ∀ ld : Nat → Int32, (∀ j, j < z → ld j = f j) → bodyR sd c (M15 2 m) (M15 3 m) (M15 4 m) (M15 7 m) (M15 8 m) (M15 9 m) (fun j => M15 10 (8 * m + j)) (fun j => M15 11 (8 * m + j)) (F 6) (F 7) (F 1) ld) : NS sd mt k c s cb w U V U' V' hs dl R (loadM (putRec (sM (sM M 2 5 (M 2 5 + 1)) 2 3 (nI (m + 1))) (R 3 m) F) (R 3 m) z f) M15 := by
  have hrow := hP.2.2.2.1.1
  obtain ⟨b0, b1⟩ := hrow.1 m hm
  have hb0 := b0
  obtain ⟨y1, y2, y3⟩ := b0
  refine hP.net hsd (fun a ha => ?_) v12 (fun j h8 _ h10 => v1 j h8 h10) (fun d hd => by rw [loadM_out (by omega), putRec_out (by omega), sM_j _ (by decide), sM_e, v10, hd, Int32.add_assoc, Int32.add_comm d, ← Int32.add_assoc]) ?_
  · rw [loadM_out (by omega), putRec_out (by omega), sM_k _ (by omega), sM_k _ (by omega)]
  · refine hP.2.2.2.1.add (Nat.le_refl c) hm e1 (fun a ha h1 h2 h3 => ?_) ?_ ?_ v8 (v1 9 (by decide) (by decide)) vV vN ?_
    · rw [loadM_out h3, putRec_out h2, sM_k _ (by omega), sM_k _ (by omega)]
    · rw [loadM_out (by omega), putRec_out (by omega), sM_e]
    · rw [loadM_out (by omega), putRec_out (by omega), sM_j _ (by decide), sM_j _ (by decide)]
    · have fr : ∀ j, 1 ≤ j → j ≤ 8 → loadM (putRec (sM (sM M 2 5 (M 2 5 + 1)) 2 3 (nI (m + 1))) (R 3 m) F) (R 3 m) z f (R 3 m) j = F j := fun j h1 h2 => by rw [loadM_out (by omega), putRec_in h1 h2]
      refine rec_mk hb0 ⟨⟨?_, ?_, ?_, ?_, ?_⟩, g2, g6, g5, ?_⟩
      · rw [fr 2 (by decide) (by decide)]; exact f2
      · rw [fr 3 (by decide) (by decide)]; exact f3
      · rw [fr 4 (by decide) (by decide)]; exact f4
      · rw [fr 5 (by decide) (by decide)]; exact f5
      · rw [fr 8 (by decide) (by decide)]; exact f8
      · rw [fr 6 (by decide) (by decide), fr 7 (by decide) (by decide), fr 1 (by decide) (by decide)]
        exact hb _ (fun j hj => loadM_in hj)
theorem NS.putLo (hsd : isSd s cb nf w) (hP : NS sd mt k c s cb w U V U' V' hs dl R M M2) {F f : Nat → Int32} {z : Nat} : NS sd mt k c s cb w U V U' V' hs dl R (loadM (putRec (sM (sM M 2 5 (M 2 5 + 1)) 2 4 (M 2 4 + 1)) 6 F) 6 z f) (loM M2) := by
  refine hP.net hsd (fun a ha => ?_) (fun a ha => ?_) (fun j h8 h9 h10 => ?_) (fun d hd => by unfold loM; rw [loadM_out (by omega), putRec_out (by omega), sM_j _ (by decide), sM_e, sM_j _ (by decide), sM_e, hd, Int32.add_assoc, Int32.add_comm d, ← Int32.add_assoc]) (hP.2.2.2.1.lose (fun a h1 h2 h6 h7 => ?_) ?_ ?_ ?_ ?_ (fun a h1 h2 => ?_))
  · rw [loadM_out (by omega), putRec_out (by omega), sM_k _ (by omega), sM_k _ (by omega)]
  · unfold loM; rw [sM_k _ (by omega), sM_k _ (by omega)]
  · unfold loM; rw [sM_j _ h9, sM_j _ h10]
  · rw [loadM_out h7, putRec_out h6, sM_k _ (by omega), sM_k _ (by omega)]
  · rw [loadM_out (by decide), putRec_out (by decide), sM_j _ (by decide), sM_j _ (by decide)]
  · rw [loadM_out (by decide), putRec_out (by decide), sM_e]
  · unfold loM; rw [sM_j _ (by decide), sM_j _ (by decide)]
  · unfold loM; rw [sM_e]
  · unfold loM; rw [sM_k _ (by omega), sM_k _ (by omega)]
end NSS
