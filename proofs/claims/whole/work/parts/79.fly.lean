/-! a flight's pieces go out one by one, by both. b: the rounds before; i: the pieces that this round has passed -/
def fragB (sd : Int32) (mt c s b tm : Nat) (U V : mM) (j : Nat) : Prop := ∃ p q z sn : Nat, sender (nI s) p ∧ p ≠ 1 ∧ q < SZ sd p ∧ z = min mt (SZ sd p - q) ∧ (p ≠ 5 → q = 0) ∧ V 22 j = nI p ∧ V 23 j = nI q ∧ (V 24 j = 0 ∨ V 24 j = 1) ∧ U (8 + 3 * j) 7 = V 24 j ∧ U (8 + 3 * j) 2 = nI (noP p) ∧ U (8 + 3 * j) 3 = nI (epP p) ∧ U (8 + 3 * j) 4 = nI q ∧ U (8 + 3 * j) 5 = nI z ∧ (∀ i, i < z → U (9 + 3 * j) i = CT sd p (q + i)) ∧
  sn ≤ b ∧ U (8 + 3 * j) 6 = nI sn ∧ ∀ x y : Nat, x ≤ 16 * 513 → y ≤ 3 → ((∃ i, i < sn ∧ U (10 + 3 * j) i = nI (4 * x + y)) ↔ ∃ t, t < tm ∧ V 28 t = nI j ∧ V 27 t = nI x ∧ V 26 t = nI y)
def flS (sd : Int32) (mt c s nf b i f tm : Nat) (U V : mM) : Prop := f ≤ nf ∧ U 6 1 = nI f ∧ V 21 0 = nI f ∧ b ≤ 6 ∧ tm ≤ f * b + i ∧ V 25 0 = nI tm ∧ (∀ t, t < tm → ∃ j x y : Nat, j < f ∧ x ≤ c ∧ y ≤ 3 ∧ V 28 t = nI j ∧ V 27 t = nI x ∧ V 26 t = nI y) ∧ ∀ j, j < f → fragB sd mt c s (if j < i then b + 1 else b) tm U V j
/-- cells and arrays that sending leaves alone -/
def frS (nf : Nat) (U V U1 V1 : mM) : Prop := (∀ i, i ≠ 4 → i < 8 ∨ 8 + 3 * nf ≤ i → U1 i = U i) ∧ ∀ a, a ≠ 14 → a < 25 ∨ 28 < a → V1 a = V a
theorem frS.refl {nf : Nat} {U V : mM} : frS nf U V U V := ⟨fun _ _ _ => rfl, fun _ _ _ => rfl⟩
theorem frS.trans {nf : Nat} {U V U1 V1 U2 V2 : mM} (h : frS nf U V U1 V1) (h' : frS nf U1 V1 U2 V2) : frS nf U V U2 V2 := ⟨fun i a b => (h'.1 i a b).trans (h.1 i a b), fun i a b => (h'.2 i a b).trans (h.2 i a b)⟩
def spU (U : mM) (e a i sn : Nat) : mM := sM (sM (sM U 4 e (nI (a + 1))) (10 + 3 * i) sn (nI (4 * a + e))) (8 + 3 * i) 6 (nI (sn + 1))
def spV (V : mM) (e a tm i : Nat) : mM := sM (sM (sM (sM (sM V 14 e (nI (a + 1))) 26 tm (nI e)) 27 tm (nI a)) 28 tm (nI i)) 25 0 (nI (tm + 1))
section FS
variable {sd : Int32} {mt c s nf b i f tm : Nat} {U V : mM}
theorem nI_name {x y a e : Nat} (hx : x ≤ 16 * 513) (hy : y ≤ 3) (ha : a ≤ 16 * 513) (he : e ≤ 3) : nI (4 * x + y) = nI (4 * a + e) ↔ x = a ∧ y = e := by
  rw [nI_eq (by omega) (by omega)]; omega
theorem fragB.mono {b' j : Nat} (h : fragB sd mt c s b tm U V j) (hb : b ≤ b') : fragB sd mt c s b' tm U V j := by
  obtain ⟨p, q, z, sn, h1, h2, h3, h4, h5, h6, h7, h8, h9, h10, h11, h12, h13, h14, h15, h16⟩ := h
  exact ⟨p, q, z, sn, h1, h2, h3, h4, h5, h6, h7, h8, h9, h10, h11, h12, h13, h14, by omega, h16⟩
theorem flS.skip (h : flS sd mt c s nf b i f tm U V) : flS sd mt c s nf b (i + 1) f tm U V := by
  obtain ⟨h1, h2, h3, h4, h5, h6, h7, h8⟩ := h
  refine ⟨h1, h2, h3, h4, by omega, h6, h7, fun j hj => (h8 j hj).mono ?_⟩
  split
  · rw [if_pos (by omega)]; exact Nat.le_refl _
  · split <;> omega
theorem flS.mono {c' : Nat} (h : flS sd mt c s nf b i f tm U V) (hc : c ≤ c') : flS sd mt c' s nf b i f tm U V := by
  obtain ⟨h1, h2, h3, h4, h5, h6, h7, h8⟩ := h
  refine ⟨h1, h2, h3, h4, h5, h6, fun t ht => ?_, h8⟩
  obtain ⟨j, x, y, a1, a2, a3⟩ := h7 t ht
  exact ⟨j, x, y, a1, by omega, a3⟩
theorem spV_t (V : mM) (e a tm i a' j : Nat) : spV V e a tm i a' j = if a' = 25 ∧ j = 0 then nI (tm + 1) else if a' = 28 ∧ j = tm then nI i else if a' = 27 ∧ j = tm then nI a else if a' = 26 ∧ j = tm then nI e else if a' = 14 ∧ j = e then nI (a + 1) else V a' j := rfl
theorem spU_t (U : mM) (e a i sn a' j : Nat) : spU U e a i sn a' j = if a' = 8 + 3 * i ∧ j = 6 then nI (sn + 1) else if a' = 10 + 3 * i ∧ j = sn then nI (4 * a + e) else if a' = 4 ∧ j = e then nI (a + 1) else U a' j := rfl
theorem spU_k {e a sn k : Nat} (h1 : k ≠ 4) (h2 : k ≠ 8 + 3 * i) (h3 : k ≠ 10 + 3 * i) : spU U e a i sn k = U k := by
  funext j; rw [spU_t, if_neg (by omega), if_neg (by omega), if_neg (by omega)]
theorem spV_k {e a k : Nat} (h1 : k ≠ 14) (h2 : k < 25 ∨ 28 < k) : spV V e a tm i k = V k := by
  funext j; rw [spV_t, if_neg (by omega), if_neg (by omega), if_neg (by omega), if_neg (by omega), if_neg (by omega)]
theorem sp_fr {e a sn : Nat} (hi : i < nf) : frS nf U V (spU U e a i sn) (spV V e a tm i) := ⟨fun k h1 h2 => spU_k h1 (by omega) (by omega), fun k h1 h2 => spV_k h1 h2⟩
theorem sp_nx {e a sn : Nat} (hn : nxtR c U V) (ha : a ≤ c) : nxtR (c + 1) (spU U e a i sn) (spV V e a tm i) := by
  intro e' he'
  have u : spU U e a i sn 4 e' = if e' = e then nI (a + 1) else U 4 e' := by
    rw [spU_t, if_neg (by omega), if_neg (by omega)]
    by_cases q : e' = e
    · rw [if_pos ⟨rfl, q⟩, if_pos q]
    · rw [if_neg (by omega), if_neg q]
  have v : spV V e a tm i 14 e' = if e' = e then nI (a + 1) else V 14 e' := by
    rw [spV_t, if_neg (by omega), if_neg (by omega), if_neg (by omega), if_neg (by omega)]
    by_cases q : e' = e
    · rw [if_pos ⟨rfl, q⟩, if_pos q]
    · rw [if_neg (by omega), if_neg q]
  rw [u, v]
  by_cases q : e' = e
  · rw [if_pos q, if_pos q]; exact ⟨a + 1, by omega, rfl, rfl⟩
  · rw [if_neg q, if_neg q]
    obtain ⟨x, h1, h2⟩ := hn e' he'
    exact ⟨x, by omega, h2⟩
theorem flS.step {p q z sn a : Nat} (h : flS sd mt c s nf b i f tm U V) (hnf : nf ≤ 9) (hi : i < f) (hc : c + 1 ≤ 8208) (ha : a ≤ c) (f1 : sender (nI s) p ∧ p ≠ 1 ∧ q < SZ sd p ∧ z = min mt (SZ sd p - q) ∧ (p ≠ 5 → q = 0) ∧ V 22 i = nI p ∧ V 23 i = nI q ∧ (V 24 i = 0 ∨ V 24 i = 1) ∧ U (8 + 3 * i) 7 = V 24 i ∧ U (8 + 3 * i) 2 = nI (noP p) ∧ U (8 + 3 * i) 3 = nI (epP p) ∧ U (8 + 3 * i) 4 = nI q ∧ U (8 + 3 * i) 5 = nI z ∧ (∀ j, j < z → U (9 + 3 * i) j = CT sd p (q + j)) ∧
  sn ≤ b ∧ U (8 + 3 * i) 6 = nI sn ∧ ∀ x y : Nat, x ≤ 16 * 513 → y ≤ 3 → ((∃ j, j < sn ∧ U (10 + 3 * i) j = nI (4 * x + y)) ↔ ∃ t, t < tm ∧ V 28 t = nI i ∧ V 27 t = nI x ∧ V 26 t = nI y)) : flS sd mt (c + 1) s nf b (i + 1) f (tm + 1) (spU U (epP p) a i sn) (spV V (epP p) a tm i) := by
  have hep := epP_le p
  obtain ⟨h1, h2, h3, h4, h5, h6, h7, h8⟩ := h
  have v21 : spV V (epP p) a tm i 21 = V 21 := spV_k (by decide) (by decide)
  have v22 : spV V (epP p) a tm i 22 = V 22 := spV_k (by decide) (by decide)
  have v23 : spV V (epP p) a tm i 23 = V 23 := spV_k (by decide) (by decide)
  have v24 : spV V (epP p) a tm i 24 = V 24 := spV_k (by decide) (by decide)
  have v26 : ∀ t, spV V (epP p) a tm i 26 t = if t = tm then nI (epP p) else V 26 t := fun t => by
    rw [spV_t, if_neg (by omega), if_neg (by omega), if_neg (by omega)]
    by_cases q : t = tm
    · rw [if_pos ⟨rfl, q⟩, if_pos q]
    · rw [if_neg (by omega), if_neg (by omega), if_neg q]
  have v27 : ∀ t, spV V (epP p) a tm i 27 t = if t = tm then nI a else V 27 t := fun t => by
    rw [spV_t, if_neg (by omega), if_neg (by omega)]
    by_cases q : t = tm
    · rw [if_pos ⟨rfl, q⟩, if_pos q]
    · rw [if_neg (by omega), if_neg (by omega), if_neg (by omega), if_neg q]
  have v28 : ∀ t, spV V (epP p) a tm i 28 t = if t = tm then nI i else V 28 t := fun t => by
    rw [spV_t, if_neg (by omega)]
    by_cases q : t = tm
    · rw [if_pos ⟨rfl, q⟩, if_pos q]
    · rw [if_neg (by omega), if_neg (by omega), if_neg (by omega), if_neg (by omega), if_neg q]
  have v25 : spV V (epP p) a tm i 25 0 = nI (tm + 1) := by rw [spV_t, if_pos ⟨rfl, rfl⟩]
  have u6 : spU U (epP p) a i sn 6 = U 6 := spU_k (by decide) (by omega) (by omega)
  -- what the went rows say now
  have went : ∀ j x y : Nat, j < f → ((∃ t, t < tm + 1 ∧ spV V (epP p) a tm i 28 t = nI j ∧ spV V (epP p) a tm i 27 t = nI x ∧ spV V (epP p) a tm i 26 t = nI y) ↔ ((j = i ∧ nI a = nI x ∧ nI (epP p) = nI y) ∨ ∃ t, t < tm ∧ V 28 t = nI j ∧ V 27 t = nI x ∧ V 26 t = nI y)) := by
    intro j x y hj
    constructor
    · rintro ⟨t, ht, w1, w2, w3⟩
      rw [v28] at w1; rw [v27] at w2; rw [v26] at w3
      by_cases q : t = tm
      · rw [if_pos q] at w1 w2 w3
        exact Or.inl ⟨((nI_eq (by omega) (by omega)).mp w1).symm, w2, w3⟩
      · rw [if_neg q] at w1 w2 w3
        exact Or.inr ⟨t, by omega, w1, w2, w3⟩
    · rintro (⟨rfl, w2, w3⟩ | ⟨t, ht, w1, w2, w3⟩)
      · exact ⟨tm, by omega, by rw [v28, if_pos rfl], by rw [v27, if_pos rfl]; exact w2, by rw [v26, if_pos rfl]; exact w3⟩
      · exact ⟨t, by omega, by rw [v28, if_neg (by omega)]; exact w1, by rw [v27, if_neg (by omega)]; exact w2, by rw [v26, if_neg (by omega)]; exact w3⟩
  refine ⟨h1, by rw [u6]; exact h2, by rw [v21]; exact h3, h4, by omega, v25, fun t ht => ?_, fun j hj => ?_⟩
  · rw [v28, v27, v26]
    by_cases q : t = tm
    · rw [if_pos q, if_pos q, if_pos q]
      exact ⟨i, a, epP p, hi, by omega, by omega, rfl, rfl, rfl⟩
    · rw [if_neg q, if_neg q, if_neg q]
      obtain ⟨j, x, y, a1, a2, a3⟩ := h7 t (by omega)
      exact ⟨j, x, y, a1, by omega, a3⟩
  · by_cases q : j = i
    · subst q
      obtain ⟨g1, g2, g3, g4, g5, g6, g7, g8, g9, g10, g11, g12, g13, g14, g15, g16, g17⟩ := f1
      have uj : ∀ x, x ≠ 6 → spU U (epP p) a j sn (8 + 3 * j) x = U (8 + 3 * j) x := fun x hx => by rw [spU_t, if_neg (by omega), if_neg (by omega), if_neg (by omega)]
      have u9 : spU U (epP p) a j sn (9 + 3 * j) = U (9 + 3 * j) := spU_k (by omega) (by omega) (by omega)
      have u10 : ∀ x, spU U (epP p) a j sn (10 + 3 * j) x = if x = sn then nI (4 * a + epP p) else U (10 + 3 * j) x := fun x => by
        rw [spU_t, if_neg (by omega)]
        by_cases q : x = sn
        · rw [if_pos ⟨rfl, q⟩, if_pos q]
        · rw [if_neg (by omega), if_neg (by omega), if_neg q]
      refine ⟨p, q, z, sn + 1, g1, g2, g3, g4, g5, by rw [v22]; exact g6, by rw [v23]; exact g7, by rw [v24]; exact g8, by rw [v24, uj 7 (by decide)]; exact g9, by rw [uj 2 (by decide)]; exact g10, by rw [uj 3 (by decide)]; exact g11, by rw [uj 4 (by decide)]; exact g12, by rw [uj 5 (by decide)]; exact g13, by rw [u9]; exact g14, by rw [if_pos (by omega)]; omega, by rw [spU_t, if_pos ⟨rfl, rfl⟩], fun x y hx hy => ?_⟩
      rw [went j x y hj, ← g17 x y hx hy]
      constructor
      · rintro ⟨ii, hii, w⟩
        rw [u10] at w
        by_cases q : ii = sn
        · rw [if_pos q, nI_name (by omega) (by omega) hx hy] at w
          exact Or.inl ⟨rfl, by rw [w.1], by rw [w.2]⟩
        · rw [if_neg q] at w
          exact Or.inr ⟨ii, by omega, w⟩
      · rintro (⟨-, w1, w2⟩ | ⟨ii, hii, w⟩)
        · have e1 : a = x := (nI_eq (by omega) (by omega)).mp w1
          have e2 : epP p = y := (nI_eq (by omega) (by omega)).mp w2
          exact ⟨sn, by omega, by rw [u10, if_pos rfl, e1, e2]⟩
        · exact ⟨ii, by omega, by rw [u10, if_neg (by omega)]; exact w⟩
    · obtain ⟨p', q', z', sn', g1, g2, g3, g4, g5, g6, g7, g8, g9, g10, g11, g12, g13, g14, g15, g16, g17⟩ := h8 j hj
      have u8 : spU U (epP p) a i sn (8 + 3 * j) = U (8 + 3 * j) := spU_k (by omega) (by omega) (by omega)
      have u9 : spU U (epP p) a i sn (9 + 3 * j) = U (9 + 3 * j) := spU_k (by omega) (by omega) (by omega)
      have u10 : spU U (epP p) a i sn (10 + 3 * j) = U (10 + 3 * j) := spU_k (by omega) (by omega) (by omega)
      refine ⟨p', q', z', sn', g1, g2, g3, g4, g5, by rw [v22]; exact g6, by rw [v23]; exact g7, by rw [v24]; exact g8, by rw [v24, u8]; exact g9, by rw [u8]; exact g10, by rw [u8]; exact g11, by rw [u8]; exact g12, by rw [u8]; exact g13, by rw [u9]; exact g14, ?_, by rw [u8]; exact g16, fun x y hx hy => ?_⟩
      · by_cases q2 : j < i
        · rw [if_pos q2] at g15; rw [if_pos (by omega)]; exact g15
        · rw [if_neg q2] at g15; rw [if_neg (by omega)]; exact g15
      · rw [went j x y hj, u10, g17 x y hx hy]
        constructor
        · exact fun w => Or.inr w
        · rintro (⟨w, -⟩ | w)
          · exact absurd w q
          · exact w
end FS
