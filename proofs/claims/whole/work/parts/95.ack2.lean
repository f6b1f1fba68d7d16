/-! an ACK, delivered -/
section AK2
variable {sd : Int32} {mt k c s cb nf w m i f : Nat} {U V U' V' : mM} {hs : Nat → Int32} {dl : Int32} {T T2 : mT} {R R2 : mR} {M M2 : mM} {P P' : Nat → Prop}
theorem NS.clU (hsd : isSd s cb nf w) (h : NS sd mt k c s cb w U V U' V' hs dl R M M2) (hf : f ≤ nf) : NS sd mt k c s cb w (clM U 0 f P) V U' V' hs dl R (clM M cb f P) M2 := by
  have hl := hsd.le
  obtain ⟨a1, a2, a3, a4, rfl, rfl, rfl, rfl, rfl, a10⟩ := h
  refine ⟨a1, a2, a3, ?_, ?_, rfl, uw_eq (fun j hj => clM_a (fun q hq => ?_)), rfl, rfl, by rw [clM_a (fun q hq => by omega)]; exact a10⟩
  · have : nw (clM M cb f P) = nw M := by
      funext a j
      unfold nw
      split
      · rw [clM_a (fun q hq => by omega)]
      · rfl
    rw [this]; exact a4
  · refine clM_eq (fun q h1 h2 => ?_) (fun a j y => ?_)
    · rw [uw_at (by omega), Nat.zero_add, clM_yes h1 h2]
    · unfold uw
      by_cases q : a < w
      · rw [if_pos q, if_pos q]
        unfold clM
        exact if_neg (fun ⟨y1, q, y2, y3, y4⟩ => y ⟨y1, q, y2, by omega, y4⟩)
      · rw [if_neg q, if_neg q]
  · rcases hsd with ⟨rfl, rfl, rfl, rfl⟩ | ⟨rfl, rfl, rfl, rfl⟩ <;> omega
theorem NS.clV (hsd : isSd s cb nf w) (h : NS sd mt k c s cb w U V U' V' hs dl R M M2) (hf : f ≤ 12) : NS sd mt k c s cb w U (clN V 0 f P) U' V' hs dl R M (clN M2 s f P) := by
  have hl := hsd.le
  obtain ⟨a1, a2, a3, a4, rfl, rfl, rfl, rfl, rfl, a10⟩ := h
  have o1 : clN M2 s f P 1 = M2 1 := clN_a (by decide)
  refine ⟨a1, by rw [o1]; exact a2, by unfold conR at a3 ⊢; rw [o1]; exact a3, ?_, rfl, ?_, rfl, ?_, clN_a (by decide), by rw [o1]; exact a10⟩
  · have : nv (clN M2 s f P) = nv M2 := by
      funext a j
      unfold nv
      split
      · rw [clN_a (by omega)]
      · rfl
    rw [this]; exact a4
  · have z24 : stA 24 = 12 := rfl
    refine clN_eq (fun q h1 h2 => ?_) (fun a j y => ?_)
    · rw [Nat.mul_zero, Nat.zero_add, vw_at (by rw [z24]; omega), z24, clN_yes h1 h2]
    · unfold vw
      by_cases q : j < stA a
      · rw [if_pos q, if_pos q]
        by_cases qa : a = 24
        · subst qa
          rw [z24]
          by_cases qj : j < f
          · rw [clN_no (fun w => y ⟨rfl, j, w.1, by omega, w.2⟩)]
          · rw [clN_o (by omega)]
        · rw [clN_a qa]
      · rw [if_neg q, if_neg q]
  · refine funext fun a => funext fun j => ?_
    unfold vw
    by_cases qa : a = 24
    · subst qa
      show (if j < 12 then clN M2 s f P 24 (12 * (1 - s) + j) else 0) = if j < 12 then M2 24 (12 * (1 - s) + j) else 0
      by_cases q : j < 12
      · rw [if_pos q, if_pos q, clN_o (by omega)]
      · rw [if_neg q, if_neg q]
    · rw [clN_a qa]
theorem flR.close (h : flR sd mt c s nf k U V) (h1 : U 6 1 = nI f) (hf : f ≤ 9) (hnf : nf ≤ 9) : flR sd mt c s nf k (clM U 0 f P) (clN V 0 f P) := by
  obtain ⟨f', d1, d2, d3, d4⟩ := h
  have : f' = f := (nI_eq (by omega) (by omega)).mp (d2.symm.trans h1)
  subst this
  have u6 : clM U 0 f' P 6 = U 6 := clM_a (fun q _ => by omega)
  have v : ∀ a, a ≠ 24 → clN V 0 f' P a = V a := fun a ha => clN_a ha
  refine ⟨f', d1, by rw [u6]; exact d2, by rw [v 21 (by decide)]; exact d3, fun h0 => ?_⟩
  obtain ⟨ag, tm, ww, e1, e2, e3, e4, e5, e6, e7, e8, e9, e10, e11⟩ := d4 h0
  have v24 : ∀ j, j < f' → P j → clN V 0 f' P 24 j = 0 := fun j hj hp => by
    have := clN_yes (M := V) (s := 0) (f := f') hj hp
    rw [Nat.mul_zero, Nat.zero_add] at this; exact this
  have v24' : ∀ j, ¬ P j → clN V 0 f' P 24 j = V 24 j := fun j hp => by
    have := clN_no (M := V) (s := 0) (f := f') (P := P) (q := j) (fun w => hp w.2)
    rw [Nat.mul_zero, Nat.zero_add] at this; exact this
  have u7 : ∀ j, j < f' → P j → clM U 0 f' P (8 + 3 * j) 7 = 0 := fun j hj hp => by
    have := clM_yes (M := U) (cb := 0) (f := f') hj hp
    rw [Nat.zero_add] at this; exact this
  have u7' : ∀ j, ¬ P j → clM U 0 f' P (8 + 3 * j) 7 = U (8 + 3 * j) 7 := fun j hp => by
    have := clM_no (M := U) (cb := 0) (f := f') (P := P) (q := j) (fun w => hp w.2)
    rw [Nat.zero_add] at this; exact this
  rw [u6, v 31 (by decide), v 25 (by decide), v 29 (by decide), v 30 (by decide)]
  refine ⟨ag, tm, ww, e1, e2, e3, e4, e5, e6, e7, e8, fun ⟨j, hj, hj1⟩ => ?_, by rw [v 26 (by decide), v 27 (by decide), v 28 (by decide)]; exact e10, fun j hj => ?_⟩
  · refine e9 ⟨j, hj, ?_⟩
    rcases Classical.em (P j) with hp | hp
    · rw [v24 j hj hp] at hj1; exact absurd hj1 (by decide)
    · rw [v24' j hp] at hj1; exact hj1
  · obtain ⟨p, q, z, sn, w1, w2, w3, w4, w5, w6, w7, w8, w9, w10, w11, w12, w13, w14, w15, w16, w17⟩ := e11 j hj
    have uj : ∀ x, x ≠ 7 → clM U 0 f' P (8 + 3 * j) x = U (8 + 3 * j) x := fun x hx => clM_j hx
    have u9 : clM U 0 f' P (9 + 3 * j) = U (9 + 3 * j) := clM_a (fun q _ => by omega)
    have u10 : clM U 0 f' P (10 + 3 * j) = U (10 + 3 * j) := clM_a (fun q _ => by omega)
    refine ⟨p, q, z, sn, w1, w2, w3, w4, w5, by rw [v 22 (by decide)]; exact w6, by rw [v 23 (by decide)]; exact w7, ?_, ?_, by rw [uj 2 (by decide)]; exact w10, by rw [uj 3 (by decide)]; exact w11, by rw [uj 4 (by decide)]; exact w12, by rw [uj 5 (by decide)]; exact w13, by rw [u9]; exact w14, w15, by rw [uj 6 (by decide)]; exact w16, by rw [u10, v 26 (by decide), v 27 (by decide), v 28 (by decide)]; exact w17⟩
    · rcases Classical.em (P j) with hp | hp
      · rw [v24 j hj hp]; exact Or.inl rfl
      · rw [v24' j hp]; exact w8
    · rcases Classical.em (P j) with hp | hp
      · rw [v24 j hj hp, u7 j hj hp]
      · rw [v24' j hp, u7' j hp]; exact w9
/-- the pieces that an ACK closes are the same in both -/
theorem hit_eq {z : Nat} {nN nE ld : Nat → Int32} {tm : Nat} {sn : Nat → Nat} (hc : c ≤ 8208) (hz : z ≤ 8) (hnm : ∀ x, x < z → nameR c (nN x) (nE x) (ld x)) {j : Nat} (hfr : ∀ x y : Nat, x ≤ 16 * 513 → y ≤ 3 → ((∃ i, i < sn j ∧ U (10 + 3 * j) i = nI (4 * x + y)) ↔ ∃ t, t < tm ∧ V 28 t = nI j ∧ V 27 t = nI x ∧ V 26 t = nI y)) : (∃ x, x < z ∧ ∃ i, i < sn j ∧ U (10 + 3 * j) i = ld x) ↔ ∃ x, x < z ∧ ∃ t, t < tm ∧ V 28 t = nI j ∧ V 26 t = nE x ∧ V 27 t = nN x := by
  constructor
  · rintro ⟨x, hx, i, hi, h⟩
    obtain ⟨a, b, a1, a2, a3, a4, a5⟩ := hnm x hx
    rw [a5] at h
    obtain ⟨t, t1, t2, t3, t4⟩ := (hfr a b (by omega) a2).mp ⟨i, hi, h⟩
    exact ⟨x, hx, t, t1, t2, by rw [a4]; exact t4, by rw [a3]; exact t3⟩
  · rintro ⟨x, hx, t, t1, t2, t3, t4⟩
    obtain ⟨a, b, a1, a2, a3, a4, a5⟩ := hnm x hx
    obtain ⟨i, h1, h2⟩ := (hfr a b (by omega) a2).mpr ⟨t, t1, t2, by rw [← a3]; exact t4, by rw [← a4]; exact t3⟩
    exact ⟨x, hx, i, h1, by rw [a5]; exact h2⟩
/-- what the flight says of the pieces' sendings -/
theorem fl_open (h : flR sd mt c s nf k U V) (hnf : nf ≤ 9) : ∃ (f tm : Nat) (sn : Nat → Nat), f ≤ nf ∧ U 6 1 = nI f ∧ V 21 0 = nI f ∧ (0 < f → tm ≤ 80 ∧ V 25 0 = nI tm ∧ ∀ t, t < tm → ∃ j, j < f ∧ V 28 t = nI j) ∧ ∀ j, j < f → sn j ≤ 7 ∧ U (8 + 3 * j) 6 = nI (sn j) ∧ (V 24 j = 0 ∨ V 24 j = 1) ∧ U (8 + 3 * j) 7 = V 24 j ∧ ∀ x y : Nat, x ≤ 16 * 513 → y ≤ 3 → ((∃ i, i < sn j ∧ U (10 + 3 * j) i = nI (4 * x + y)) ↔ ∃ t, t < tm ∧ V 28 t = nI j ∧ V 27 t = nI x ∧ V 26 t = nI y) := by
  obtain ⟨f, d1, d2, d3, d4⟩ := h
  rcases Nat.eq_zero_or_pos f with h0 | h0
  · subst h0
    exact ⟨0, 0, fun _ => 0, Nat.zero_le _, d2, d3, fun y => absurd y (Nat.lt_irrefl 0), fun j hj => absurd hj (Nat.not_lt_zero j)⟩
  · obtain ⟨ag, tm, ww, e1, e2, e3, e4, e5, e6, e7, e8, e9, e10, e11⟩ := d4 h0
    have hb : f * (ag + 1) ≤ 9 * 7 := Nat.mul_le_mul (by omega) (by omega)
    have hx : ∀ j, j < f → ∃ sn, sn ≤ 7 ∧ U (8 + 3 * j) 6 = nI sn ∧ (V 24 j = 0 ∨ V 24 j = 1) ∧ U (8 + 3 * j) 7 = V 24 j ∧ ∀ x y : Nat, x ≤ 16 * 513 → y ≤ 3 → ((∃ i, i < sn ∧ U (10 + 3 * j) i = nI (4 * x + y)) ↔ ∃ t, t < tm ∧ V 28 t = nI j ∧ V 27 t = nI x ∧ V 26 t = nI y) := fun j hj => by
      obtain ⟨p, q, z, sn, w1, w2, w3, w4, w5, w6, w7, w8, w9, w10, w11, w12, w13, w14, w15, w16, w17⟩ := e11 j hj
      exact ⟨sn, by omega, w16, w8, w9, w17⟩
    refine ⟨f, tm, fun j => if hj : j < f then Classical.choose (hx j hj) else 0, d1, d2, d3, fun _ => ⟨by omega, e6, fun t ht => ?_⟩, fun j hj => ?_⟩
    · obtain ⟨j, x, y, q1, q2, q3, q4, q5⟩ := e10 t ht
      exact ⟨j, q1, q4⟩
    · have := Classical.choose_spec (hx j hj)
      simp only [dif_pos hj]
      exact this
end AK2
