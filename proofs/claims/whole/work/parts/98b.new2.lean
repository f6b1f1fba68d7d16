/-! the constructors: a flight, a side, the assembly, the net -/
section NX
variable {sd : Int32} {mt n k lo hi nf : Nat} {T : mT} {R : mR} {M : mM}
theorem wc_flightI (hnf : 1 ≤ nf ∧ nf ≤ 9) (h0 : 0 < lo) (hfr : ∀ i, i < nf → isFr (lo + 2 + 3 * i)) (t0 : TC (plS sd) lo = (2, 0)) (t1 : TC (plS sd) (lo + 1) = (103, nf)) (t2 : ∀ i, i < nf → TC (plS sd) (lo + 2 + 3 * i) = (1, 0)) (c0 : RC0 lo = fun j => if j = 0 then lo + 1 else 0) (c1 : ∀ j, RC0 (lo + 1) j = if j < nf then lo + 2 + 3 * j else 0) (m0 : MC sd mt lo = fun _ => 0) (m1 : MC sd mt (lo + 1) = fun _ => 0) (hT : tI sd lo T) (hR : R lo = fun _ => 0) (hM : M lo = fun _ => 0) (hhi : hi = lo + 1 + 3 * nf) {Q : Nat → mT → mR → mM → Prop} (hq : ∀ T' R' M', Stm sd mt lo hi R M T' R' M' → Q hi T' R' M') : w_Flight_init lo T R M lo (nI nf) Q := by
  refine ⟨hT.o h0 (Nat.le_refl lo) (by rw [t0]), ⟨nI_pos (by omega), by rw [nI_clamp (by omega)]; exact hnf.2⟩, fun T1 R2 M3 y1 y2 y3 R6 y6 => ⟨nf + 1, ?_⟩⟩
  rw [nI_clamp (by omega)] at y1
  have lp : ∀ d i, i + d = nf → ∀ (T' : mT) (R' : mR) (M' : mM), tI sd (lo + 1 + 3 * i) T' → (∀ k, k < lo → R' k = R k ∧ M' k = M k) → R' lo = RC0 lo → M' lo = MC sd mt lo → (∀ j, R' (lo + 1) j = if j < i then lo + 2 + 3 * j else 0) → M' (lo + 1) = MC sd mt (lo + 1) → (∀ k, lo + 2 ≤ k → k ≤ lo + 1 + 3 * i → R' k = RC0 k ∧ M' k = MC sd mt k) → w_Flight_init_L14 Q lo (nI nf) (d + 1) (nI i) (lo + 1 + 3 * i) T' R' M' (1 + 3 * i) (9 + 39 * i) := by
    intro d
    induction d with
    | zero =>
      intro i hi' T' R' M' p1 p2 p3 p4 p5 p6 p7
      have : i = nf := by omega
      subst this
      unfold w_Flight_init_L14
      refine ⟨fun _ => ?_, fun y => absurd (nI_le (Nat.le_refl i) (by omega)) y⟩
      rw [← hhi]
      rw [← hhi] at p1 p7
      refine hq T' R' M' ⟨p1, p2, fun k h1 h2 => ?_⟩
      rcases (show k = lo ∨ k = lo + 1 ∨ lo + 2 ≤ k by omega) with rfl | rfl | y
      · exact ⟨p3, p4⟩
      · exact ⟨by funext j; rw [p5, c1], p6⟩
      · exact p7 k y h2
    | succ d ih =>
      intro i hi' T' R' M' p1 p2 p3 p4 p5 p6 p7
      have hi2 : i < nf := by omega
      unfold w_Flight_init_L14
      have rl : R' lo 0 = lo + 1 := by rw [p3, c0]; rfl
      rw [rl, nI_clamp (by omega)]
      refine ⟨fun y => absurd y (nI_ge hi2 (by omega)), fun _ => ⟨p1.o (by omega) (by omega) (by rw [t1]), by omega, by omega, fun T9 R10 M11 z1 z2 z3 => ⟨by omega, by omega, ?_⟩⟩⟩
      have en : lo + 1 + 3 * i + 1 = lo + 2 + 3 * i := by omega
      have z1' : tI sd (lo + 2 + 3 * i) T9 := by
        rw [z1, ← en]
        exact p1.s (by rw [en]; exact t2 i hi2)
      rw [en] at z2 z3 ⊢
      refine wc_fragI (sd := sd) (mt := mt) (hfr i hi2) z1' (by rw [z2, zR_e]) (by rw [z3, zM_e]) (fun T18 R19 M20 ⟨s1, s2, s3⟩ => ⟨s1.o (by omega) (by omega) (by rw [t1]), ?_, s1.o (by omega) (by omega) (by rw [t2 i hi2]), fun R24 z24 v25 z25 => ⟨s1.o (by omega) (by omega) (by rw [t0]), ?_⟩⟩)
      · rw [s1 (lo + 1) (by omega) (by omega), t1]; exact vp_in_nI hi2 (by omega)
      · rw [z25, nI_1]
        have := ih (i + 1) (by omega) T18 R24 M20 (by rw [show lo + 1 + 3 * (i + 1) = lo + 2 + 3 * i + 2 by omega]; exact s1) (fun k hk => ?_) ?_ ?_ (fun j => ?_) ?_ (fun k h1 h2 => ?_)
        · rw [show lo + 1 + 3 * (i + 1) = lo + 2 + 3 * i + 2 by omega, show 1 + 3 * (i + 1) = 1 + 3 * i + 3 by omega, show 9 + 39 * (i + 1) = 9 + 39 * i + 39 by omega] at this
          exact this
        · rw [z24, sRk (by omega), (s2 k (by omega)).1, (s2 k (by omega)).2, z2, zR_k (by omega), z3, zM_k (by omega)]; exact p2 k hk
        · rw [z24, sRk (by omega), (s2 lo (by omega)).1, z2, zR_k (by omega)]; exact p3
        · rw [(s2 lo (by omega)).2, z3, zM_k (by omega)]; exact p4
        · rw [z24, sR_t, (s2 (lo + 1) (by omega)).1, z2, zR_k (by omega), p5]
          by_cases y : j = i
          · subst y; rw [if_pos rfl, if_pos (by omega)]
          · rw [if_neg y]
            by_cases y2 : j < i
            · rw [if_pos y2, if_pos (by omega)]
            · rw [if_neg y2, if_neg (by omega)]
        · rw [(s2 (lo + 1) (by omega)).2, z3, zM_k (by omega)]; exact p6
        · rcases (show k ≤ lo + 1 + 3 * i ∨ lo + 2 + 3 * i ≤ k by omega) with y | y
          · rw [z24, sRk (by omega), (s2 k (by omega)).1, (s2 k (by omega)).2, z2, zR_k (by omega), z3, zM_k (by omega)]; exact p7 k h1 y
          · have := s3 k y (by omega)
            exact ⟨by rw [z24, sRk (by omega)]; exact this.1, this.2⟩
  have := lp nf 0 (by omega) T1 R6 M3 (by rw [y1]; exact hT.s t1) (fun k hk => ⟨by rw [y6, sRk (by omega), y2, zR_k (by omega)], by rw [y3, zM_k (by omega)]⟩) (by rw [c0]; funext j; rw [y6, sR_t, y2, zR_k (by omega), hR]) (by rw [m0, y3, zM_k (by omega), hM]) (fun j => by rw [y6, sRk (by omega), y2, zR_e, if_neg (Nat.not_lt_zero j)]) (by rw [m1, y3, zM_e]) (fun k h1 h2 => absurd h1 (by omega))
  exact this
/-- a side's own cell, once the side's part is made -/
def rs (cb j : Nat) : Nat := if j = 2 then 2 else if j = 3 then cb + 6 else if j = 4 then cb + 1 else if j = 5 then cb + 3 else if j = 6 then cb + 4 else if j = 7 then cb + 5 else 0
theorem wc_sideI {cb s : Nat} {tg : Nat} (h0 : 2 < cb) (hcb : cb ≤ 152) (hnf : 1 ≤ nf ∧ nf ≤ 9) (htg : tg = 8 ∨ tg = 9) (t0 : TC (plS sd) cb = (tg, 0)) (t1 : TC (plS sd) (cb + 1) = (6, 0)) (t2 : TC (plS sd) (cb + 2) = (100, 8)) (t3 : TC (plS sd) (cb + 3) = (104, 4)) (t4 : TC (plS sd) (cb + 4) = (100, 4)) (t5 : TC (plS sd) (cb + 5) = (100, 60)) (t6 : TC (plS sd) (cb + 6) = (2, 0)) (t7 : TC (plS sd) (cb + 7) = (103, nf)) (t8 : ∀ i, i < nf → TC (plS sd) (cb + 6 + 2 + 3 * i) = (1, 0)) (t9 : ∀ e, e < 4 → TC (plS sd) (cb + 8 + 3 * nf + e) = (5, 0)) (tn : TC (plS sd) 2 = (4, 0)) (hfr : ∀ i, i < nf → isFr (cb + 6 + 2 + 3 * i))
    (c1 : RC0 (cb + 1) = fun j => if j = 0 then cb + 2 else 0) (c2 : RC0 (cb + 2) = fun _ => 0) (c3 : ∀ j, RC0 (cb + 3) j = if j < 4 then cb + 8 + 3 * nf + j else 0) (c4 : RC0 (cb + 4) = fun _ => 0) (c5 : RC0 (cb + 5) = fun _ => 0) (c6 : RC0 (cb + 6) = fun j => if j = 0 then cb + 7 else 0) (c7 : ∀ j, RC0 (cb + 7) j = if j < nf then cb + 8 + 3 * j else 0) (c9 : ∀ e, e < 4 → RC0 (cb + 8 + 3 * nf + e) = fun _ => 0)
    (m1 : ∀ i, 1 ≤ i → i ≤ 7 → MC sd mt (cb + i) = fun _ => 0) (m9 : ∀ e, e < 4 → MC sd mt (cb + 8 + 3 * nf + e) = ms (-1) 0) (hT : tI sd cb T) (hR : R cb = fun _ => 0) (hM : M cb = fun _ => 0) (hhi : hi = cb + 11 + 3 * nf) {Q : Nat → mT → mR → mM → Prop}
    (hq : ∀ T' R' M', tI sd hi T' → (∀ k, k < cb → R' k = R k ∧ M' k = M k) → R' cb = rs cb → M' cb = ms (nI s) (nI mt) → (∀ k, cb < k → k ≤ hi → R' k = RC0 k ∧ M' k = MC sd mt k) → Q hi T' R' M') : w_Side_init cb T R M cb (nI s) (nI mt) 2 (nI nf) Q := by
  have okc : ∀ {n : Nat} {T' : mT}, tI sd n T' → cb ≤ n → okS T' n cb := fun h hn => by
    rcases htg with y | y
    · exact Or.inl (h.o (by omega) hn (by rw [t0]; exact y))
    · exact Or.inr (h.o (by omega) hn (by rw [t0]; exact y))
  refine ⟨okc hT (Nat.le_refl cb), fun T1 R2 M3 a1 a2 a3 => ?_⟩
  have hT1 : tI sd (cb + 1) T1 := by rw [a1]; exact hT.s t1
  refine wc_notedI (mt := mt) (by omega) t1 t2 c1 c2 (m1 1 (by decide) (by decide)) (m1 2 (by decide) (by decide)) hT1 (by rw [a2, zR_e]) (by rw [a3, zM_e]) (fun T6 R7 M8 ⟨s1, s2, s3⟩ => ⟨okc s1 (by omega), s1.o (by omega) (by omega) (by rw [t1]), fun R11 b11 T12 R13 M14 b12 b13 b14 R16 b16 T17 R18 M19 b17 b18 b19 R21 b21 T22 R23 M24 b22 b23 b24 R26 b26 M27 b27 M28 b28 M29 b29 M30 b30 => ?_⟩)
  have hT22 : tI sd (cb + 5) T22 := by
    rw [b22, b17, b12]
    exact ((s1.s t3).s t4).s t5
  refine ⟨hT22.o (by decide) (by omega) (by rw [tn]), fun R32 b32 T33 R34 M35 b33 b34 b35 => ?_⟩
  have hT33 : tI sd (cb + 6) T33 := by rw [b33]; exact hT22.s t6
  -- where we are
  have k1 : ∀ k, k < cb → R34 k = R k ∧ M35 k = M k := fun k hk => by
    refine ⟨?_, ?_⟩
    · rw [b34, zR_k (by omega), b32, sRk (by omega), b26, sRk (by omega), b23, zR_k (by omega), b21, sRk (by omega), b18, zR_k (by omega), b16, sRk (by omega), b13, zR_k (by omega), b11, sRk (by omega), (s2 k (by omega)).1, a2, zR_k (by omega)]
    · rw [b35, zM_k (by omega), b30, sM_k k (by omega), b29, sM_k k (by omega), b28, sM_k k (by omega), b27, sM_k k (by omega), b24, zM_k (by omega), b19, zM_k (by omega), b14, zM_k (by omega), (s2 k (by omega)).2, a3, zM_k (by omega)]
  have k2 : ∀ j, R34 cb j = if j = 3 then 0 else rs cb j := fun j => by
    rw [b34, zR_k (by omega), b32, sR_t, b26, sR_t, b23, zR_k (by omega), b21, sR_t, b18, zR_k (by omega), b16, sR_t, b13, zR_k (by omega), b11, sR_t, (s2 cb (by omega)).1, a2, zR_k (by omega), hR]
    unfold rs
    (repeat' split) <;> first | rfl | omega
  have k3 : M35 cb = ms (nI s) (nI mt) := by
    funext j
    rw [b35, zM_k (by omega), b30, sM_t, b29, sM_t, b28, sM_t, b27, sM_t, b24, zM_k (by omega), b19, zM_k (by omega), b14, zM_k (by omega), (s2 cb (by omega)).2, a3, zM_k (by omega), hM]
    unfold ms
    (repeat' split) <;> first | rfl | omega
  have k4 : ∀ k, cb < k → k ≤ cb + 5 → k ≠ cb + 3 → R34 k = RC0 k ∧ M35 k = MC sd mt k := fun k h1 h2 h3 => by
    rcases (show k = cb + 1 ∨ k = cb + 2 ∨ k = cb + 4 ∨ k = cb + 5 by omega) with y | y | y | y
    · subst y
      have := s3 (cb + 1) (by omega) (by omega)
      refine ⟨?_, ?_⟩
      · rw [b34, zR_k (by omega), b32, sRk (by omega), b26, sRk (by omega), b23, zR_k (by omega), b21, sRk (by omega), b18, zR_k (by omega), b16, sRk (by omega), b13, zR_k (by omega), b11, sRk (by omega)]; exact this.1
      · rw [b35, zM_k (by omega), b30, sM_k _ (by omega), b29, sM_k _ (by omega), b28, sM_k _ (by omega), b27, sM_k _ (by omega), b24, zM_k (by omega), b19, zM_k (by omega), b14, zM_k (by omega)]; exact this.2
    · subst y
      have := s3 (cb + 2) (by omega) (by omega)
      refine ⟨?_, ?_⟩
      · rw [b34, zR_k (by omega), b32, sRk (by omega), b26, sRk (by omega), b23, zR_k (by omega), b21, sRk (by omega), b18, zR_k (by omega), b16, sRk (by omega), b13, zR_k (by omega), b11, sRk (by omega)]; exact this.1
      · rw [b35, zM_k (by omega), b30, sM_k _ (by omega), b29, sM_k _ (by omega), b28, sM_k _ (by omega), b27, sM_k _ (by omega), b24, zM_k (by omega), b19, zM_k (by omega), b14, zM_k (by omega)]; exact this.2
    · subst y
      refine ⟨?_, ?_⟩
      · rw [c4, b34, zR_k (by omega), b32, sRk (by omega), b26, sRk (by omega), b23, zR_k (by omega), b21, sRk (by omega), b18, zR_e]
      · rw [m1 4 (by decide) (by decide), b35, zM_k (by omega), b30, sM_k _ (by omega), b29, sM_k _ (by omega), b28, sM_k _ (by omega), b27, sM_k _ (by omega), b24, zM_k (by omega), b19, zM_e]
    · subst y
      refine ⟨?_, ?_⟩
      · rw [c5, b34, zR_k (by omega), b32, sRk (by omega), b26, sRk (by omega), b23, zR_e]
      · rw [m1 5 (by decide) (by decide), b35, zM_k (by omega), b30, sM_k _ (by omega), b29, sM_k _ (by omega), b28, sM_k _ (by omega), b27, sM_k _ (by omega), b24, zM_e]
  have k5 : R34 (cb + 3) = (fun _ => 0) ∧ M35 (cb + 3) = fun _ => 0 := by
    refine ⟨?_, ?_⟩
    · rw [b34, zR_k (by omega), b32, sRk (by omega), b26, sRk (by omega), b23, zR_k (by omega), b21, sRk (by omega), b18, zR_k (by omega), b16, sRk (by omega), b13, zR_e]
    · rw [b35, zM_k (by omega), b30, sM_k _ (by omega), b29, sM_k _ (by omega), b28, sM_k _ (by omega), b27, sM_k _ (by omega), b24, zM_k (by omega), b19, zM_k (by omega), b14, zM_e]
  have z6 : R34 (cb + 6) = (fun _ => 0) ∧ M35 (cb + 6) = fun _ => 0 := ⟨by rw [b34, zR_e], by rw [b35, zM_e]⟩
  refine wc_flightI (lo := cb + 6) (nf := nf) (mt := mt) (hi := cb + 7 + 3 * nf) hnf (by omega) hfr t6 t7 t8 c6 (fun j => by rw [c7]) (m1 6 (by decide) (by decide)) (m1 7 (by decide) (by decide)) hT33 z6.1 z6.2 (by omega) (fun T38 R39 M40 ⟨f1, f2, f3⟩ => ⟨okc f1 (by omega), f1.o (by omega) (by omega) (by rw [t6]), fun R43 b43 => ⟨5, ?_⟩⟩)
  -- the windows
  have lp : ∀ d e, e + d = 4 → ∀ (T' : mT) (R' : mR) (M' : mM), tI sd (cb + 7 + 3 * nf + e) T' → (∀ k, k < cb → R' k = R k ∧ M' k = M k) → R' cb = rs cb → M' cb = ms (nI s) (nI mt) → (∀ k, cb < k → k ≤ cb + 7 + 3 * nf + e → k ≠ cb + 3 → R' k = RC0 k ∧ M' k = MC sd mt k) → (∀ j, R' (cb + 3) j = if j < e then cb + 8 + 3 * nf + j else 0) → M' (cb + 3) = (fun _ => 0) → w_Side_init_L79 Q cb (d + 1) (nI e) (cb + 7 + 3 * nf + e) T' R' M' (34 + e) (443 + 2 * e) := by
    intro d
    induction d with
    | zero =>
      intro e he T' R' M' p1 p2 p3 p4 p5 p6 p7
      have : e = 4 := by omega
      subst this
      unfold w_Side_init_L79
      have r5 : R' cb 5 = cb + 3 := by rw [p3]; rfl
      rw [r5, p1 (cb + 3) (by omega) (by omega), t3]
      refine ⟨p1.o (by omega) (by omega) (by rw [t3]), fun _ => ?_, fun y => absurd (nI_le (Nat.le_refl 4) (by decide)) y⟩
      rw [show cb + 7 + 3 * nf + 4 = hi by omega] at p1 p5 ⊢
      refine hq T' R' M' p1 p2 p3 p4 (fun k h1 h2 => ?_)
      by_cases y : k = cb + 3
      · subst y
        exact ⟨by funext j; rw [p6, c3], by rw [p7, m1 3 (by decide) (by decide)]⟩
      · exact p5 k h1 h2 y
    | succ d ih =>
      intro e he T' R' M' p1 p2 p3 p4 p5 p6 p7
      unfold w_Side_init_L79
      have r5 : R' cb 5 = cb + 3 := by rw [p3]; rfl
      rw [r5, p1 (cb + 3) (by omega) (by omega), t3, nI_clamp (by omega)]
      have en : cb + 7 + 3 * nf + e + 1 = cb + 8 + 3 * nf + e := by omega
      refine ⟨p1.o (by omega) (by omega) (by rw [t3]), fun y => absurd y (nI_ge (b := 4) (by omega) (by decide)), fun _ => ⟨by omega, by omega, fun T46 R47 M48 z1 z2 z3 => ?_⟩⟩
      rw [en] at z1 z2 z3 ⊢
      have z1' : tI sd (cb + 8 + 3 * nf + e) T46 := by
        have := p1.s (v := (5, 0)) (by rw [en]; exact t9 e (by omega))
        rw [en] at this
        rw [z1]; exact this
      refine ⟨z1'.o (by omega) (by omega) (by rw [t9 e (by omega)]), fun M52 z52 => ⟨?_, fun R54 z54 v55 z55 => ?_⟩⟩
      · rw [z1' (cb + 3) (by omega) (by omega), t3]; exact vp_in_nI (by omega) (by decide)
      · rw [z55, nI_1]
        have := ih (e + 1) (by omega) T46 R54 M52 (by rw [show cb + 7 + 3 * nf + (e + 1) = cb + 8 + 3 * nf + e by omega]; exact z1') (fun k hk => ?_) ?_ ?_ (fun k h1 h2 h3 => ?_) (fun j => ?_) ?_
        · rw [show cb + 7 + 3 * nf + (e + 1) = cb + 8 + 3 * nf + e by omega, show 34 + (e + 1) = 34 + e + 1 by omega, show 443 + 2 * (e + 1) = 443 + 2 * e + 2 by omega] at this
          exact this
        · rw [z54, sRk (by omega), z2, zR_k (by omega), z52, sM_k k (by omega), z3, zM_k (by omega)]; exact p2 k hk
        · rw [z54, sRk (by omega), z2, zR_k (by omega)]; exact p3
        · rw [z52, sM_k cb (by omega), z3, zM_k (by omega)]; exact p4
        · rcases (show k ≤ cb + 7 + 3 * nf + e ∨ k = cb + 8 + 3 * nf + e by omega) with y | y
          · rw [z54, sRk (by omega), z2, zR_k (by omega), z52, sM_k k (by omega), z3, zM_k (by omega)]; exact p5 k h1 y h3
          · subst y
            refine ⟨by rw [z54, sRk (by omega), z2, zR_e, c9 e (by omega)], ?_⟩
            rw [m9 e (by omega)]
            funext j
            rw [z52, sM_t, z3, zM_e]
            unfold ms
            (repeat' split) <;> rfl
        · rw [z54, sR_t, z2, zR_k (by omega), p6]
          by_cases y : j = e
          · subst y; rw [if_pos rfl, if_pos (by omega)]
          · rw [if_neg y]
            by_cases y2 : j < e
            · rw [if_pos y2, if_pos (by omega)]
            · rw [if_neg y2, if_neg (by omega)]
        · rw [z52, sM_k _ (by omega), z3, zM_k (by omega)]; exact p7
  have := lp 4 0 (by omega) T38 R43 M40 f1 (fun k hk => by rw [b43, sRk (by omega), (f2 k (by omega)).1, (f2 k (by omega)).2]; exact k1 k hk) (by
    funext j
    rw [b43, sR_t, (f2 cb (by omega)).1, k2]
    unfold rs
    (repeat' split) <;> omega) (by rw [(f2 cb (by omega)).2]; exact k3) (fun k h1 h2 h3 => by
      rcases (show k ≤ cb + 5 ∨ cb + 6 ≤ k by omega) with y | y
      · rw [b43, sRk (by omega), (f2 k (by omega)).1, (f2 k (by omega)).2]; exact k4 k h1 y h3
      · rw [b43, sRk (by omega)]; exact f3 k y (by omega)) (fun j => by rw [b43, sRk (by omega), (f2 _ (by omega)).1, k5.1, if_neg (Nat.not_lt_zero j)]) (by rw [(f2 _ (by omega)).2]; exact k5.2)
  exact this
theorem wc_netI (hT : tI sd 2 T) (hR : R 2 = fun _ => 0) (hM : M 2 = fun _ => 0) {Q : Nat → mT → mR → mM → Prop} (hq : ∀ T' R' M', Stm sd mt 2 127 R M T' R' M' → Q 127 T' R' M') : w_Net_init 2 T R M 2 Q := by
  have tc : ∀ k, k < 200 → k ≠ 151 → TC (plS sd) k = TC 0 k := TC_pl sd
  have t2 : TC (plS sd) 2 = (4, 0) := rfl
  have t3 : TC (plS sd) 3 = (102, 60) := rfl
  have c2 : ∀ j, RC0 2 j = if j = 0 then 3 else if j = 1 then 4 else if j = 2 then 6 else 0 := fun j => by
    show (if 2 = 2 ∧ j = 1 then 4 else if j = 0 then 3 else if j = 2 then 6 else 0) = _
    (repeat' split) <;> first | rfl | omega
  have c3 : ∀ j, RC0 3 j = if j < 60 then 8 + 2 * j else 0 := fun j => rfl
  have mz : ∀ k, k < 128 → MC sd mt k = fun _ => 0 := fun k hk => MC_0 (by omega) (by omega) (by omega) (by omega)
  refine ⟨hT.o (by decide) (Nat.le_refl 2) (by rw [t2]), fun T1 R2 M3 a1 a2 a3 R5 a5 T6 R7 M8 a6 a7 a8 => ?_⟩
  have hT6 : tI sd 4 T6 := by rw [a6, a1]; exact (hT.s t3).s rfl
  refine wc_recI (sd := sd) (mt := mt) (r := 4) ⟨by decide, by decide, by decide⟩ hT6 (by rw [a7, zR_e]) (by rw [a8, zM_e]) (fun T11 R12 M13 ⟨s1, s2, s3⟩ => ⟨s1.o (by decide) (by decide) (by rw [t2]), s1.o (by decide) (by decide) rfl, fun R16 b16 T17 R18 M19 b17 b18 b19 => ?_⟩)
  refine wc_recI (sd := sd) (mt := mt) (r := 6) ⟨by decide, by decide, by decide⟩ (by rw [b17]; exact s1.s rfl) (by rw [b18, zR_e]) (by rw [b19, zM_e]) (fun T22 R23 M24 ⟨u1, u2, u3⟩ => ⟨u1.o (by decide) (by decide) (by rw [t2]), u1.o (by decide) (by decide) rfl, fun R27 b27 => ⟨61, ?_⟩⟩)
  have lp : ∀ d i, i + d = 60 → ∀ (T' : mT) (R' : mR) (M' : mM), tI sd (7 + 2 * i) T' → (∀ k, k < 2 → R' k = R k ∧ M' k = M k) → R' 2 = RC0 2 → (∀ j, R' 3 j = if j < i then 8 + 2 * j else 0) → (∀ k, 4 ≤ k → k ≤ 7 + 2 * i → R' k = RC0 k) → (∀ k, 2 ≤ k → k ≤ 7 + 2 * i → M' k = MC sd mt k) → w_Net_init_L37 Q 2 (d + 1) (nI i) (7 + 2 * i) T' R' M' (5 + 2 * i) (126 + 33 * i) := by
    intro d
    induction d with
    | zero =>
      intro i hi T' R' M' p1 p2 p3 p4 p5 p6
      have : i = 60 := by omega
      subst this
      unfold w_Net_init_L37
      have r0 : R' 2 0 = 3 := by rw [p3]; rfl
      rw [r0, p1 3 (by decide) (by decide), t3]
      refine ⟨p1.o (by decide) (by decide) (by rw [t3]), fun _ => hq T' R' M' ⟨p1, p2, fun k h1 h2 => ⟨?_, p6 k h1 h2⟩⟩, fun y => absurd (nI_le (Nat.le_refl 60) (by decide)) y⟩
      rcases (show k = 2 ∨ k = 3 ∨ 4 ≤ k by omega) with y | y | y
      · subst y; exact p3
      · subst y; funext j; rw [p4, c3]
      · exact p5 k y h2
    | succ d ih =>
      intro i hi T' R' M' p1 p2 p3 p4 p5 p6
      unfold w_Net_init_L37
      have r0 : R' 2 0 = 3 := by rw [p3]; rfl
      have hrc : isRec (8 + 2 * i) := ⟨by omega, by omega, by omega⟩
      have ⟨q1, q2⟩ := TC_rec (sd := sd) hrc
      rw [r0, p1 3 (by decide) (by omega), t3, nI_clamp (by omega)]
      have en : 7 + 2 * i + 1 = 8 + 2 * i := by omega
      refine ⟨p1.o (by decide) (by omega) (by rw [t3]), fun y => absurd y (nI_ge (b := 60) (by omega) (by decide)), fun _ => ⟨by omega, by omega, fun T30 R31 M32 z1 z2 z3 => ⟨by omega, by omega, ?_⟩⟩⟩
      rw [en] at z1 z2 z3 ⊢
      have z1' : tI sd (8 + 2 * i) T30 := by
        have := p1.s (v := (3, 0)) (by rw [en]; exact q1)
        rw [en] at this
        rw [z1]; exact this
      refine wc_recI (sd := sd) (mt := mt) hrc z1' (by rw [z2, zR_e]) (by rw [z3, zM_e]) (fun T39 R40 M41 ⟨s1, s2, s3⟩ => ⟨s1.o (by decide) (by omega) (by rw [t3]), ?_, s1.o (by omega) (by omega) (by rw [q1]), fun R45 z45 v46 z46 => ⟨s1.o (by decide) (by omega) (by rw [t2]), ?_⟩⟩)
      · rw [s1 3 (by decide) (by omega), t3]; exact vp_in_nI (by omega) (by decide)
      · rw [z46, nI_1]
        have := ih (i + 1) (by omega) T39 R45 M41 (by rw [show 7 + 2 * (i + 1) = 8 + 2 * i + 1 by omega]; exact s1) (fun k hk => ?_) ?_ (fun j => ?_) (fun k h1 h2 => ?_) (fun k h1 h2 => ?_)
        · rw [show 7 + 2 * (i + 1) = 8 + 2 * i + 1 by omega, show 5 + 2 * (i + 1) = 5 + 2 * i + 2 by omega, show 126 + 33 * (i + 1) = 126 + 33 * i + 33 by omega] at this
          exact this
        · rw [z45, sRk (by omega), (s2 k (by omega)).1, (s2 k (by omega)).2, z2, zR_k (by omega), z3, zM_k (by omega)]; exact p2 k hk
        · rw [z45, sRk (by decide), (s2 2 (by omega)).1, z2, zR_k (by omega)]; exact p3
        · rw [z45, sR_t, (s2 3 (by omega)).1, z2, zR_k (by omega), p4]
          by_cases y : j = i
          · subst y; rw [if_pos rfl, if_pos (by omega)]
          · rw [if_neg y]
            by_cases y2 : j < i
            · rw [if_pos y2, if_pos (by omega)]
            · rw [if_neg y2, if_neg (by omega)]
        · rcases (show k ≤ 7 + 2 * i ∨ 8 + 2 * i ≤ k by omega) with y | y
          · rw [z45, sRk (by omega), (s2 k (by omega)).1, z2, zR_k (by omega)]; exact p5 k h1 y
          · rw [z45, sRk (by omega)]; exact (s3 k y (by omega)).1
        · rcases (show k ≤ 7 + 2 * i ∨ 8 + 2 * i ≤ k by omega) with y | y
          · rw [(s2 k (by omega)).2, z3, zM_k (by omega)]; exact p6 k h1 y
          · exact (s3 k y (by omega)).2
  have base : ∀ k, k ≠ 2 → k ≤ 5 → R27 k = R16 k := fun k h1 h2 => by rw [b27, sRk h1, (u2 k (by omega)).1, b18, zR_k (by omega)]
  have := lp 60 0 (by decide) T22 R27 M24 u1 (fun k hk => ⟨?_, ?_⟩) ?_ (fun j => ?_) (fun k h1 h2 => ?_) (fun k h1 h2 => ?_)
  · exact this
  · rw [base k (by omega) (by omega), b16, sRk (by omega), (s2 k (by omega)).1, a7, zR_k (by omega), a5, sRk (by omega), a2, zR_k (by omega)]
  · rw [(u2 k (by omega)).2, b19, zM_k (by omega), (s2 k (by omega)).2, a8, zM_k (by omega), a3, zM_k (by omega)]
  · funext j
    rw [c2, b27, sR_t, (u2 2 (by decide)).1, b18, zR_k (by decide), b16, sR_t, (s2 2 (by decide)).1, a7, zR_k (by decide), a5, sR_t, a2, zR_k (by decide), hR]
    (repeat' split) <;> first | rfl | omega
  · rw [base 3 (by decide) (by decide), b16, sRk (by decide), (s2 3 (by decide)).1, a7, zR_k (by decide), a5, sRk (by decide), a2, zR_e, if_neg (Nat.not_lt_zero j)]
  · rcases (show k ≤ 5 ∨ 6 ≤ k by omega) with y | y
    · rw [base k (by omega) y, b16, sRk (by omega)]; exact (s3 k (by omega) (by omega)).1
    · rw [b27, sRk (by omega)]; exact (u3 k y (by omega)).1
  · rcases (show k ≤ 3 ∨ (4 ≤ k ∧ k ≤ 5) ∨ 6 ≤ k by omega) with y | y | y
    · rw [(u2 k (by omega)).2, b19, zM_k (by omega), (s2 k (by omega)).2, a8, zM_k (by omega), mz k (by omega), a3]
      rcases (show k = 2 ∨ k = 3 by omega) with rfl | rfl
      · rw [zM_k (by decide), hM]
      · rw [zM_e]
    · rw [(u2 k (by omega)).2, b19, zM_k (by omega)]; exact (s3 k y.1 y.2).2
    · exact (u3 k y (by omega)).2
end NX
