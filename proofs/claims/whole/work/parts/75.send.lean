/-! a record is put on the net by both -/
/-- the reference's memory with a record (f, k, e, n) behind m others -/
def puM (M : mM) (m : Nat) (f k e n : Int32) : mM := fun a j => if a = 1 ∧ j = 8 then nI (m + 1) else if a = 1 ∧ j = 10 then M 1 10 + 1 else if 2 ≤ a ∧ a ≤ 9 ∧ j = m then (if a = 2 then f else if a = 3 then k else if a = 4 then e else if a = 5 then n else 0) else M a j
def loM (M : mM) : mM := sM (sM M 1 10 (M 1 10 + 1)) 1 9 (M 1 9 + 1)
section AP
variable {sd : Int32} {c mt k m : Nat} {T T2 : mT} {R R2 : mR} {M M2 : mM}
theorem wm_put (hM : LM T2 R2) (hm : m ≤ 60) (e2 : M2 1 8 = nI m) {x1 x2 x3 x4 : Int32} {Q : Int32 → mM → Prop} (h1 : m < 60 → Q (nI m) (puM M2 m x1 x2 x3 x4)) (h2 : m = 60 → Q (-1) (loM M2)) : w_Mo_put 34 T2 R2 M2 1 x1 x2 x3 x4 Q := by
  refine ⟨hM.ok1, fun M1 e1 => ?_⟩
  have c8 : M1 1 8 = nI m := by rw [e1, sM_j 8 (by decide)]; exact e2
  rw [c8]
  refine ⟨fun q M3 e3 => ?_, fun q => ?_⟩
  · have hm60 : m = 60 := (nI_eq (a := m) (b := 60) (by omega) (by decide)).mp q
    have c9 : M1 1 9 = M2 1 9 := by rw [e1, sM_j 9 (by decide)]
    rw [c9] at e3
    subst e3; subst e1
    exact h2 hm60
  · have hm60 : m < 60 := by
      rcases (show m < 60 ∨ m = 60 by omega) with z | z
      · exact z
      · subst z; exact absurd rfl q
    simp only [hM.r_11, hM.r_12, hM.r_13, hM.r_14, hM.r_15, hM.r_16, hM.r_17, hM.r_18, hM.r_19, hM.r_20, hM.r_21, hM.r_22, hM.r_23, hM.r_24, hM.r_25, hM.r_26, hM.r_27, hM.r_28, hM.r_29, hM.r_30, hM.r_31, hM.r_32, hM.r_33, hM.r_34, hM.r_35, hM.r_36, hM.r_37, hM.r_38, hM.r_39, hM.r_40, hM.r_41, hM.r_42, hM.r_43, hM.l_2, hM.l_3, hM.l_4, hM.l_5, hM.l_6, hM.l_7, hM.l_8, hM.l_9, hM.l_10, hM.l_11, hM.l_12, hM.l_13, hM.l_14, hM.l_15, hM.l_16, hM.l_17, hM.l_18, hM.l_19, hM.l_20, hM.l_21, hM.l_22, hM.l_23, hM.l_24, hM.l_25, hM.l_26, hM.l_27, hM.l_28, hM.l_29, hM.l_30, hM.l_31, hM.l_32, hM.l_33, hM.l_34]
    rw [nI_clamp (by omega)]
    have im : vp_in (nI m) 60 := vp_in_nI hm60 (by decide)
    refine ⟨hM.o_2, im, fun M5 e5 => ?_⟩
    have d5 : M5 1 8 = nI m := by rw [e5, sM_k 1 (by decide)]; exact c8
    rw [d5, nI_clamp (by omega)]
    refine ⟨hM.o_3, im, fun M8 e8 => ?_⟩
    have d8 : M8 1 8 = nI m := by rw [e8, sM_k 1 (by decide)]; exact d5
    rw [d8, nI_clamp (by omega)]
    refine ⟨hM.o_4, im, fun M11 e11 => ?_⟩
    have d11 : M11 1 8 = nI m := by rw [e11, sM_k 1 (by decide)]; exact d8
    rw [d11, nI_clamp (by omega)]
    refine ⟨hM.o_5, im, fun M14 e14 => ?_⟩
    have d14 : M14 1 8 = nI m := by rw [e14, sM_k 1 (by decide)]; exact d11
    rw [d14, nI_clamp (by omega)]
    refine ⟨hM.o_6, im, fun M17 e17 => ?_⟩
    have d17 : M17 1 8 = nI m := by rw [e17, sM_k 1 (by decide)]; exact d14
    rw [d17, nI_clamp (by omega)]
    refine ⟨hM.o_7, im, fun M20 e20 => ?_⟩
    have d20 : M20 1 8 = nI m := by rw [e20, sM_k 1 (by decide)]; exact d17
    rw [d20, nI_clamp (by omega)]
    refine ⟨hM.o_8, im, fun M23 e23 => ?_⟩
    have d23 : M23 1 8 = nI m := by rw [e23, sM_k 1 (by decide)]; exact d20
    rw [d23, nI_clamp (by omega)]
    refine ⟨hM.o_9, im, fun M26 e26 M27 e27 => ?_⟩
    have d26 : M26 1 8 = nI m := by rw [e26, sM_k 1 (by decide)]; exact d23
    rw [d26, nI_1] at e27
    have d27 : M27 1 8 = nI (m + 1) := by rw [e27, sM_e]
    rw [d27, nI_pred]
    have : M27 = puM M2 m x1 x2 x3 x4 := by
      subst e27 e26 e23 e20 e17 e14 e11 e8 e5 e1
      funext a j
      simp only [sMt, puM]
      by_cases ha : a = 1
      · subst ha
        by_cases hj : j = 8
        · subst hj; simp
        · by_cases hj : j = 10
          · subst hj; simp
          · simp_all
      · by_cases hj : j = m
        · subst hj
          by_cases h29 : 2 ≤ a ∧ a ≤ 9
          · rcases (show a = 2 ∨ a = 3 ∨ a = 4 ∨ a = 5 ∨ a = 6 ∨ a = 7 ∨ a = 8 ∨ a = 9 by omega) with rfl | rfl | rfl | rfl | rfl | rfl | rfl | rfl <;> simp
          · have : a ≠ 2 ∧ a ≠ 3 ∧ a ≠ 4 ∧ a ≠ 5 ∧ a ≠ 6 ∧ a ≠ 7 ∧ a ≠ 8 ∧ a ≠ 9 := by omega
            obtain ⟨b1, b2, b3, b4, b5, b6, b7, b8⟩ := this
            simp [ha, b1, b2, b3, b4, b5, b6, b7, b8]
            intro h1 h2; omega
        · simp [ha, hj]
    rw [this]
    exact h1 hm60
theorem wc_append (hL : LC sd T R) (hr : rowsOK R) (hm : m ≤ 60) (e1 : M 2 3 = nI m) {x1 x2 x3 x4 : Int32} {Q : Nat → mM → Prop} (h1 : m < 60 → Q (R 3 m) (putRec (sM (sM M 2 5 (M 2 5 + 1)) 2 3 (nI (m + 1))) (R 3 m) (adF x1 x2 x3 x4 (M (R 3 m))))) (h2 : m = 60 → Q 6 (putRec (sM (sM M 2 5 (M 2 5 + 1)) 2 4 (M 2 4 + 1)) 6 (adF x1 x2 x3 x4 (M 6)))) : w_Net_append 200 T R M 2 x1 x2 x3 x4 Q := by
  refine ⟨hL.o_2, fun M1 e => ?_⟩
  simp only [hL.r_2_2, hL.r_2_0, hL.l_3]
  have c3 : M1 2 3 = nI m := by rw [e, sM_j 3 (by decide)]; exact e1
  have c4 : M1 2 4 = M 2 4 := by rw [e, sM_j 4 (by decide)]
  have o6 : ok T 200 6 3 := (hL.rec ⟨by decide, by decide, by decide⟩).1
  rw [c3, c4]
  refine ⟨o6, hL.o_3, fun q M4 e4 => ?_, fun q => ?_⟩
  · have hm60 : m = 60 := by
      rcases (show m < 60 ∨ m = 60 by omega) with z | z
      · exact absurd q (nI_ge z (by decide))
      · exact z
    subst e4; subst e
    refine wc_address o6 ?_
    rw [sM_k 6 (by decide), sM_k 6 (by decide)]
    exact h2 hm60
  · have hm60 : m < 60 := Nat.not_le.mp fun z => q (nI_le z (by omega))
    obtain ⟨b0, b1, b2, b3, b4⟩ := row_ok hL hr hm60
    rw [nI_clamp (by omega)]
    refine ⟨vp_in_nI hm60 (by decide), b1, fun M9 e9 => ?_⟩
    rw [nI_1] at e9
    subst e9; subst e
    obtain ⟨y1, y2, y3⟩ := b0
    refine wc_address b1 ?_
    rw [sM_k _ (by omega), sM_k _ (by omega)]
    exact h1 hm60
/-- a record that is lost on both sides -/
theorem NetRel.lose {M' M2' : mM} (h : NetRel sd c R (nw M) (nv M2)) (hM : ∀ a, 2 < a → a < 128 → a ≠ 6 → a ≠ 7 → M' a = M a) (h3 : M' 2 3 = M 2 3) (h4 : M' 2 4 = M 2 4 + 1) (h8 : M2' 1 8 = M2 1 8) (h9 : M2' 1 9 = M2 1 9 + 1) (hV : ∀ a, 2 ≤ a → a ≤ 11 → M2' a = M2 a) : NetRel sd c R (nw M') (nv M2') := by
  obtain ⟨hro, hl, m, hm, hu, hv, hrec⟩ := h
  rw [nw_at (by decide)] at hu
  rw [nv_at (by decide)] at hv
  rw [nw_at (by decide), nv_at (by decide)] at hl
  refine ⟨hro, ?_, m, hm, ?_, ?_, fun i hi => ?_⟩
  · rw [nw_at (by decide), nv_at (by decide), h4, h9, hl]
  · rw [nw_at (by decide), h3]; exact hu
  · rw [nv_at (by decide), h8]; exact hv
  · obtain ⟨⟨d1, d2, d3⟩, d4⟩ := hro.1 i (by omega)
    refine recR_congr (hrec i hi) (fun j => ?_) ?_ (fun a ha hb => ?_) (fun j hj => ?_) (fun j hj => ?_)
    · rw [nw_at ⟨by omega, by omega⟩, nw_at ⟨by omega, by omega⟩, hM _ (by omega) (by omega) d4 (by omega)]
    · funext j; rw [nw_at ⟨by omega, by omega⟩, nw_at ⟨by omega, by omega⟩, hM _ (by omega) (by omega) (by omega) (by omega)]
    · rw [nv_at (Or.inr ⟨ha, by omega⟩), nv_at (Or.inr ⟨ha, by omega⟩), hV a ha (by omega)]
    · rw [nv_at (Or.inr ⟨by decide, by decide⟩), nv_at (Or.inr ⟨by decide, by decide⟩), hV 10 (by decide) (by decide)]
    · rw [nv_at (Or.inr ⟨by decide, by decide⟩), nv_at (Or.inr ⟨by decide, by decide⟩), hV 11 (by decide) (by decide)]
end AP
section TN
variable {sd : Int32} {c mt k s cb nf w : Nat} {T T2 : mT} {R R2 : mR} {M M2 : mM}
theorem wc_takeNumber (hS : LSd T R cb nf) {e a : Nat} (he : e < 4) (h4 : M (cb + 4) e = nI a) {Q : Int32 → mM → Prop} (hq : Q (nI a) (sM M (cb + 4) e (nI (a + 1)))) : w_Side_takeNumber 200 T R M cb (nI e) Q := by
  obtain ⟨g0, ⟨-, -, -, -, g6, -⟩, -, -, ⟨g7, g8⟩, -⟩ := hS
  refine ⟨g0, ?_⟩
  rw [g6, g8, nI_clamp (by omega)]
  refine ⟨g7, vp_in_nI he (by decide), fun v3 e3 => ⟨vp_in_nI he (by decide), fun M5 e5 => ?_⟩⟩
  rw [h4] at e3
  subst e3
  rw [nI_1] at e5
  subst e5
  exact hq
/-- both sides take the number a of epoch e -/
theorem SimP.num (hs : isSd s cb nf w) (h : SimP sd mt k c R M M2) {e : Nat} (he : e < 4) (hb : c + 1 ≤ 8208) : ∃ a : Nat, a ≤ c ∧ M (cb + 4) e = nI a ∧ M2 14 (4 * s + e) = nI a ∧ SimP sd mt k (c + 1) R (sM M (cb + 4) e (nI (a + 1))) (sM M2 14 (4 * s + e) (nI (a + 1))) := by
  have hS := h.side hs
  have hw : 12 ≤ w := by rcases hs with ⟨-, -, -, rfl⟩ | ⟨-, -, -, rfl⟩ <;> decide
  obtain ⟨a, h1, h2, h3⟩ := hS.2.2.1 e he
  rw [uw_at (by omega)] at h2
  rw [vw_at (by show e < 4; exact he)] at h3
  refine ⟨a, h1, h2, h3, ?_⟩
  have uu : uw (sM M (cb + 4) e (nI (a + 1))) cb w = sM (uw M cb w) 4 e (nI (a + 1)) := uw_in (by omega)
  have vv : vw (sM M2 14 (4 * s + e) (nI (a + 1))) s = sM (vw M2 s) 14 e (nI (a + 1)) := vw_in (k := 14) (by show e < 4; exact he)
  refine h.setS hs (by omega) hb (fun a' ha' => sM_k a' (by omega)) (fun a' j hj => ?_) (fun a' j hj => ?_) ?_ ?_
  · rw [sMt, if_neg (fun q => by rw [q.1] at hj; exact absurd hj (by decide))]
  · rw [sMt, if_neg (fun q => by
      obtain ⟨rfl, rfl⟩ := q
      have : stA 14 = 4 := rfl
      rw [this] at hj; omega)]
  · rw [uu, vv]; exact hS.num he h1
  · rw [uu, vv]
    rcases hs with ⟨rfl, rfl, rfl, rfl⟩ | ⟨rfl, rfl, rfl, rfl⟩
    · exact h.2.2.2.2.2.2.1.cg (sM_k 13 (by decide)) (by rw [sM_k 0 (by decide)]) (fun i _ _ => sM_k i (by omega)) (sM_k 32 (by decide))
    · exact h.2.2.2.2.2.2.2.cg (fun j _ => by rw [sM_k 0 (by decide)]) (by rw [sM_k 6 (by decide)]) (by rw [sM_k 35 (by decide)]) (fun i _ _ => sM_k i (by omega))
theorem wm_writes (hM : LM T2 R2) (hs : s ≤ 1) {t e : Nat} (ht : t ≤ 8) (h13 : M2 13 s = nI t) (he : e = 0 ∨ e = 2 ∨ e = 3) {Q : Int32 → Prop} (hq : Q (if e ≤ wrP s t then 1 else 0)) : w_Mo_writes 34 T2 R2 M2 1 (nI s) (nI e) Q := by
  refine ⟨hM.ok1, ?_⟩
  rw [hM.r_22, hM.l_13, nI_clamp (by omega), h13]
  refine ⟨hM.o_13, vp_in_nI (by omega) (by decide), fun v3 e3 => ?_⟩
  subst e3
  have s0 : nI s = 0 ↔ s = 0 := nI_eq (b := 0) (by omega) (by decide)
  have l4 : nI t < 4 ↔ t < 4 := nI_ltI (b := 4) (by omega) (by decide)
  have l7 : nI t < 7 ↔ t < 7 := nI_ltI (b := 7) (by omega) (by decide)
  have l8 : nI t = 8 ↔ t = 8 := nI_eq (b := 8) (by omega) (by decide)
  rw [s0, l4, l7, l8]
  unfold wrP at hq
  rcases he with rfl | rfl | rfl
  · rw [if_pos (Nat.zero_le _)] at hq
    exact ⟨fun _ => hq, fun q => absurd rfl q⟩
  · refine ⟨fun q => absurd q (by decide), fun _ => ⟨fun _ => ⟨fun z => ⟨fun y => ?_, fun y => ?_⟩, fun z => ⟨fun y => ?_, fun y => ?_⟩⟩, fun q => absurd rfl q⟩⟩
    · rw [if_neg (by omega : ¬ t = 8), if_pos z, if_neg (by omega : ¬ 4 ≤ t), if_neg (by decide)] at hq; exact hq
    · by_cases t8 : t = 8
      · rw [if_pos t8, if_pos (by decide)] at hq; exact hq
      · rw [if_neg t8, if_pos z, if_pos (by omega : 4 ≤ t), if_pos (by decide)] at hq; exact hq
    · rw [if_neg (by omega : ¬ t = 8), if_neg z, if_neg (by omega : ¬ 7 ≤ t), if_neg (by decide)] at hq; exact hq
    · by_cases t8 : t = 8
      · rw [if_pos t8, if_pos (by decide)] at hq; exact hq
      · rw [if_neg t8, if_neg z, if_pos (by omega : 7 ≤ t), if_pos (by decide)] at hq; exact hq
  · refine ⟨fun q => absurd q (by decide), fun _ => ⟨fun q => absurd q (by decide), fun _ => ⟨fun y => ?_, fun y => ?_⟩⟩⟩
    · rw [if_pos y, if_pos (by decide)] at hq; exact hq
    · rw [if_neg y] at hq
      have : ¬ 3 ≤ (if (if s = 0 then 4 else 7) ≤ t then 2 else 0) := by split <;> split <;> decide
      rw [if_neg this] at hq; exact hq
end TN
