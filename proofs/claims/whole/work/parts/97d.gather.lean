/-! pieces of the server's flight at the client -/
/-- the bytes of the assembly and the reference's marks -/
def asmB (sd : Int32) (U : mM) (hs : Nat → Int32) : Prop := (∀ m, m < 6 → U 22 m = nI (asmS sd m)) ∧ (∀ p i, 3 ≤ p → p ≤ 6 → i < SZ sd p → (hs (48 * (p - 3) + i) = 1 ∧ U 23 (asmS sd (p - 2) + i) = CT sd p i) ∨ (hs (48 * (p - 3) + i) = 0 ∧ U 23 (asmS sd (p - 2) + i) = -1)) ∧ ∀ p i, 3 ≤ p → p ≤ 6 → SZ sd p ≤ i → i < 48 → hs (48 * (p - 3) + i) = 0
theorem asmS_next {sd : Int32} {p : Nat} (h3 : 3 ≤ p) (h6 : p ≤ 6) : asmS sd (p - 1) = asmS sd (p - 2) + SZ sd p ∧ asmS sd (p - 1) ≤ 14 + plS sd := by
  obtain ⟨-, -, -, s3, s4, s5, s6, -⟩ := SZ_v sd
  rcases (show p = 3 ∨ p = 4 ∨ p = 5 ∨ p = 6 by omega) with rfl | rfl | rfl | rfl
  · rw [s3]; exact ⟨rfl, by show 4 ≤ _; omega⟩
  · rw [s4]; exact ⟨rfl, by show 10 ≤ _; omega⟩
  · rw [s5]; exact ⟨rfl, by show 10 + plS sd ≤ _; omega⟩
  · rw [s6]; exact ⟨by show 14 + plS sd = 10 + plS sd + 4; omega, Nat.le_refl _⟩
section GA
variable {sd : Int32} {mt k c c' t : Nat} {U V U' V' : mM} {hs : Nat → Int32} {dl : Int32} {T T2 : mT} {R R2 : mR} {M M2 : mM}
theorem wc_startOf (hL : LC sd T R) (h150 : ∀ m, m < 6 → M 150 m = nI (asmS sd m)) {m : Nat} (hm : m ≤ 6) {Q : Int32 → Prop} (hq : Q (nI (if m < 6 then asmS sd m else 14 + plS sd))) : w_Asm_startOf 200 T R M 149 (nI m) Q := by
  refine ⟨hL.o_149, fun y => absurd y (nI_pos (by omega)), fun _ => ?_⟩
  rw [hL.r_149_0, hL.r_149_1, hL.l_150, hL.l_151]
  refine ⟨hL.o_150, fun y => ⟨hL.o_151, ?_⟩, fun y => ?_⟩
  · have : 6 ≤ m := (nI_leI (a := 6) (by decide) (by omega)).mp y
    rw [if_neg (by omega)] at hq; exact hq
  · have : ¬ 6 ≤ m := fun z => y (nI_le (a := 6) z (by omega))
    rw [nI_clamp (by omega), h150 m (by omega)]
    rw [if_pos (by omega)] at hq
    exact ⟨vp_in_nI (by omega) (by decide), hq⟩
theorem wc_hasNext (hL : LC sd T R) (h150 : ∀ m, m < 6 → M 150 m = nI (asmS sd m)) (h3 : 3 ≤ t) (h7 : t ≤ 7) (h2 : M 149 2 = nI (t - 2)) {Q : Int32 → Prop} (h1 : t ≤ 6 → (∀ i, i < SZ sd t → M 151 (asmS sd (t - 2) + i) ≠ -1) → Q 1) (h0 : (t = 7 ∨ ∃ i, i < SZ sd t ∧ M 151 (asmS sd (t - 2) + i) = -1) → Q 0) : w_Asm_hasNextMessage 200 T R M 149 Q := by
  have pl := plS_b sd
  refine ⟨hL.o_149, ?_⟩
  rw [h2, nI_1]
  refine wc_startOf hL h150 (by omega) (wc_startOf hL h150 (by omega) ?_)
  rw [if_pos (by omega : t - 2 < 6), show t - 2 + 1 = t - 1 by omega]
  by_cases ht : t = 7
  · subst ht
    refine ⟨1, ?_⟩
    unfold w_Asm_hasNextMessage_L20
    refine ⟨fun _ => ⟨hL.o_149, ?_⟩, fun y => absurd (nI_le (Nat.le_refl _) ?_) y⟩
    · rw [h2]
      exact ⟨fun y => absurd y (by decide), fun _ => ⟨fun y => absurd y (by decide), fun _ => h0 (Or.inl rfl)⟩⟩
    · show 14 + plS sd < 2 ^ 31
      omega
  · obtain ⟨n1, n2⟩ := asmS_next (sd := sd) h3 (by omega : t ≤ 6)
    rw [if_pos (by omega : t - 1 < 6), n1]
    rw [n1] at n2
    refine ⟨SZ sd t + 1, ?_⟩
    have lp : ∀ d i, i + d = SZ sd t → (∀ i', i' < i → M 151 (asmS sd (t - 2) + i') ≠ -1) → w_Asm_hasNextMessage_L20 200 T R M Q 149 (nI (asmS sd (t - 2) + SZ sd t)) (d + 1) (nI (asmS sd (t - 2) + i)) := by
      intro d
      induction d with
      | zero =>
        intro i hi hall
        have : i = SZ sd t := by omega
        subst this
        unfold w_Asm_hasNextMessage_L20
        refine ⟨fun _ => ⟨hL.o_149, ?_⟩, fun y => absurd (nI_le (Nat.le_refl _) (by omega)) y⟩
        rw [h2]
        exact ⟨fun _ => ⟨fun _ => h1 (by omega) hall, fun y => absurd rfl y⟩, fun y => absurd (nI_le (b := 4) (by omega) (by decide)) y⟩
      | succ d ih =>
        intro i hi hall
        unfold w_Asm_hasNextMessage_L20
        rw [hL.r_149_1, hL.l_151, nI_clamp (by omega)]
        refine ⟨fun y => absurd y (nI_ge (by omega) (by omega)), fun _ => ⟨hL.o_151, vp_in_nI (by omega) (by omega), fun y => h0 (Or.inr ⟨i, by omega, y⟩), fun y v8 e8 => ?_⟩⟩
        rw [e8, nI_1]
        refine ih (i + 1) (by omega) (fun i' hi' => ?_)
        rcases (show i' < i ∨ i' = i by omega) with z | z
        · exact hall i' z
        · rw [z]; exact y
    have := lp (SZ sd t) 0 (by omega) (fun i' hi' => absurd hi' (Nat.not_lt_zero i'))
    rw [Nat.add_zero] at this
    exact this
theorem wm_isWhole (hM : LM T2 R2) (hc1 : M2 1 1 = nI (plS sd)) (h3 : 3 ≤ t) (h6 : t ≤ 6) {Q : Int32 → Prop} (h1 : (∀ i, i < SZ sd t → M2 32 (48 * (t - 3) + i) ≠ 0) → Q 1) (h0 : (∃ i, i < SZ sd t ∧ M2 32 (48 * (t - 3) + i) = 0) → Q 0) : w_Mo_isWhole 34 T2 R2 M2 1 (nI t) Q := by
  have hszb : SZ sd t ≤ 43 := SZ_le sd t
  refine ⟨hM.ok1, SZ sd t + 1, ?_⟩
  have i3 : nI t - 3 = nI (t - 3) := nI_sub (b := 3) h3
  have lp : ∀ d i, i + d = SZ sd t → ∀ a : Int32, (a = 0 ∨ a = 1) → (a = 1 → ∀ i', i' < i → M2 32 (48 * (t - 3) + i') ≠ 0) → (a = 0 → ∃ i', i' < i ∧ M2 32 (48 * (t - 3) + i') = 0) → w_Mo_isWhole_L4 34 T2 R2 M2 Q 1 (nI t) (d + 1) a (nI i) := by
    intro d
    induction d with
    | zero =>
      intro i hi a ha ha1 ha0
      have : i = SZ sd t := by omega
      subst this
      unfold w_Mo_isWhole_L4
      refine wm_sizeOf hM.ok1 hc1 (by omega) ⟨fun _ => ⟨ha, ?_⟩, fun y => absurd (nI_le (Nat.le_refl _) (by show SZ sd t < 2 ^ 31; omega)) y⟩
      rcases ha with rfl | rfl
      · exact h0 (ha0 rfl)
      · exact h1 (ha1 rfl)
    | succ d ih =>
      intro i hi a ha ha1 ha0
      unfold w_Mo_isWhole_L4
      refine wm_sizeOf hM.ok1 hc1 (by omega) ⟨fun y => absurd y (nI_ge (by show i < SZ sd t; omega) (by show SZ sd t < _; omega)), fun _ => ?_⟩
      have i48 : (48 : Int32) * nI (t - 3) + nI i = nI (48 * (t - 3) + i) := i12 (a := 48)
      simp only [hM.r_11, hM.r_12, hM.r_13, hM.r_14, hM.r_15, hM.r_16, hM.r_17, hM.r_18, hM.r_19, hM.r_20, hM.r_21, hM.r_22, hM.r_23, hM.r_24, hM.r_25, hM.r_26, hM.r_27, hM.r_28, hM.r_29, hM.r_30, hM.r_31, hM.r_32, hM.r_33, hM.r_34, hM.r_35, hM.r_36, hM.r_37, hM.r_38, hM.r_39, hM.r_40, hM.r_41, hM.r_42, hM.r_43, hM.l_2, hM.l_3, hM.l_4, hM.l_5, hM.l_6, hM.l_7, hM.l_8, hM.l_9, hM.l_10, hM.l_11, hM.l_12, hM.l_13, hM.l_14, hM.l_15, hM.l_16, hM.l_17, hM.l_18, hM.l_19, hM.l_20, hM.l_21, hM.l_22, hM.l_23, hM.l_24, hM.l_25, hM.l_26, hM.l_27, hM.l_28, hM.l_29, hM.l_30, hM.l_31, hM.l_32, hM.l_33, hM.l_34]
      rw [i3, i48, nI_clamp (by omega)]
      refine ⟨fun y v4 e4 => ?_, fun y => ⟨hM.o_32, vp_in_nI (by omega) (by decide), fun z v7 e7 => ?_, fun z v8 e8 => ?_⟩⟩
      · rw [e4, nI_1]
        refine ih (i + 1) (by omega) 0 (Or.inl rfl) (fun z => absurd z (by decide)) (fun _ => ?_)
        obtain ⟨i', z1, z2⟩ := ha0 y
        exact ⟨i', by omega, z2⟩
      · rw [e7, nI_1]
        exact ih (i + 1) (by omega) 0 (Or.inl rfl) (fun z => absurd z (by decide)) (fun _ => ⟨i, by omega, z⟩)
      · rw [e8, nI_1]
        refine ih (i + 1) (by omega) 1 (Or.inr rfl) (fun _ i' hi' => ?_) (fun z => absurd z (by decide))
        rcases (show i' < i ∨ i' = i by omega) with w | w
        · exact ha1 (ha.resolve_left y) i' w
        · rw [w]; exact z
  exact lp (SZ sd t) 0 (by omega) 1 (Or.inr rfl) (fun _ i' hi' => absurd hi' (Nat.not_lt_zero i')) (fun z => absurd z (by decide))
/-- both take all messages that are whole, in order -/
theorem gather_both (hL : LC sd T R) (hM : LM T2 R2) {K : mM → Prop} : ∀ (d t mm : Nat) (U V M M2 : mM), t + d = 7 → 3 ≤ t → 1 ≤ mm → mm + 2 ≤ t → NS sd mt k c 0 128 24 U V U' V' hs dl R M M2 → asmB sd U hs → U 21 2 = nI (t - 2) → V 13 0 = nI t → U 0 10 = TD sd t → U 0 11 = nI (if 4 ≤ t then 2 else 0) → U 0 12 = nI (if 4 ≤ t then 2 else 0) →
    (∀ t' U1 V1 M' M2', t ≤ t' → t' ≤ 7 → (∀ Q', w_Mo_gather_B69 34 T2 R2 Q' 1 M2' → ∃ N32, w_Mo_gather_L32 34 T2 R2 Q' 1 N32 M2) → NS sd mt k c 0 128 24 U1 V1 U' V' hs dl R M' M2' → U1 21 2 = nI (t' - 2) → V1 13 0 = nI t' → U1 0 10 = TD sd t' → U1 0 11 = nI (if 4 ≤ t' then 2 else 0) → U1 0 12 = nI (if 4 ≤ t' then 2 else 0) → (∀ i, i ≠ 0 → i ≠ 21 → U1 i = U i) → (∀ j, j ≠ 10 → j ≠ 11 → j ≠ 12 → U1 0 j = U 0 j) → (∀ a, a ≠ 13 → V1 a = V a) → K M') → w_Client_takeFlightPiece_L28 200 T R K 128 (6 - mm) (nI mm) M := by
  intro d
  induction d with
  | zero =>
    intro t mm U V M M2 htd h3 hm1 hm2 h hB p21 p13 p10 p11 p12 hK
    have ht : t = 7 := by omega
    subst ht
    have v0s : vp_in (0 : Int32) 2 := vp_in_nI (n := 0) (by decide) (by decide)
    have e13 : M2 13 0 = nI 7 := (stA1_v h rfl).trans p13
    have fin : K M := hK 7 U V M M2 (Nat.le_refl _) (Nat.le_refl _) (fun Q' hq => ⟨1, by
      unfold w_Mo_gather_L32
      simp only [hM.r_11, hM.r_12, hM.r_13, hM.r_14, hM.r_15, hM.r_16, hM.r_17, hM.r_18, hM.r_19, hM.r_20, hM.r_21, hM.r_22, hM.r_23, hM.r_24, hM.r_25, hM.r_26, hM.r_27, hM.r_28, hM.r_29, hM.r_30, hM.r_31, hM.r_32, hM.r_33, hM.r_34, hM.r_35, hM.r_36, hM.r_37, hM.r_38, hM.r_39, hM.r_40, hM.r_41, hM.r_42, hM.r_43, hM.l_2, hM.l_3, hM.l_4, hM.l_5, hM.l_6, hM.l_7, hM.l_8, hM.l_9, hM.l_10, hM.l_11, hM.l_12, hM.l_13, hM.l_14, hM.l_15, hM.l_16, hM.l_17, hM.l_18, hM.l_19, hM.l_20, hM.l_21, hM.l_22, hM.l_23, hM.l_24, hM.l_25, hM.l_26, hM.l_27, hM.l_28, hM.l_29, hM.l_30, hM.l_31, hM.l_32, hM.l_33, hM.l_34]
      rw [e13]
      exact ⟨hM.o_13, v0s, fun _ => hq, fun y => absurd (by decide) y⟩⟩) h p21 p13 p10 p11 p12 (fun _ _ _ => rfl) (fun _ _ _ _ => rfl) (fun _ _ => rfl)
    rw [show 6 - mm = (5 - mm) + 1 by omega]
    unfold w_Client_takeFlightPiece_L28
    rw [hL.r_128_18]
    have e150 : ∀ m, m < 6 → M 150 m = nI (asmS sd m) := fun m hm => by
      have : M (128 + 22) m = U 22 m := h.u (by decide)
      exact this.trans (hB.1 m hm)
    have e149 : M 149 2 = nI (7 - 2) := by
      have : M (128 + 21) 2 = U 21 2 := h.u (by decide)
      exact this.trans p21
    exact ⟨fun _ => fin, fun _ => ⟨hL.o_149, wc_hasNext hL e150 (by decide) (Nat.le_refl 7) e149 (fun y => absurd y (by decide)) (fun _ => ⟨fun _ => fin, fun y => absurd rfl y⟩)⟩⟩
  | succ d ih =>
    intro t mm U V M M2 htd h3 hm1 hm2 h hB p21 p13 p10 p11 p12 hK
    have ht6 : t ≤ 6 := by omega
    have pl := plS_b sd
    have v0s : vp_in (0 : Int32) 2 := vp_in_nI (n := 0) (by decide) (by decide)
    have e13 : M2 13 0 = nI t := (stA1_v h rfl).trans p13
    have e32 : M2 32 = hs := h.2.2.2.2.2.2.2.2.1
    rw [show 6 - mm = (5 - mm) + 1 by omega]
    unfold w_Client_takeFlightPiece_L28
    rw [hL.r_128_18]
    have e150 : ∀ m, m < 6 → M 150 m = nI (asmS sd m) := fun m hm => by
      have : M (128 + 22) m = U 22 m := h.u (by decide)
      exact this.trans (hB.1 m hm)
    have e149 : M 149 2 = nI (t - 2) := by
      have : M (128 + 21) 2 = U 21 2 := h.u (by decide)
      exact this.trans p21
    have e151 : ∀ j, M 151 j = U 23 j := fun j => h.u (i := 23) (by decide)
    have hB2 := hB.2.1 t
    refine ⟨fun y => absurd y (nI_nlt (a := 4) (by omega) (by decide)), fun _ => ⟨hL.o_149, wc_hasNext hL e150 h3 (by omega) e149 (fun _ hall => ⟨fun y => absurd y (by decide), fun _ => ?_⟩) (fun hno => ⟨fun _ => ?_, fun y => absurd rfl y⟩)⟩⟩
    · -- the next message is whole
      have hcon : ∀ i, i < SZ sd t → hs (48 * (t - 3) + i) = 1 ∧ U 23 (asmS sd (t - 2) + i) = CT sd t i := fun i hi => by
        rcases hB2 i h3 ht6 hi with y | ⟨-, y⟩
        · exact y
        · exact absurd ((e151 _).trans y) (hall i hi)
      obtain ⟨n1, n2⟩ := asmS_next (sd := sd) h3 ht6
      refine ⟨hL.o_128, ?_⟩
      rw [hL.r_128_18, hL.r_149_1]
      refine ⟨hL.o_149, fun v2 e2 => ⟨hL.o_151, ?_⟩⟩
      rw [e149] at e2
      subst e2
      rw [nI_1, show t - 2 + 1 = t - 1 by omega]
      refine wc_startOf hL e150 (by omega) (wc_startOf hL e150 (by omega) ?_)
      rw [if_pos (by omega : t - 2 < 6), if_pos (by omega : t - 1 < 6), n1]
      rw [n1] at n2
      refine wc_addBytes (T := T) (R := R) (M := M) (cb := 128) (Or.inl hL.o_128) hL.o_151 hL.l_151 (a := asmS sd (t - 2)) (n := SZ sd t) n2 (by omega) (by decide) (f := CT sd t) (fun i hi => (e151 _).trans (hcon i hi).2) (fun M7 e7 => ?_)
      have e10 : M 128 10 = TD sd t := (h.u0 sd0).trans p10
      rw [e10, show tel (CT sd t) (TD sd t) (SZ sd t) = TD sd (t + 1) from rfl] at e7
      have hA := ((h.upd0 sd0 (j := 10) (x := TD sd (t + 1))).setU sd0 (i := 21) (j := 2) (x := nI (t - 1)) (by decide)).setV1 sd0 (a := 13) (x := nI (t + 1)) rfl
      have hA' : NS sd mt k c 0 128 24 (sM (sM U 0 10 (TD sd (t + 1))) 21 2 (nI (t - 1))) (sM V 13 0 (nI (t + 1))) U' V' hs dl R M7 (sM M2 13 0 (nI (t + 1))) := by rw [e7]; exact hA
      clear hA
      have run : ∀ Q' : mM → Prop, (∃ N32, w_Mo_gather_L32 34 T2 R2 Q' 1 N32 (sM M2 13 0 (nI (t + 1)))) → ∃ N32, w_Mo_gather_L32 34 T2 R2 Q' 1 N32 M2 := by
        rintro Q' ⟨N, hN⟩
        refine ⟨N + 1, ?_⟩
        unfold w_Mo_gather_L32
        simp only [hM.r_11, hM.r_12, hM.r_13, hM.r_14, hM.r_15, hM.r_16, hM.r_17, hM.r_18, hM.r_19, hM.r_20, hM.r_21, hM.r_22, hM.r_23, hM.r_24, hM.r_25, hM.r_26, hM.r_27, hM.r_28, hM.r_29, hM.r_30, hM.r_31, hM.r_32, hM.r_33, hM.r_34, hM.r_35, hM.r_36, hM.r_37, hM.r_38, hM.r_39, hM.r_40, hM.r_41, hM.r_42, hM.r_43, hM.l_2, hM.l_3, hM.l_4, hM.l_5, hM.l_6, hM.l_7, hM.l_8, hM.l_9, hM.l_10, hM.l_11, hM.l_12, hM.l_13, hM.l_14, hM.l_15, hM.l_16, hM.l_17, hM.l_18, hM.l_19, hM.l_20, hM.l_21, hM.l_22, hM.l_23, hM.l_24, hM.l_25, hM.l_26, hM.l_27, hM.l_28, hM.l_29, hM.l_30, hM.l_31, hM.l_32, hM.l_33, hM.l_34]
        rw [e13]
        refine ⟨hM.o_13, v0s, fun y => absurd y (nI_ge (b := 7) (by omega) (by decide)), fun _ => ⟨v0s, wm_isWhole hM h.2.2.1.2.1 h3 ht6 (fun _ => ⟨fun y => absurd y (by decide), fun _ => ⟨v0s, v0s, fun M20 e20 => ?_⟩⟩) (fun ⟨i, z1, z2⟩ => ?_)⟩⟩
        · rw [nI_1] at e20
          rw [e20]; exact hN
        · rw [e32, (hcon i z1).1] at z2
          exact absurd z2 (by decide)
      have hBt : ∀ X : mM, (∀ i, i ≠ 0 → i ≠ 21 → X i = U i) → asmB sd X hs := fun X hX => by
        obtain ⟨y1, y2, y3⟩ := hB
        refine ⟨by rw [hX 22 (by decide) (by decide)]; exact y1, by rw [hX 23 (by decide) (by decide)]; exact y2, y3⟩
      have cont : ∀ (X N : mM), NS sd mt k c 0 128 24 X (sM V 13 0 (nI (t + 1))) U' V' hs dl R N (sM M2 13 0 (nI (t + 1))) → (∀ i, i ≠ 0 → i ≠ 21 → X i = U i) → (∀ j, j ≠ 10 → j ≠ 11 → j ≠ 12 → X 0 j = U 0 j) → X 21 2 = nI (t - 1) → X 0 10 = TD sd (t + 1) → X 0 11 = 2 → X 0 12 = 2 → w_Client_takeFlightPiece_L28 200 T R K 128 (5 - mm) (nI (mm + 1)) N := by
        intro X N hN x1 x2 x3 x4 x5 x6
        have := ih (t + 1) (mm + 1) X (sM V 13 0 (nI (t + 1))) N (sM M2 13 0 (nI (t + 1))) (by omega) (by omega) (by omega) (by omega) hN (hBt X x1) (by rw [x3]; rfl) sM_e x4 (by rw [x5, if_pos (by omega)]; rfl) (by rw [x6, if_pos (by omega)]; rfl) (fun t' U1 V1 M' M2' k1 k2 k3 k4 k5 k6 k7 k8 k9 k10 k11 k12 => hK t' U1 V1 M' M2' (by omega) k2 (fun Q' hq => run Q' (k3 Q' hq)) k4 k5 k6 k7 k8 k9 (fun i j1 j2 => by rw [k10 i j1 j2, x1 i j1 j2]) (fun j j1 j2 j3 => by rw [k11 j j1 j2 j3, x2 j j1 j2 j3]) (fun a j1 => by rw [k12 a j1, sM_k a j1]))
        rw [show 6 - (mm + 1) = 5 - mm by omega] at this
        exact this
      refine ⟨fun y M8 e8 M9 e9 v14 e14 => ?_, fun y v14 e14 => ?_⟩
      · rw [e14, nI_1]
        have hC := (hA'.upd0 sd0 (j := 11) (x := 2)).upd0 sd0 (j := 12) (x := 2)
        rw [← e8, ← e9] at hC
        exact cont _ M9 hC (fun i j1 j2 => by rw [sM_k i j1, sM_k i j1, sM_k i j2, sM_k i j1]) (fun j j1 j2 j3 => by rw [sM_j j j3, sM_j j j2, sM_k 0 (by decide), sM_j j j1]) (by rw [sM_k 21 (by decide), sM_k 21 (by decide), sM_e]) (by rw [sM_j 10 (by decide), sM_j 10 (by decide), sM_k 0 (by decide), sM_e]) (by rw [sM_j 11 (by decide), sM_e]) sM_e
      · rw [e14, nI_1]
        have ht4 : 4 ≤ t := by
          rcases (show t = 3 ∨ 4 ≤ t by omega) with z | z
          · rw [z] at y; exact absurd rfl y
          · exact z
        rw [if_pos ht4] at p11 p12
        exact cont _ M7 hA' (fun i j1 j2 => by rw [sM_k i j2, sM_k i j1]) (fun j j1 j2 j3 => by rw [sM_k 0 (by decide), sM_j j j1]) sM_e (by rw [sM_k 0 (by decide), sM_e]) (by rw [sM_k 0 (by decide), sM_j 11 (by decide)]; exact p11) (by rw [sM_k 0 (by decide), sM_j 12 (by decide)]; exact p12)
    · -- it isn't
      refine hK t U V M M2 (Nat.le_refl _) (by omega) (fun Q' hq => ⟨1, ?_⟩) h p21 p13 p10 p11 p12 (fun _ _ _ => rfl) (fun _ _ _ _ => rfl) (fun _ _ => rfl)
      unfold w_Mo_gather_L32
      simp only [hM.r_11, hM.r_12, hM.r_13, hM.r_14, hM.r_15, hM.r_16, hM.r_17, hM.r_18, hM.r_19, hM.r_20, hM.r_21, hM.r_22, hM.r_23, hM.r_24, hM.r_25, hM.r_26, hM.r_27, hM.r_28, hM.r_29, hM.r_30, hM.r_31, hM.r_32, hM.r_33, hM.r_34, hM.r_35, hM.r_36, hM.r_37, hM.r_38, hM.r_39, hM.r_40, hM.r_41, hM.r_42, hM.r_43, hM.l_2, hM.l_3, hM.l_4, hM.l_5, hM.l_6, hM.l_7, hM.l_8, hM.l_9, hM.l_10, hM.l_11, hM.l_12, hM.l_13, hM.l_14, hM.l_15, hM.l_16, hM.l_17, hM.l_18, hM.l_19, hM.l_20, hM.l_21, hM.l_22, hM.l_23, hM.l_24, hM.l_25, hM.l_26, hM.l_27, hM.l_28, hM.l_29, hM.l_30, hM.l_31, hM.l_32, hM.l_33, hM.l_34]
      rw [e13]
      refine ⟨hM.o_13, v0s, fun _ => hq, fun _ => ⟨v0s, wm_isWhole hM h.2.2.1.2.1 h3 ht6 (fun hall => ?_) (fun _ => ⟨fun _ => hq, fun y => absurd rfl y⟩)⟩⟩
      rcases hno with y | ⟨i, y1, y2⟩
      · omega
      · rcases hB2 i h3 ht6 y1 with ⟨-, z⟩ | ⟨z, -⟩
        · rw [e151, z] at y2
          exact absurd y2 (CT_ne sd t i)
        · have := hall i y1
          rw [e32] at this
          exact absurd z this
end GA
