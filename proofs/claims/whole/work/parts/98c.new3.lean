/-! the constructors: the assembly, the client, the server, all of it -/
section NY
variable {sd : Int32} {mt n k : Nat} {T : mT} {R : mR} {M : mM}
theorem pl_and (sd : Int32) : (12 : Int32) + (sd &&& 31) = nI (plS sd) := by
  have h : (sd &&& 31) = nI (sd.toBitVec.toNat % 32) := by
    refine Int32.toBitVec_inj.mp (BitVec.eq_of_toNat_eq ?_)
    show (sd.toBitVec &&& 31#32).toNat = (BitVec.ofNat 32 (sd.toBitVec.toNat % 32)).toNat
    rw [BitVec.toNat_and, BitVec.toNat_ofNat, BitVec.toNat_ofNat]
    have : 31 % 2 ^ 32 = 2 ^ 5 - 1 := by decide
    rw [this, Nat.and_two_pow_sub_one_eq_mod]
    omega
  rw [h]
  exact nI_add 12 _
theorem wc_asmI (hT : tI sd 149 T) (hR : R 149 = fun _ => 0) (hM : M 149 = fun _ => 0) {Q : Nat → mT → mR → mM → Prop} (hq : ∀ T' R' M', Stm sd mt 149 151 R M T' R' M' → Q 151 T' R' M') : w_Asm_init 149 T R M 149 (nI (plS sd)) Q := by
  have pl := plS_b sd
  have t149 : TC (plS sd) 149 = (7, 0) := rfl
  have t150 : TC (plS sd) 150 = (100, 6) := rfl
  have t151 : TC (plS sd) 151 = (100, 14 + plS sd) := rfl
  refine ⟨hT.o (by decide) (Nat.le_refl _) (by rw [t149]), fun T1 R2 M3 a1 a2 a3 R5 a5 M6 a6 => ?_⟩
  have hT1 : tI sd 150 T1 := by rw [a1]; exact hT.s t150
  have r0 : R5 149 0 = 150 := by rw [a5, sR_t, if_pos rfl]
  have l0 : (T1 150).2 = 6 := by rw [hT1 150 (by decide) (by decide), t150]
  rw [r0, l0]
  have v : ∀ m, m < 6 → vp_in (nI m) 6 := fun m hm => vp_in_nI hm (by decide)
  refine ⟨hT1.o (by decide) (by decide) (by rw [t150]), v 2 (by decide), fun M9 a9 => ⟨v 2 (by decide), v 3 (by decide), fun M12 a12 => ⟨v 3 (by decide), v 4 (by decide), fun M15 a15 => ⟨v 4 (by decide), v 5 (by decide), fun M18 a18 => ⟨v 5 (by decide), ?_⟩⟩⟩⟩⟩
  have x9 : M9 150 2 = nI 4 := by rw [a9, sM_e]; rfl
  have x12 : M12 150 3 = nI 10 := by rw [a12, sM_e, x9]; rfl
  have x15 : M15 150 4 = nI (10 + plS sd) := by rw [a15, sM_e, x12, nI_add]
  have x18 : M18 150 5 = nI (14 + plS sd) := by
    rw [a18, sM_e, x15]
    have : nI (10 + plS sd) + 4 = nI (10 + plS sd + 4) := nI_add _ 4
    rw [this]; congr 1; omega
  rw [x18, nI_clamp (by omega)]
  refine ⟨⟨nI_pos (by omega), by omega⟩, fun T20 R21 M22 a20 a21 a22 R25 a25 => ⟨14 + plS sd + 1, ?_⟩⟩
  have hT20 : tI sd 151 T20 := by rw [a20]; exact hT1.s t151
  have r25 : R25 149 1 = 151 := by rw [a25, sR_t, if_pos rfl]
  have s6 : ∀ j, M6 150 j = 0 := fun j => by rw [a6, sM_k _ (by decide), a3, zM_e]
  have s9 : ∀ j, M9 150 j = if j = 2 then nI 4 else 0 := fun j => by rw [a9, sM_t, s6]; rfl
  have s12 : ∀ j, M12 150 j = if j = 3 then nI 10 else M9 150 j := fun j => by rw [a12, sM_t, x9]; rfl
  have s15 : ∀ j, M15 150 j = if j = 4 then nI (10 + plS sd) else M12 150 j := fun j => by rw [a15, sM_t, x12, nI_add]
  have s18 : ∀ j, M18 150 j = if j = 5 then nI (14 + plS sd) else M15 150 j := fun j => by
    by_cases y : j = 5
    · rw [y, x18, if_pos rfl]
    · rw [if_neg y, a18, sM_t, if_neg y]
  have m150 : ∀ j, M22 150 j = if j < 6 then nI (asmS sd j) else 0 := fun j => by
    rw [a22, zM_k (by decide), s18, s15, s12, s9]
    by_cases y6 : j < 6
    · rw [if_pos y6]
      rcases (show j = 0 ∨ j = 1 ∨ j = 2 ∨ j = 3 ∨ j = 4 ∨ j = 5 by omega) with rfl | rfl | rfl | rfl | rfl | rfl <;> rfl
    · rw [if_neg y6, if_neg (by omega), if_neg (by omega), if_neg (by omega), if_neg (by omega)]
  have lp : ∀ d i, i + d = 14 + plS sd → ∀ M' : mM, (∀ k, k ≠ 151 → M' k = M22 k) → (∀ j, M' 151 j = if j < i then -1 else 0) → w_Asm_init_L81 Q 149 (d + 1) (nI i) 151 T20 R25 M' := by
    intro d
    induction d with
    | zero =>
      intro i hi M' p1 p2
      have : i = 14 + plS sd := by omega
      subst this
      unfold w_Asm_init_L81
      rw [r25, hT20 151 (by decide) (by decide), t151]
      refine ⟨hT20.o (by decide) (by decide) (by rw [t151]), fun _ => hq T20 R25 M' ⟨hT20, fun k hk => ⟨?_, ?_⟩, fun k h1 h2 => ?_⟩, fun y => absurd (nI_le (Nat.le_refl _) (by omega)) y⟩
      · rw [a25, sRk (by omega), a21, zR_k (by omega), a5, sRk (by omega), a2, zR_k (by omega)]
      · rw [p1 k (by omega), a22, zM_k (by omega), a18, sM_k k (by omega), a15, sM_k k (by omega), a12, sM_k k (by omega), a9, sM_k k (by omega), a6, sM_k k (by omega), a3, zM_k (by omega)]
      · rcases (show k = 149 ∨ k = 150 ∨ k = 151 by omega) with rfl | rfl | rfl
        · constructor
          · funext j
            show _ = if j = 0 then 150 else if j = 1 then 151 else 0
            rw [a25, sR_t, a21, zR_k (by decide), a5, sR_t, a2, zR_k (by decide), hR]
            (repeat' split) <;> first | rfl | omega
          · funext j
            show _ = if j = 2 then 1 else 0
            rw [p1 149 (by decide), a22, zM_k (by decide), a18, sM_k 149 (by decide), a15, sM_k 149 (by decide), a12, sM_k 149 (by decide), a9, sM_k 149 (by decide), a6, sM_t, a3, zM_k (by decide), hM]
        · constructor
          · funext j
            show _ = 0
            rw [a25, sRk (by decide), a21, zR_k (by decide), a5, sRk (by decide), a2, zR_e]
          · funext j
            rw [p1 150 (by decide), m150]; rfl
        · constructor
          · funext j
            show _ = 0
            rw [a25, sRk (by decide), a21, zR_e]
          · funext j
            rw [p2]; rfl
    | succ d ih =>
      intro i hi M' p1 p2
      unfold w_Asm_init_L81
      rw [r25, hT20 151 (by decide) (by decide), t151, nI_clamp (by omega)]
      refine ⟨hT20.o (by decide) (by decide) (by rw [t151]), fun y => absurd y (nI_ge (by omega) (by omega)), fun _ => ⟨vp_in_nI (by omega) (by omega), fun M29 z29 v30 z30 => ?_⟩⟩
      rw [z30, nI_1]
      refine ih (i + 1) (by omega) M29 (fun k hk => by rw [z29, sM_k k hk]; exact p1 k hk) (fun j => ?_)
      rw [z29, sM_t, p2]
      by_cases y : j = i
      · rw [if_pos y, if_pos (by omega)]
      · rw [if_neg y]
        by_cases y2 : j < i
        · rw [if_pos y2, if_pos (by omega)]
        · rw [if_neg y2, if_neg (by omega)]
  exact lp (14 + plS sd) 0 (by omega) M22 (fun _ _ => rfl) (fun j => by rw [a22, zM_e, if_neg (Nat.not_lt_zero j)])
theorem wc_clientI (hT : tI sd 128 T) (hR : R 128 = fun _ => 0) (hM : M 128 = fun _ => 0) {Q : Nat → mT → mR → mM → Prop} (hq : ∀ T' R' M', Stm sd mt 128 151 R M T' R' M' → Q 151 T' R' M') : w_Client_init 128 T R M 128 sd (nI mt) 2 Q := by
  have m0 : ∀ k, k = 144 ∨ k = 146 ∨ k = 148 → MC sd mt k = fun _ => 0 := fun k hk => by
    rcases hk with rfl | rfl | rfl <;> (funext j; rfl)
  refine ⟨hT.o (by decide) (Nat.le_refl _) rfl, ?_⟩
  refine wc_sideI (s := 0) (nf := 1) (tg := 8) (hi := 142) (mt := mt) (sd := sd) (by decide) (by decide) (by decide) (Or.inl rfl) rfl rfl rfl rfl rfl rfl rfl rfl (fun i hi => ?_) (fun e he => ?_) rfl (fun i hi => ?_) (by funext j; rfl) (by funext j; rfl) (fun j => ?_) (by funext j; rfl) (by funext j; rfl) (by funext j; rfl) (fun j => ?_) (fun e he => ?_) (fun i h1 h2 => MC_0 (by omega) (by omega) (by omega) (by omega)) (fun e he => ?_) hT hR hM (by decide) (fun T2 R3 M4 s1 s2 s3 s4 s5 => ?_)
  · rw [show i = 0 by omega]; rfl
  · rcases (show e = 0 ∨ e = 1 ∨ e = 2 ∨ e = 3 by omega) with rfl | rfl | rfl | rfl <;> rfl
  · rw [show i = 0 by omega]; exact Or.inl rfl
  · show (if j < 4 then 139 + j else 0) = _
    rfl
  · show (if j = 0 then 136 else 0) = if j < 1 then 136 + 3 * j else 0
    (repeat' split) <;> first | rfl | omega
  · rcases (show e = 0 ∨ e = 1 ∨ e = 2 ∨ e = 3 by omega) with rfl | rfl | rfl | rfl <;> (funext j; rfl)
  · rcases (show e = 0 ∨ e = 1 ∨ e = 2 ∨ e = 3 by omega) with rfl | rfl | rfl | rfl <;> (funext j; rfl)
  · intro T5 R6 M7 a5 a6 a7
    refine wc_msgI (lo := 143) (x := 0) (y := 0) (L := 8) (sd := sd) (mt := mt) (by decide) (by decide) rfl rfl (by funext j; rfl) (by funext j; rfl) (by funext j; rfl) (m0 144 (by decide)) (by rw [a5]; exact s1.s rfl) (by rw [a6, zR_e]) (by rw [a7, zM_e]) (fun T10 R11 M12 ⟨b1, b2, b3⟩ => ⟨b1.o (by decide) (by decide) rfl, b1.o (by decide) (by decide) rfl, fun R15 c15 T16 R17 M18 c16 c17 c18 => ?_⟩)
    refine wc_msgI (lo := 145) (x := 1) (y := 0) (L := 8) (sd := sd) (mt := mt) (by decide) (by decide) rfl rfl (by funext j; rfl) (by funext j; rfl) (by funext j; rfl) (m0 146 (by decide)) (by rw [c16]; exact b1.s rfl) (by rw [c17, zR_e]) (by rw [c18, zM_e]) (fun T21 R22 M23 ⟨d1, d2, d3⟩ => ⟨d1.o (by decide) (by decide) rfl, d1.o (by decide) (by decide) rfl, fun R26 c26 T27 R28 M29 c27 c28 c29 => ?_⟩)
    refine wc_msgI (lo := 147) (x := 2) (y := 2) (L := 4) (sd := sd) (mt := mt) (by decide) (by decide) rfl rfl (by funext j; rfl) (by funext j; rfl) (by funext j; rfl) (m0 148 (by decide)) (by rw [c27]; exact d1.s rfl) (by rw [c28, zR_e]) (by rw [c29, zM_e]) (fun T32 R33 M34 ⟨e1, e2, e3⟩ => ⟨e1.o (by decide) (by decide) rfl, e1.o (by decide) (by decide) rfl, fun R37 c37 => wr_mix (fun M39 c39 T40 R41 M42 c40 c41 c42 => ?_)⟩)
    show w_Asm_init 149 T40 R41 M42 149 ((12 : Int32) + (sd &&& (31 : Int32))) _
    rw [pl_and]
    refine wc_asmI (sd := sd) (mt := mt) (by rw [c40]; exact e1.s rfl) (by rw [c41, zR_e]) (by rw [c42, zM_e]) (fun T46 R47 M48 ⟨f1, f2, f3⟩ => ⟨f1.o (by decide) (by decide) rfl, f1.o (by decide) (by decide) rfl, fun R51 c51 => hq T46 R51 M48 ⟨f1, fun k hk => ⟨?_, ?_⟩, fun k h1 h2 => ?_⟩⟩)
    · rw [c51, sRk (by omega), (f2 k (by omega)).1, c41, zR_k (by omega), c37, sRk (by omega), (e2 k (by omega)).1, c28, zR_k (by omega), c26, sRk (by omega), (d2 k (by omega)).1, c17, zR_k (by omega), c15, sRk (by omega), (b2 k (by omega)).1, a6, zR_k (by omega)]; exact (s2 k hk).1
    · rw [(f2 k (by omega)).2, c42, zM_k (by omega), c39, sM_k k (by omega), (e2 k (by omega)).2, c29, zM_k (by omega), (d2 k (by omega)).2, c18, zM_k (by omega), (b2 k (by omega)).2, a7, zM_k (by omega)]; exact (s2 k hk).2
    · rcases (show k = 128 ∨ (128 < k ∧ k ≤ 142) ∨ (143 ≤ k ∧ k ≤ 144) ∨ (145 ≤ k ∧ k ≤ 146) ∨ (147 ≤ k ∧ k ≤ 148) ∨ 149 ≤ k by omega) with rfl | y | y | y | y | y
      · constructor
        · funext j
          rw [c51, sR_t, (f2 128 (by decide)).1, c41, zR_k (by decide), c37, sR_t, (e2 128 (by decide)).1, c28, zR_k (by decide), c26, sR_t, (d2 128 (by decide)).1, c17, zR_k (by decide), c15, sR_t, (b2 128 (by decide)).1, a6, zR_k (by decide), s3]
          by_cases q18 : j = 18
          · subst q18; rfl
          · by_cases q17 : j = 17
            · subst q17; rfl
            · by_cases q16 : j = 16
              · subst q16; rfl
              · by_cases q15 : j = 15
                · subst q15; rfl
                · rw [if_neg q18, if_neg q17, if_neg q16, if_neg q15]
                  rcases (show j = 2 ∨ j = 3 ∨ j = 4 ∨ j = 5 ∨ j = 6 ∨ j = 7 ∨ (j ≠ 2 ∧ j ≠ 3 ∧ j ≠ 4 ∧ j ≠ 5 ∧ j ≠ 6 ∧ j ≠ 7) by omega) with rfl | rfl | rfl | rfl | rfl | rfl | q
                  · rfl
                  · rfl
                  · rfl
                  · rfl
                  · rfl
                  · rfl
                  · unfold rs RC0
                    rw [if_neg q.1, if_neg q.2.1, if_neg q.2.2.1, if_neg q.2.2.2.1, if_neg q.2.2.2.2.1, if_neg q.2.2.2.2.2, if_neg (by decide), if_neg (by omega)]
                    unfold RC
                    show 0 = _
                    (repeat' split) <;> first | rfl | omega
        · funext j
          show _ = if j = 14 then rS sd else ms 0 (nI mt) j
          rw [(f2 128 (by decide)).2, c42, zM_k (by decide), c39, sM_t, (e2 128 (by decide)).2, c29, zM_k (by decide), (d2 128 (by decide)).2, c18, zM_k (by decide), (b2 128 (by decide)).2, a7, zM_k (by decide), s4]
          rfl
      · have := s5 k y.1 y.2
        rw [c51, sRk (by omega), (f2 k (by omega)).1, c41, zR_k (by omega), c37, sRk (by omega), (e2 k (by omega)).1, c28, zR_k (by omega), c26, sRk (by omega), (d2 k (by omega)).1, c17, zR_k (by omega), c15, sRk (by omega), (b2 k (by omega)).1, a6, zR_k (by omega), (f2 k (by omega)).2, c42, zM_k (by omega), c39, sM_k k (by omega), (e2 k (by omega)).2, c29, zM_k (by omega), (d2 k (by omega)).2, c18, zM_k (by omega), (b2 k (by omega)).2, a7, zM_k (by omega)]
        exact this
      · have := b3 k y.1 y.2
        rw [c51, sRk (by omega), (f2 k (by omega)).1, c41, zR_k (by omega), c37, sRk (by omega), (e2 k (by omega)).1, c28, zR_k (by omega), c26, sRk (by omega), (d2 k (by omega)).1, c17, zR_k (by omega), c15, sRk (by omega), (f2 k (by omega)).2, c42, zM_k (by omega), c39, sM_k k (by omega), (e2 k (by omega)).2, c29, zM_k (by omega), (d2 k (by omega)).2, c18, zM_k (by omega)]
        exact this
      · have := d3 k y.1 y.2
        rw [c51, sRk (by omega), (f2 k (by omega)).1, c41, zR_k (by omega), c37, sRk (by omega), (e2 k (by omega)).1, c28, zR_k (by omega), c26, sRk (by omega), (f2 k (by omega)).2, c42, zM_k (by omega), c39, sM_k k (by omega), (e2 k (by omega)).2, c29, zM_k (by omega)]
        exact this
      · have := e3 k y.1 y.2
        rw [c51, sRk (by omega), (f2 k (by omega)).1, c41, zR_k (by omega), c37, sRk (by omega), (f2 k (by omega)).2, c42, zM_k (by omega), c39, sM_k k (by omega)]
        exact this
      · have := f3 k y h2
        rw [c51, sRk (by omega)]
        exact this
end NY
