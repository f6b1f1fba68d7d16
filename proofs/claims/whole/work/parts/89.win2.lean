/-! windows, both -/
section WN
variable {sd : Int32} {mt k c s cb nf w n e : Nat} {U V U' V' : mM} {hs : Nat → Int32} {dl : Int32} {T T2 : mT} {R R2 : mR} {M M2 : mM}
/-- what a window lets in -/
def newR (G : Int32) (n : Nat) : Prop := G = -1 ∨ ∃ a : Nat, a ≤ 8208 ∧ G = nI a ∧ (a < n ∨ a - n < 16)
theorem m1_sub {n : Nat} (h : n ≤ 8208) : ((-1 : Int32) - nI n).toInt = -1 - (n : Int) := by
  rw [Int32.toInt_sub, nI_toInt (by omega)]
  show Int.bmod (-1 - (n : Int)) (2 ^ 32) = _
  rw [Int.bmod_def]
  omega
theorem n_m1 {n : Nat} : nI n - (-1) = nI (n + 1) := by rw [Int32.sub_neg, nI_1]
theorem nI_negsub {a n : Nat} (h : a < n) (hn : n ≤ 8208) : (nI a - nI n).toInt = (a : Int) - (n : Int) := by
  rw [Int32.toInt_sub, nI_toInt (by omega), nI_toInt (by omega), Int.bmod_def]
  omega
/-- the rows of a window of the class and of the reference, both asked whether a number is old -/
theorem old_both (hM : LM T2 R2) (hs : s ≤ 1) {wc : Nat} (hw : ok T 200 wc 5) (he : e < 4) (hn : n ≤ c) (hc : c ≤ 8208) {sn G : Int32} {L : Nat → Int32} (h : winR c G sn G L) (m0 : M wc 0 = G) (m1 : M wc 1 = sn) (v15 : M2 15 (4 * s + e) = G) (v16 : ∀ j, j < 16 → M2 16 (64 * s + (16 * e + j)) = L j) : ∃ r : Int32, (r = 0 ∨ r = 1) ∧ (∀ Q : Int32 → Prop, Q r → w_Win_isOld 200 T R M wc (nI n) Q) ∧ (∀ Q : Int32 → Prop, Q r → w_Mo_isOld 34 T2 R2 M2 1 (nI s) (nI e) (nI n) Q) ∧ (r = 0 → newR G n) ∧ (G = -1 → r = 0) := by
  have i4 : (4 : Int32) * nI s + nI e = nI (4 * s + e) := i12 (a := 4)
  have i16 : (16 : Int32) * nI (4 * s + e) + nI (n % 16) = nI (16 * (4 * s + e) + n % 16) := i12 (a := 16)
  have ix : 16 * (4 * s + e) + n % 16 = 64 * s + (16 * e + n % 16) := by omega
  have hn16 : n % 16 < 16 := by omega
  have mo : ∀ {Q : Int32 → Prop}, ((16 : Int32) ≤ G - nI n → Q 1) → (¬ (16 : Int32) ≤ G - nI n → (L (n % 16) = nI n → Q 1) ∧ (¬ L (n % 16) = nI n → Q 0)) → w_Mo_isOld 34 T2 R2 M2 1 (nI s) (nI e) (nI n) Q := by
    intro Q q1 q2
    refine ⟨hM.ok1, fun v1 e1 => ?_⟩
    rw [i4] at e1
    subst e1
    simp only [hM.r_11, hM.r_12, hM.r_13, hM.r_14, hM.r_15, hM.r_16, hM.r_17, hM.r_18, hM.r_19, hM.r_20, hM.r_21, hM.r_22, hM.r_23, hM.r_24, hM.r_25, hM.r_26, hM.r_27, hM.r_28, hM.r_29, hM.r_30, hM.r_31, hM.r_32, hM.r_33, hM.r_34, hM.r_35, hM.r_36, hM.r_37, hM.r_38, hM.r_39, hM.r_40, hM.r_41, hM.r_42, hM.r_43, hM.l_2, hM.l_3, hM.l_4, hM.l_5, hM.l_6, hM.l_7, hM.l_8, hM.l_9, hM.l_10, hM.l_11, hM.l_12, hM.l_13, hM.l_14, hM.l_15, hM.l_16, hM.l_17, hM.l_18, hM.l_19, hM.l_20, hM.l_21, hM.l_22, hM.l_23, hM.l_24, hM.l_25, hM.l_26, hM.l_27, hM.l_28, hM.l_29, hM.l_30, hM.l_31, hM.l_32, hM.l_33, hM.l_34]
    rw [nI_clamp (by omega), v15, nI_rem (by omega), i16, nI_clamp (by omega), ix, v16 _ hn16]
    exact ⟨hM.o_15, vp_in_nI (by omega) (by decide), q1, fun q => ⟨hM.o_16, vp_in_nI (by omega) (by decide), q2 q⟩⟩
  obtain ⟨-, ⟨g1, g2, g3⟩ | ⟨a, ha, g1, g2, g3⟩⟩ := h
  · have hneg : ((-1 : Int32) - nI n) < 0 := by
      rw [Int32.lt_iff_toInt_lt, m1_sub (by omega)]
      show _ < (0 : Int)
      omega
    have hn16' : ¬ (16 : Int32) ≤ (-1 : Int32) - nI n := by
      rw [Int32.le_iff_toInt_le, m1_sub (by omega)]
      show ¬ (16 : Int) ≤ _
      omega
    refine ⟨0, Or.inl rfl, fun Q hq => ⟨hw, fun v1 e1 => ?_⟩, fun Q hq => mo (fun q => ?_) (fun _ => ⟨fun q => ?_, fun _ => hq⟩), fun _ => Or.inl g1, fun _ => rfl⟩
    · rw [m0, g1] at e1
      subst e1
      exact ⟨fun _ => hq, fun q => absurd hneg q⟩
    · rw [g1] at q; exact absurd q hn16'
    · rw [g3 _ hn16] at q
      have q2 : (-1 : Int32).toInt = (nI n).toInt := by rw [q]
      rw [nI_toInt (by omega)] at q2
      have y3 : (-1 : Int32).toInt = -1 := rfl
      omega
  · have gne : G ≠ -1 := fun q => by
      rw [g1] at q
      have q2 : (nI a).toInt = (-1 : Int32).toInt := by rw [q]
      rw [nI_toInt (by omega)] at q2
      have y3 : (-1 : Int32).toInt = -1 := rfl
      omega
    rcases Nat.lt_or_ge a n with hl | hg
    · have hneg : (nI a - nI n) < 0 := by
        rw [Int32.lt_iff_toInt_lt, nI_negsub hl (by omega)]
        show _ < (0 : Int)
        omega
      have hn16' : ¬ (16 : Int32) ≤ nI a - nI n := by
        rw [Int32.le_iff_toInt_le, nI_negsub hl (by omega)]
        show ¬ (16 : Int) ≤ _
        omega
      refine ⟨0, Or.inl rfl, fun Q hq => ⟨hw, fun v1 e1 => ?_⟩, fun Q hq => mo (fun q => ?_) (fun _ => ⟨fun q => ?_, fun _ => hq⟩), fun _ => Or.inr ⟨a, by omega, g1, Or.inl hl⟩, fun _ => rfl⟩
      · rw [m0, g1] at e1
        subst e1
        exact ⟨fun _ => hq, fun q => absurd hneg q⟩
      · rw [g1] at q; exact absurd q hn16'
      · rcases g3 _ hn16 with r | ⟨x, x1, x2, x3⟩
        · rw [r] at q
          have q2 : (-1 : Int32).toInt = (nI n).toInt := by rw [q]
          rw [nI_toInt (by omega)] at q2
          have y3 : (-1 : Int32).toInt = -1 := rfl
          omega
        · rw [x3] at q
          have := (nI_eq (by omega) (by omega)).mp q
          omega
    · have es : nI a - nI n = nI (a - n) := nI_sub hg
      by_cases h16 : 16 ≤ a - n
      · refine ⟨1, Or.inr rfl, fun Q hq => ⟨hw, fun v1 e1 => ?_⟩, fun Q hq => mo (fun _ => hq) (fun q => ?_), fun q => absurd q (by decide), fun q => absurd q gne⟩
        · rw [m0, g1, es] at e1
          subst e1
          exact ⟨fun q => absurd q (nI_pos (by omega)), fun _ => ⟨fun _ => hq, fun q => absurd (nI_le (a := 16) h16 (by omega)) q⟩⟩
        · rw [g1, es] at q; exact absurd (nI_le (a := 16) h16 (by omega)) q
      · have hbit := g2 (a - n) (by omega)
        rw [show a - (a - n) = n by omega] at hbit
        have nle : ¬ (16 : Int32) ≤ nI (a - n) := nI_ge (b := 16) (by omega) (by decide)
        by_cases hb : bitI sn (a - n)
        · have hLn := (hbit.mp hb).2
          refine ⟨1, Or.inr rfl, fun Q hq => ⟨hw, fun v1 e1 => ?_⟩, fun Q hq => mo (fun _ => hq) (fun _ => ⟨fun _ => hq, fun q => absurd hLn q⟩), fun q => absurd q (by decide), fun q => absurd q gne⟩
          rw [m0, g1, es] at e1
          subst e1
          rw [m1]
          exact ⟨fun q => absurd q (nI_pos (by omega)), fun _ => ⟨fun q => absurd q nle, fun _ => ⟨fun _ => hq, fun q => absurd hb q⟩⟩⟩
        · have hLn : ¬ L (n % 16) = nI n := fun q => hb (hbit.mpr ⟨by omega, q⟩)
          refine ⟨0, Or.inl rfl, fun Q hq => ⟨hw, fun v1 e1 => ?_⟩, fun Q hq => mo (fun q => ?_) (fun _ => ⟨fun q => absurd q hLn, fun _ => hq⟩), fun _ => Or.inr ⟨a, by omega, g1, Or.inr (by omega)⟩, fun _ => rfl⟩
          · rw [m0, g1, es] at e1
            subst e1
            rw [m1]
            exact ⟨fun q => absurd q (nI_pos (by omega)), fun _ => ⟨fun q => absurd q nle, fun _ => ⟨fun q => absurd q hb, fun _ => hq⟩⟩⟩
          · rw [g1, es] at q; exact absurd q nle
/-- both let the number in -/
theorem let_both (hM : LM T2 R2) (hs : s ≤ 1) {wc : Nat} (hw : ok T 200 wc 5) (he : e < 4) (hn : n ≤ c) (hc : c ≤ 8208) {sn G : Int32} {L : Nat → Int32} (h : winR c G sn G L) (hnew : newR G n) : ∃ sn' G' : Int32, (∀ (R : mR) (M : mM) (Q : mM → Prop), M wc 0 = G → M wc 1 = sn → Q (sM (sM M wc 1 sn') wc 0 G') → w_Win_letIn 200 T R M wc (nI n) Q) ∧ (∀ (M2 : mM) (Q : mM → Prop), M2 15 (4 * s + e) = G → Q (sM (sM M2 15 (4 * s + e) G') 16 (64 * s + (16 * e + n % 16)) (nI n)) → w_Mo_let 34 T2 R2 M2 1 (nI s) (nI e) (nI n) Q) ∧ winR c G' sn' G' (upd L (n % 16) (nI n)) := by
  have i4 : (4 : Int32) * nI s + nI e = nI (4 * s + e) := i12 (a := 4)
  have i16 : (16 : Int32) * nI (4 * s + e) + nI (n % 16) = nI (16 * (4 * s + e) + n % 16) := i12 (a := 16)
  have ix : 16 * (4 * s + e) + n % 16 = 64 * s + (16 * e + n % 16) := by omega
  have hn16 : n % 16 < 16 := by omega
  have B : ∀ {M2 : mM} {Q : mM → Prop} {x : Int32}, Q (sM (sM M2 15 (4 * s + e) x) 16 (64 * s + (16 * e + n % 16)) (nI n)) → w_Mo_let_B35 34 T2 R2 Q 1 (nI n) (nI (4 * s + e)) 15 (nI (4 * s + e)) x M2 := by
    intro M2 Q x hq
    unfold w_Mo_let_B35
    simp only [hM.r_11, hM.r_12, hM.r_13, hM.r_14, hM.r_15, hM.r_16, hM.r_17, hM.r_18, hM.r_19, hM.r_20, hM.r_21, hM.r_22, hM.r_23, hM.r_24, hM.r_25, hM.r_26, hM.r_27, hM.r_28, hM.r_29, hM.r_30, hM.r_31, hM.r_32, hM.r_33, hM.r_34, hM.r_35, hM.r_36, hM.r_37, hM.r_38, hM.r_39, hM.r_40, hM.r_41, hM.r_42, hM.r_43, hM.l_2, hM.l_3, hM.l_4, hM.l_5, hM.l_6, hM.l_7, hM.l_8, hM.l_9, hM.l_10, hM.l_11, hM.l_12, hM.l_13, hM.l_14, hM.l_15, hM.l_16, hM.l_17, hM.l_18, hM.l_19, hM.l_20, hM.l_21, hM.l_22, hM.l_23, hM.l_24, hM.l_25, hM.l_26, hM.l_27, hM.l_28, hM.l_29, hM.l_30, hM.l_31, hM.l_32, hM.l_33, hM.l_34]
    rw [nI_clamp (by omega), nI_rem (by omega), i16, nI_clamp (by omega), ix]
    refine ⟨vp_in_nI (by omega) (by decide), fun M8 e8 => ⟨hM.o_16, vp_in_nI (by omega) (by decide), fun M11 e11 => ?_⟩⟩
    subst e11; subst e8
    exact hq
  have mo : ∀ {M2 : mM} {Q : mM → Prop} {x : Int32}, M2 15 (4 * s + e) = G → (nI n ≤ G → x = G) → (¬ nI n ≤ G → x = nI n) → Q (sM (sM M2 15 (4 * s + e) x) 16 (64 * s + (16 * e + n % 16)) (nI n)) → w_Mo_let 34 T2 R2 M2 1 (nI s) (nI e) (nI n) Q := by
    intro M2 Q x v15 q1 q2 hq
    refine ⟨hM.ok1, fun v1 e1 => ?_⟩
    rw [i4] at e1
    subst e1
    simp only [hM.r_11, hM.r_12, hM.r_13, hM.r_14, hM.r_15, hM.r_16, hM.r_17, hM.r_18, hM.r_19, hM.r_20, hM.r_21, hM.r_22, hM.r_23, hM.r_24, hM.r_25, hM.r_26, hM.r_27, hM.r_28, hM.r_29, hM.r_30, hM.r_31, hM.r_32, hM.r_33, hM.r_34, hM.r_35, hM.r_36, hM.r_37, hM.r_38, hM.r_39, hM.r_40, hM.r_41, hM.r_42, hM.r_43, hM.l_2, hM.l_3, hM.l_4, hM.l_5, hM.l_6, hM.l_7, hM.l_8, hM.l_9, hM.l_10, hM.l_11, hM.l_12, hM.l_13, hM.l_14, hM.l_15, hM.l_16, hM.l_17, hM.l_18, hM.l_19, hM.l_20, hM.l_21, hM.l_22, hM.l_23, hM.l_24, hM.l_25, hM.l_26, hM.l_27, hM.l_28, hM.l_29, hM.l_30, hM.l_31, hM.l_32, hM.l_33, hM.l_34]
    rw [nI_clamp (by omega), v15]
    refine ⟨hM.o_15, vp_in_nI (by omega) (by decide), fun q => ⟨vp_in_nI (by omega) (by decide), B ?_⟩, fun q => B ?_⟩
    · rw [q1 q] at hq; exact hq
    · rw [q2 q] at hq; exact hq
  have uin : ∀ {j : Nat}, upd L (n % 16) (nI n) j = if j = n % 16 then nI n else L j := fun {j} => rfl
  obtain ⟨-, ⟨g1, g2, g3⟩ | ⟨a, ha, g1, g2, g3⟩⟩ := h
  · have hlt : ¬ nI n ≤ (-1 : Int32) := by
      rw [Int32.le_iff_toInt_le, nI_toInt (by omega)]
      have y3 : (-1 : Int32).toInt = -1 := rfl
      omega
    refine ⟨1, nI n, fun R M Q m0 m1 hq => ⟨hw, fun v1 e1 => ?_⟩, fun M2 Q v15 hq => mo v15 (fun q => by rw [g1] at q; exact absurd q hlt) (fun _ => rfl) hq, rfl, Or.inr ⟨n, hn, rfl, fun d hd => ?_, fun j hj => ?_⟩⟩
    · rw [m0, g1, n_m1] at e1
      subst e1
      refine ⟨fun _ => ⟨fun q M2 e2 M3 e3 => ?_, fun q M4 e4 M5 e5 => ?_⟩, fun q => absurd (nI_lt (a := 0) (by omega) (by omega)) q⟩
      · rw [m1, g2] at e2
        have z : (0 : Int32) <<< (nI (n + 1) &&& 31) ||| 1 = 1 := by
          have : n + 1 < 16 := (nI_ltI (b := 16) (by omega) (by decide)).mp q
          have z : ∀ v, v < 16 → (0 : Int32) <<< (nI v &&& 31) ||| 1 = 1 := by decide +kernel
          exact z _ this
        rw [z] at e2
        subst e3; subst e2; exact hq
      · subst e5; subst e4; exact hq
    · rw [bit_one hd, uin]
      constructor
      · intro q; subst q; rw [Nat.sub_zero, if_pos rfl]; exact ⟨Nat.zero_le _, rfl⟩
      · rintro ⟨q1, q2⟩
        by_cases q : (n - d) % 16 = n % 16
        · omega
        · rw [if_neg q, g3 _ (by omega)] at q2
          have q3 : (-1 : Int32).toInt = (nI (n - d)).toInt := by rw [q2]
          rw [nI_toInt (by omega)] at q3
          have y3 : (-1 : Int32).toInt = -1 := rfl
          omega
    · rw [uin]
      by_cases q : j = n % 16
      · rw [if_pos q]; exact Or.inr ⟨n, Nat.le_refl n, q.symm, rfl⟩
      · rw [if_neg q]; exact Or.inl (g3 j hj)
  · rcases Nat.lt_or_ge a n with hl | hg
    · have hlt : ¬ nI n ≤ nI a := nI_ge hl (by omega)
      have es : nI n - nI a = nI (n - a) := nI_sub (by omega)
      have Lold : ∀ d, 0 < d → d < 16 → d ≤ n → n - d > a → ¬ upd L (n % 16) (nI n) ((n - d) % 16) = nI (n - d) := by
        intro d d0 d16 dn hd q
        rw [uin, if_neg (by omega)] at q
        rcases g3 ((n - d) % 16) (by omega) with r | ⟨x, x1, x2, x3⟩
        · rw [r] at q
          have q3 : (-1 : Int32).toInt = (nI (n - d)).toInt := by rw [q]
          rw [nI_toInt (by omega)] at q3
          have y3 : (-1 : Int32).toInt = -1 := rfl
          omega
        · rw [x3] at q
          have := (nI_eq (by omega) (by omega)).mp q
          omega
      have ent : ∀ j, j < 16 → upd L (n % 16) (nI n) j = -1 ∨ ∃ x : Nat, x ≤ n ∧ x % 16 = j ∧ upd L (n % 16) (nI n) j = nI x := by
        intro j hj
        rw [uin]
        by_cases q : j = n % 16
        · rw [if_pos q]; exact Or.inr ⟨n, Nat.le_refl n, q.symm, rfl⟩
        · rw [if_neg q]
          rcases g3 j hj with r | ⟨x, x1, x2, x3⟩
          · exact Or.inl r
          · exact Or.inr ⟨x, by omega, x2, x3⟩
      by_cases h16 : n - a < 16
      · refine ⟨sn <<< (nI (n - a) &&& 31) ||| 1, nI n, fun R M Q m0 m1 hq => ⟨hw, fun v1 e1 => ?_⟩, fun M2 Q v15 hq => mo v15 (fun q => by rw [g1] at q; exact absurd q hlt) (fun _ => rfl) hq, rfl, Or.inr ⟨n, hn, rfl, fun d hd => ?_, ent⟩⟩
        · rw [m0, g1, es] at e1
          subst e1
          refine ⟨fun _ => ⟨fun q M2 e2 M3 e3 => ?_, fun q => absurd (nI_lt (b := 16) h16 (by decide)) q⟩, fun q => absurd (nI_lt (a := 0) (by omega) (by omega)) q⟩
          rw [m1] at e2
          subst e3; subst e2; exact hq
        · rw [bit_or hd, bit_shl hd h16, bit_one hd]
          constructor
          · rintro (⟨q1, q2⟩ | q)
            · have := (g2 (d - (n - a)) (by omega)).mp q2
              rw [show a - (d - (n - a)) = n - d by omega] at this
              refine ⟨by omega, ?_⟩
              rw [uin, if_neg (by omega)]; exact this.2
            · subst q; rw [Nat.sub_zero, uin, if_pos rfl]; exact ⟨Nat.zero_le _, rfl⟩
          · rintro ⟨q1, q2⟩
            by_cases q0 : d = 0
            · exact Or.inr q0
            · by_cases q3 : n - a ≤ d
              · refine Or.inl ⟨q3, (g2 (d - (n - a)) (by omega)).mpr ⟨by omega, ?_⟩⟩
                rw [show a - (d - (n - a)) = n - d by omega]
                rw [uin, if_neg (by omega)] at q2; exact q2
              · exact absurd q2 (Lold d (by omega) hd q1 (by omega))
      · refine ⟨1, nI n, fun R M Q m0 m1 hq => ⟨hw, fun v1 e1 => ?_⟩, fun M2 Q v15 hq => mo v15 (fun q => by rw [g1] at q; exact absurd q hlt) (fun _ => rfl) hq, rfl, Or.inr ⟨n, hn, rfl, fun d hd => ?_, ent⟩⟩
        · rw [m0, g1, es] at e1
          subst e1
          refine ⟨fun _ => ⟨fun q => absurd ((nI_ltI (b := 16) (by omega) (by decide)).mp q) h16, fun q M4 e4 M5 e5 => ?_⟩, fun q => absurd (nI_lt (a := 0) (by omega) (by omega)) q⟩
          subst e5; subst e4; exact hq
        · rw [bit_one hd]
          constructor
          · intro q; subst q; rw [Nat.sub_zero, uin, if_pos rfl]; exact ⟨Nat.zero_le _, rfl⟩
          · rintro ⟨q1, q2⟩
            by_cases q0 : d = 0
            · exact q0
            · exact absurd q2 (Lold d (by omega) hd q1 (by omega))
    · have h16 : a - n < 16 := by
        rcases hnew with q | ⟨a', x1, x2, x3⟩
        · rw [g1] at q
          have q3 : (nI a).toInt = (-1 : Int32).toInt := by rw [q]
          rw [nI_toInt (by omega)] at q3
          have y3 : (-1 : Int32).toInt = -1 := rfl
          omega
        · rw [g1] at x2
          have := (nI_eq (by omega) (by omega)).mp x2
          omega
      have es : nI n - nI a = -(nI (a - n)) := by rw [← nI_sub hg, Int32.neg_sub]
      refine ⟨sn ||| ((1 : Int32) <<< (nI (a - n) &&& 31)), nI a, fun R M Q m0 m1 hq => ⟨hw, fun v1 e1 => ?_⟩, fun M2 Q v15 hq => mo v15 (fun _ => g1.symm) (fun q => by rw [g1] at q; exact absurd (nI_le hg (by omega)) q) hq, rfl, Or.inr ⟨a, ha, rfl, fun d hd => ?_, fun j hj => ?_⟩⟩
      · rw [m0, g1] at e1
        have np : ¬ 0 < v1 := by
          rw [e1, es, Int32.lt_iff_toInt_lt]
          have : (-(nI (a - n))).toInt = -((a - n : Nat) : Int) := by
            rw [Int32.toInt_neg, nI_toInt (by omega), Int.bmod_def]
            omega
          rw [this]
          show ¬ (0 : Int) < _
          omega
        have nv1 : -v1 = nI (a - n) := by rw [e1, es, Int32.neg_neg]
        rw [nv1]
        refine ⟨fun q => absurd q np, fun _ M6 e6 => ?_⟩
        rw [m1] at e6
        have : M6 = sM (sM M wc 1 (sn ||| ((1 : Int32) <<< (nI (a - n) &&& 31)))) wc 0 (nI a) := by
          rw [e6]
          funext x y
          rw [sMt (sM M wc 1 _)]
          by_cases q : x = wc ∧ y = 0
          · rw [if_pos q, q.1, q.2, sM_j 0 (by decide), m0, g1]
          · rw [if_neg q]
        rw [this]; exact hq
      · rw [bit_or hd, bit_sh1 hd h16, g2 d hd, uin]
        constructor
        · rintro (⟨q1, q2⟩ | q)
          · refine ⟨q1, ?_⟩
            by_cases q : (a - d) % 16 = n % 16
            · rw [if_pos q, show a - d = n by omega]
            · rw [if_neg q]; exact q2
          · subst q
            rw [show a - (a - n) = n by omega, if_pos rfl]; exact ⟨by omega, rfl⟩
        · rintro ⟨q1, q2⟩
          by_cases q : (a - d) % 16 = n % 16
          · exact Or.inr (by omega)
          · rw [if_neg q] at q2; exact Or.inl ⟨q1, q2⟩
      · rw [uin]
        by_cases q : j = n % 16
        · rw [if_pos q]; exact Or.inr ⟨n, hg, q.symm, rfl⟩
        · rw [if_neg q]; exact g3 j hj
end WN
