/-! contents and transcript by the reference -/
section CN
variable {n : Nat} {T : mT} {R : mR} {M : mM} {h : Nat} {r s ck sD cD : Int32} {pl : Nat}
theorem p_lit : ∀ p, p ≤ 7 → (nI p = 0 ↔ p = 0) ∧ (nI p = 1 ↔ p = 1) ∧ (nI p = 2 ↔ p = 2) ∧ (nI p = 3 ↔ p = 3) ∧ (nI p = 4 ↔ p = 4) ∧ (nI p = 5 ↔ p = 5) ∧ (nI p = 6 ↔ p = 6) ∧ (nI p = 7 ↔ p = 7) := by decide +kernel
theorem wm_content2 (ho : ok T n h 11) (h2 : M h 2 = r) (h3 : M h 3 = s) (h4 : M h 4 = ck) (h5 : M h 5 = sD) (h6 : M h 6 = cD) {p i : Nat} (hp : p ≤ 7) (hi : i < 2 ^ 31) {Q : Int32 → Prop} (hq : Q (ctP r s ck sD cD p i)) : w_Mo_content2 n T R M h (nI p) (nI i) Q := by
  obtain ⟨l0, l1, l2, l3, l4, l5, l6, l7⟩ := p_lit p hp
  have hle : (4 : Int32) ≤ nI i ↔ 4 ≤ i := (show (4 : Int32) = nI 4 from rfl) ▸ nI_leI (by decide) hi
  refine ⟨ho, fun e => ?_, fun e => ?_, fun e => ?_, fun e => ?_, fun e => ?_, fun e => ?_, fun e => ?_, fun e0 e1 e2 e3 e4 e5 e6 => ?_⟩
  · rw [l0] at e; subst e
    refine ⟨fun q => ?_, fun q => ?_⟩
    · rw [hle] at q
      have : ctP r s ck sD cD 0 i = 0 := if_neg (by omega)
      rw [this] at hq; exact hq
    · rw [hle] at q
      have : ctP r s ck sD cD 0 i = byI r (nI i) := if_pos (by omega)
      rw [this] at hq; rw [h2]; exact hq
  · rw [l1] at e; subst e; rw [h4]; exact hq
  · rw [l2] at e; subst e
    refine ⟨fun q => ?_, fun q => ?_⟩
    · rw [hle] at q
      have : ctP r s ck sD cD 2 i = byI ck (nI (i - 4)) := if_neg (by omega)
      rw [this] at hq; rw [h4, show (4 : Int32) = nI 4 from rfl, pk_sub q]; exact hq
    · rw [hle] at q
      have : ctP r s ck sD cD 2 i = byI r (nI i) := if_pos (by omega)
      rw [this] at hq; rw [h2]; exact hq
  · rw [l3] at e; subst e; rw [h3, h2]; exact wm_mix hq
  · rw [l4] at e; subst e; rw [h2]; exact wm_mix hq
  · rw [l5] at e; subst e; rw [h3]; exact wm_mix hq
  · rw [l6] at e; subst e; rw [h5]; exact hq
  · have : p = 7 := by
      rw [l0] at e0; rw [l1] at e1; rw [l2] at e2; rw [l3] at e3; rw [l4] at e4; rw [l5] at e5; rw [l6] at e6; omega
    subst this; rw [h6]; exact hq
theorem wm_sizeOf (ho : ok T n h 11) (h1 : M h 1 = nI pl) {p : Nat} (hp : p ≤ 7) {Q : Int32 → Prop} (hq : Q (nI (szP pl p))) : w_Mo_sizeOf n T R M h (nI p) Q := by
  obtain ⟨l0, l1, l2, l3, l4, l5, l6, l7⟩ := p_lit p hp
  refine ⟨ho, fun e => ?_, fun e0 => ⟨fun e => ?_, fun e2 => ⟨fun e => ?_, fun e4 => ⟨fun e => ?_, fun e5 => ?_⟩⟩⟩⟩
  · rw [l0] at e; subst e; exact hq
  · rw [l2] at e; subst e; exact hq
  · rw [l4] at e; subst e; exact hq
  · rw [l5] at e; subst e; rw [h1]; exact hq
  · have : szP pl p = 4 := by
      rw [l0] at e0; rw [l2] at e2; rw [l4] at e4; rw [l5] at e5
      unfold szP
      rw [if_neg (by omega), if_neg e4, if_neg e5]
    rw [this] at hq; exact hq
theorem szP_le (hpl : pl ≤ 43) (p : Nat) : szP pl p ≤ 43 := by
  unfold szP
  split
  · omega
  · split
    · omega
    · split <;> omega
theorem wm_told (ho : ok T n h 11) (hpl : pl ≤ 43) (h1 : M h 1 = nI pl) (h2 : M h 2 = r) (h3 : M h 3 = s) (h4 : M h 4 = ck) (h5 : M h 5 = sD) (h6 : M h 6 = cD) {t : Nat} (ht : t ≤ 8) {Q : Int32 → Prop} (hq : Q (tdP (ctP r s ck sD cD) (szP pl) t)) : w_Mo_told n T R M h (nI t) Q := by
  refine ⟨ho, t + 1, ?_⟩
  have outer : ∀ d p, p + d = t → w_Mo_told_L4 n T R M Q h (nI t) (d + 1) (tdP (ctP r s ck sD cD) (szP pl) p) (nI p) := by
    intro d
    induction d with
    | zero =>
      intro p hp
      unfold w_Mo_told_L4
      have : p = t := by omega
      subst this
      exact ⟨fun _ => hq, fun q => absurd (nI_le (Nat.le_refl p) (by omega)) q⟩
    | succ d ih =>
      intro p hp
      unfold w_Mo_told_L4
      refine ⟨fun q => absurd q (nI_ge (by omega) (by omega)), fun _ => ⟨szP pl p + 1, ?_⟩⟩
      have inner : ∀ e i, i + e = szP pl p → w_Mo_told_L12 n T R M Q (fun a0 a1 a2 a3 => w_Mo_told_L4 n T R M Q a0 a1 (d + 1) a2 a3) h (nI t) (nI p) (e + 1) (tel (ctP r s ck sD cD p) (tdP (ctP r s ck sD cD) (szP pl) p) i) (nI i) := by
        have hs := szP_le hpl p
        intro e
        induction e with
        | zero =>
          intro i hi
          unfold w_Mo_told_L12
          refine wm_sizeOf ho h1 (by omega) ⟨fun _ v4 e4 => ?_, fun q => absurd (nI_le (by omega) (by omega)) q⟩
          subst e4
          have hz : i = szP pl p := by omega
          subst hz
          rw [nI_1]
          exact ih (p + 1) (by omega)
        | succ e ih2 =>
          intro i hi
          unfold w_Mo_told_L12
          refine wm_sizeOf ho h1 (by omega) ⟨fun q => absurd q (nI_ge (by omega) (by omega)), fun _ => ?_⟩
          refine wm_content2 ho h2 h3 h4 h5 h6 (by omega) (by omega) (fun v6 e6 v7 e7 => ?_)
          subst e6; subst e7
          rw [nI_1]
          exact ih2 (i + 1) (by omega)
      exact inner (szP pl p) 0 (by omega)
  exact outer t 0 (by omega)
end CN
theorem plS_b (sd : Int32) : 12 ≤ plS sd ∧ plS sd ≤ 43 := by unfold plS; omega
section CN2
variable {sd : Int32} {mt : Nat} {T2 : mT} {R2 : mR} {M2 : mM}
theorem ct_w (hM : LM T2 R2) (hc : conR sd mt M2) {p i : Nat} (hp : p ≤ 7) (hi : i < 2 ^ 31) {Q : Int32 → Prop} (hq : Q (CT sd p i)) : w_Mo_content2 34 T2 R2 M2 1 (nI p) (nI i) Q :=
  wm_content2 hM.ok1 hc.2.2.1 hc.2.2.2.1 hc.2.2.2.2.1 hc.2.2.2.2.2.1 hc.2.2.2.2.2.2 hp hi hq
theorem sz_w (hM : LM T2 R2) (hc : conR sd mt M2) {p : Nat} (hp : p ≤ 7) {Q : Int32 → Prop} (hq : Q (nI (SZ sd p))) : w_Mo_sizeOf 34 T2 R2 M2 1 (nI p) Q := wm_sizeOf hM.ok1 hc.2.1 hp hq
theorem td_w (hM : LM T2 R2) (hc : conR sd mt M2) {t : Nat} (ht : t ≤ 8) {Q : Int32 → Prop} (hq : Q (TD sd t)) : w_Mo_told 34 T2 R2 M2 1 (nI t) Q :=
  wm_told hM.ok1 (plS_b sd).2 hc.2.1 hc.2.2.1 hc.2.2.2.1 hc.2.2.2.2.1 hc.2.2.2.2.2.1 hc.2.2.2.2.2.2 ht hq
theorem SZ_le (sd : Int32) (p : Nat) : SZ sd p ≤ 43 := szP_le (plS_b sd).2 p
/-- which side, or none: both ask alike -/
theorem side_w {T : mT} {R : mR} {M : mM} {u : Int32} {Q : Int32 → Prop} (h0 : (u ≠ 0 ∧ u ≠ 1) → Q 0) (h1 : (u = 0 ∨ u = 1) → Q 1) : w_X_isSide 200 T R M u Q :=
  ⟨fun e => h1 (Or.inl e), fun e => ⟨fun e1 => h1 (Or.inr e1), fun e1 => h0 ⟨e, e1⟩⟩⟩
theorem noside_w {u : Int32} {Q : Int32 → Prop} (h1 : (u ≠ 0 ∧ u ≠ 1) → Q 1) (h0 : (u = 0 ∨ u = 1) → Q 0) : w_Mo_noSide 34 T2 R2 M2 u Q := by
  have key : ¬ u < 0 → u ≤ 1 → u = 0 ∨ u = 1 := by
    intro a b
    rw [Int32.lt_iff_toInt_lt] at a
    rw [Int32.le_iff_toInt_le] at b
    have z0 : (0 : Int32).toInt = 0 := rfl
    have z1 : (1 : Int32).toInt = 1 := rfl
    rw [z0] at a; rw [z1] at b
    rcases (show u.toInt = 0 ∨ u.toInt = 1 by omega) with e | e
    · exact Or.inl (Int32.toInt_inj.mp (e.trans z0.symm))
    · exact Or.inr (Int32.toInt_inj.mp (e.trans z1.symm))
  refine ⟨fun a => h1 ⟨fun e => ?_, fun e => ?_⟩, fun a => ⟨fun b => h0 (key a b), fun b => h1 ⟨fun e => ?_, fun e => ?_⟩⟩⟩
  · subst e; exact absurd a (by decide)
  · subst e; exact absurd a (by decide)
  · subst e; exact b (by decide)
  · subst e; exact b (by decide)
end CN2
