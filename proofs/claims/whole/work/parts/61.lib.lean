/-! small laws: memory, views, numbers -/
theorem sMt (M : mM) (k j k' j' : Nat) (v : Int32) : sM M k j v k' j' = if k' = k ∧ j' = j then v else M k' j' := rfl
theorem nw_out {M : mM} {k j : Nat} {v : Int32} (h : k < 2 ∨ 128 ≤ k) : nw (sM M k j v) = nw M := by
  funext a b
  simp only [nw, sMt]
  split
  · rw [if_neg (by omega)]
  · rfl
theorem nw_in {M : mM} {k j : Nat} {v : Int32} (h : 2 ≤ k ∧ k < 128) : nw (sM M k j v) = sM (nw M) k j v := by
  funext a b
  simp only [nw, sMt]
  by_cases h1 : a = k ∧ b = j
  · rw [if_pos h1, if_pos h1, if_pos (by omega)]
  · rw [if_neg h1, if_neg h1]
theorem nw_at {M : mM} {k j : Nat} (h : 2 ≤ k ∧ k < 128) : nw M k j = M k j := if_pos h
theorem uw_out {M : mM} {cb w k j : Nat} {v : Int32} (h : k < cb ∨ cb + w ≤ k) : uw (sM M k j v) cb w = uw M cb w := by
  funext a b
  simp only [uw, sMt]
  split
  · rw [if_neg (by omega)]
  · rfl
theorem uw_in {M : mM} {cb w i j : Nat} {v : Int32} (h : i < w) : uw (sM M (cb + i) j v) cb w = sM (uw M cb w) i j v := by
  funext a b
  simp only [uw, sMt]
  by_cases h1 : a = i ∧ b = j
  · rw [if_pos h1, if_pos (by omega), if_pos (by omega)]
  · rw [if_neg h1]
    split
    · rw [if_neg (by omega)]
    · rfl
theorem uw_at {M : mM} {cb w i j : Nat} (h : i < w) : uw M cb w i j = M (cb + i) j := if_pos h
theorem nv_out {M : mM} {k j : Nat} {v : Int32} (h : (k = 1 ∧ j ≠ 8 ∧ j ≠ 9) ∨ 11 < k ∨ k = 0) : nv (sM M k j v) = nv M := by
  funext a b
  simp only [nv, sMt]
  split
  · rw [if_neg (by omega)]
  · rfl
theorem nv_in {M : mM} {k j : Nat} {v : Int32} (h : (k = 1 ∧ (j = 8 ∨ j = 9)) ∨ (2 ≤ k ∧ k ≤ 11)) : nv (sM M k j v) = sM (nv M) k j v := by
  funext a b
  simp only [nv, sMt]
  by_cases h1 : a = k ∧ b = j
  · rw [if_pos h1, if_pos h1, if_pos (by omega)]
  · rw [if_neg h1, if_neg h1]
theorem nv_at {M : mM} {k j : Nat} (h : (k = 1 ∧ (j = 8 ∨ j = 9)) ∨ (2 ≤ k ∧ k ≤ 11)) : nv M k j = M k j := if_pos h
theorem vw_out {M : mM} {s k j : Nat} {v : Int32} (h : j < stA k * s ∨ stA k * s + stA k ≤ j) : vw (sM M k j v) s = vw M s := by
  funext a b
  simp only [vw, sMt]
  split
  · rw [if_neg (fun q => by obtain ⟨rfl, q⟩ := q; omega)]
  · rfl
theorem vw_in {M : mM} {s k j : Nat} {v : Int32} (h : j < stA k) : vw (sM M k (stA k * s + j) v) s = sM (vw M s) k j v := by
  funext a b
  simp only [vw, sMt]
  by_cases h1 : a = k ∧ b = j
  · obtain ⟨rfl, rfl⟩ := h1
    rw [if_pos h, if_pos ⟨rfl, rfl⟩, if_pos ⟨rfl, rfl⟩]
  · rw [if_neg h1]
    split
    · rw [if_neg (fun q => h1 (by obtain ⟨rfl, q⟩ := q; exact ⟨rfl, by omega⟩))]
    · rfl
theorem vw_at {M : mM} {s k j : Nat} (h : j < stA k) : vw M s k j = M k (stA k * s + j) := if_pos h
theorem nI_b {a : Nat} (h : a ≤ 8300) : a < 2 ^ 31 := by omega
theorem nI_inj {a b : Nat} (ha : a < 2 ^ 31) (hb : b < 2 ^ 31) : nI a = nI b ↔ a = b := nI_eq ha hb
theorem wr_mix {n : Nat} {T : mT} {R : mR} {M : mM} {a b : Int32} {Q : Int32 → Prop} (h : Q (mixI a b)) : w_X_mix n T R M a b Q := by
  intro v1 e1; subst e1; exact h
theorem wm_mix {n : Nat} {T : mT} {R : mR} {M : mM} {a b : Int32} {Q : Int32 → Prop} (h : Q (mixI a b)) : w_Mo_mix n T R M a b Q := by
  intro v1 e1; subst e1; exact h
theorem wm_byte {n : Nat} {T : mT} {R : mR} {M : mM} {a b : Int32} {Q : Int32 → Prop} (h : Q (byI a b)) : w_Mo_byteAt n T R M a b Q := h
/-! layouts, read -/
section LAY
variable {sd : Int32} {T : mT} {R : mR} {T2 : mT} {R2 : mR}
theorem LC.tk (h : LC sd T R) {k tg : Nat} (h0 : 0 < k) (h1 : k ≤ 200) (ht : (TC (plS sd) k).1 = tg) : ok T 200 k tg := ⟨h0, h1, by rw [h.1 k h0 h1]; exact ht⟩
theorem LC.len (h : LC sd T R) {k : Nat} (h0 : 0 < k) (h1 : k ≤ 200) : (T k).2 = (TC (plS sd) k).2 := by rw [h.1 k h0 h1]
theorem LC.rf (h : LC sd T R) {k j v : Nat} (h0 : 0 < k) (h1 : k ≤ 200) (h3 : k ≠ 3) (h2 : ¬ (k = 2 ∧ j = 1)) (hv : RC k j = v) : R k j = v := by rw [h.2 k j h0 h1 h3 h2]; exact hv
theorem LC.rec (h : LC sd T R) {r : Nat} (hr : isRec r) : ok T 200 r 3 ∧ R r 0 = r + 1 ∧ ok T 200 (r + 1) 100 ∧ (T (r + 1)).2 = 24 := by
  obtain ⟨h1, h2, h3⟩ := hr
  have a1 : TC (plS sd) r = (3, 0) := by
    unfold TC
    rw [if_neg (by omega), if_neg (by omega), if_neg (by omega), if_pos (by omega), if_pos h1]
  have a2 : TC (plS sd) (r + 1) = (100, 24) := by
    unfold TC
    rw [if_neg (by omega), if_neg (by omega), if_neg (by omega), if_pos (by omega), if_neg (by omega)]
  have a3 : RC r 0 = r + 1 := by
    have : ∀ r, r < 127 → 4 ≤ r → r % 2 = 0 → RC r 0 = r + 1 := by decide +kernel
    exact this r (by omega) h2 h1
  exact ⟨h.tk (by omega) (by omega) (by rw [a1]), h.rf (by omega) (by omega) (by omega) (by omega) a3, h.tk (by omega) (by omega) (by rw [a2]), by rw [h.len (by omega) (by omega), a2]⟩
theorem LM.ok1 (h : LM T2 R2) : ok T2 34 1 11 := ⟨by decide, by decide, by rw [h.1 1 (by decide) (by decide)]; rfl⟩
theorem LM.arr (h : LM T2 R2) {j tg ln : Nat} (h1 : 11 ≤ j) (h2 : j ≤ 43) (ht : TM (j - 9) = (tg, ln)) : ok T2 34 (R2 1 j) tg ∧ (T2 (R2 1 j)).2 = ln := by
  rw [h.2 j h1 h2]
  have e := h.1 (j - 9) (by omega) (by omega)
  exact ⟨⟨by omega, by omega, by rw [e, ht]⟩, by rw [e, ht]⟩
end LAY
