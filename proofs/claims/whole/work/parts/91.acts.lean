/-! letting in, keeping a value, the first int of a load -/
section AC
variable {sd : Int32} {mt k c s cb nf w n e m i : Nat} {U V U' V' : mM} {hs : Nat → Int32} {dl : Int32} {T T2 : mT} {R R2 : mR} {M M2 : mM}
theorem winR_congr {g sn G : Int32} {L L' : Nat → Int32} (h : winR c g sn G L) (hL : ∀ j, j < 16 → L' j = L j) : winR c g sn G L' := by
  obtain ⟨z1, z2 | ⟨a, z3, z4, z5, z6⟩⟩ := h
  · exact ⟨z1, Or.inl ⟨z2.1, z2.2.1, fun j hj => by rw [hL j hj]; exact z2.2.2 j hj⟩⟩
  · refine ⟨z1, Or.inr ⟨a, z3, z4, fun d hd => ?_, fun j hj => ?_⟩⟩
    · rw [hL _ (by omega)]; exact z5 d hd
    · rw [hL _ hj]; exact z6 j hj
theorem let_ex (hM : LM T2 R2) (hs : s ≤ 1) (hwin : winsR c nf U V) (he : e < 4) (hn : n ≤ c) (hc : c ≤ 8208) (hw : ok T 200 (cb + (8 + 3 * nf + e)) 5) (hnew : newR (V 15 e) n) : ∃ sn' G' : Int32, (∀ (R : mR) (M : mM) (Q : mM → Prop), M (cb + (8 + 3 * nf + e)) 0 = U (8 + 3 * nf + e) 0 → M (cb + (8 + 3 * nf + e)) 1 = U (8 + 3 * nf + e) 1 → Q (sM (sM M (cb + (8 + 3 * nf + e)) 1 sn') (cb + (8 + 3 * nf + e)) 0 G') → w_Win_letIn 200 T R M (cb + (8 + 3 * nf + e)) (nI n) Q) ∧ (∀ (M2 : mM) (Q : mM → Prop), M2 15 (4 * s + e) = V 15 e → Q (sM (sM M2 15 (4 * s + e) G') 16 (64 * s + (16 * e + n % 16)) (nI n)) → w_Mo_let 34 T2 R2 M2 1 (nI s) (nI e) (nI n) Q) ∧ winsR c nf (sM (sM U (8 + 3 * nf + e) 1 sn') (8 + 3 * nf + e) 0 G') (sM (sM V 15 e G') 16 (16 * e + n % 16) (nI n)) := by
  have hwe := hwin e he
  have wg := hwe.1
  rw [wg] at hwe
  obtain ⟨sn', G', q1, q2, q3⟩ := let_both (T := T) hM hs hw he hn hc hwe hnew
  refine ⟨sn', G', fun R M Q m0 m1 hq => q1 R M Q (m0.trans wg) m1 hq, q2, fun e' he' => ?_⟩
  by_cases q : e' = e
  · subst q
    have a0 : sM (sM U (8 + 3 * nf + e') 1 sn') (8 + 3 * nf + e') 0 G' (8 + 3 * nf + e') 0 = G' := sM_e
    have a1 : sM (sM U (8 + 3 * nf + e') 1 sn') (8 + 3 * nf + e') 0 G' (8 + 3 * nf + e') 1 = sn' := by rw [sM_j 1 (by decide), sM_e]
    have a2 : sM (sM V 15 e' G') 16 (16 * e' + n % 16) (nI n) 15 e' = G' := by rw [sM_k 15 (by decide), sM_e]
    rw [a0, a1, a2]
    have a3 : ∀ j, j < 16 → sM (sM V 15 e' G') 16 (16 * e' + n % 16) (nI n) 16 (16 * e' + j) = upd (fun j => V 16 (16 * e' + j)) (n % 16) (nI n) j := fun j hj => by
      rw [sMt]
      show _ = if j = n % 16 then nI n else V 16 (16 * e' + j)
      by_cases q : j = n % 16
      · rw [if_pos ⟨rfl, by omega⟩, if_pos q]
      · rw [if_neg (by omega), if_neg q, sM_k 16 (by decide)]
    exact winR_congr q3 a3
  · have h1 := hwin e' he'
    have b1 : sM (sM U (8 + 3 * nf + e) 1 sn') (8 + 3 * nf + e) 0 G' (8 + 3 * nf + e') = U (8 + 3 * nf + e') := by rw [sM_k _ (by omega), sM_k _ (by omega)]
    have b2 : sM (sM V 15 e G') 16 (16 * e + n % 16) (nI n) 15 e' = V 15 e' := by rw [sM_k 15 (by decide), sM_j e' q]
    have b3 : ∀ j, j < 16 → sM (sM V 15 e G') 16 (16 * e + n % 16) (nI n) 16 (16 * e' + j) = V 16 (16 * e' + j) := fun j hj => by
      rw [sMt, if_neg (by omega), sM_k 16 (by decide)]
    rw [b1, b2]
    exact winR_congr h1 b3
theorem wc_letIn (hS : LSd T R cb nf) {r : Nat} (hr : ok T 200 r 3) (he : e < 4) (r4 : M r 4 = nI e) (r5 : M r 5 = nI n) {Q : mM → Prop} (hq : w_Win_letIn 200 T R M (cb + (8 + 3 * nf + e)) (nI n) Q) : w_Side_letIn 200 T R M cb r Q := by
  have ⟨g0, ⟨_, _, _, g5, _⟩, _, ⟨g31, g32, g33⟩, _⟩ := hS
  have ⟨g34, g35⟩ := g33 e he
  refine ⟨g0, ?_⟩
  rw [r4, r5, g5, g32, nI_clamp (by omega), g34]
  exact ⟨g31, hr, vp_in_nI (by omega) (by decide), g35, hq⟩
theorem wc_keep (hS : LSd T R cb nf) {v : Nat} (hv : v ≤ 60) (h8 : M cb 8 = nI v) {x : Int32} {K : mM → Prop} (h1 : v < 60 → K (sM (sM M (cb + 5) v x) cb 8 (nI (v + 1)))) (h2 : v = 60 → K M) : w_Side_keepValue 200 T R M cb x K := by
  have ⟨g0, ⟨_, _, _, _, _, g7⟩, _, _, _, ⟨g51, g52⟩, _⟩ := hS
  refine ⟨g0, ?_⟩
  rw [g7, g52, h8]
  refine ⟨g51, fun q => h2 ?_, fun q => ?_⟩
  · have := (nI_leI (a := 60) (by decide) (by omega)).mp q
    omega
  · have hlt : v < 60 := Nat.not_le.mp fun z => q (nI_le z (by omega))
    rw [nI_clamp (by omega)]
    refine ⟨vp_in_nI hlt (by decide), fun M3 e3 M4 e4 => ?_⟩
    have : M3 cb 8 = nI v := by rw [e3, sM_k _ (by omega)]; exact h8
    rw [this, nI_1] at e4
    subst e4; subst e3
    exact h1 hlt
theorem wm_B230 (hM : LM T2 R2) (hs : s ≤ 1) {v : Nat} (hv : v ≤ 60) (h34 : M2 34 s = nI v) {x : Int32} {Q : Int32 → mM → Prop} (h1 : v < 60 → Q 1 (sM (sM M2 33 (60 * s + v) x) 34 s (nI (v + 1)))) (h2 : v = 60 → Q 1 M2) : w_Mo_deliver_B230 34 T2 R2 Q 1 (nI s) 2 x M2 := by
  unfold w_Mo_deliver_B230
  simp only [hM.r_11, hM.r_12, hM.r_13, hM.r_14, hM.r_15, hM.r_16, hM.r_17, hM.r_18, hM.r_19, hM.r_20, hM.r_21, hM.r_22, hM.r_23, hM.r_24, hM.r_25, hM.r_26, hM.r_27, hM.r_28, hM.r_29, hM.r_30, hM.r_31, hM.r_32, hM.r_33, hM.r_34, hM.r_35, hM.r_36, hM.r_37, hM.r_38, hM.r_39, hM.r_40, hM.r_41, hM.r_42, hM.r_43, hM.l_2, hM.l_3, hM.l_4, hM.l_5, hM.l_6, hM.l_7, hM.l_8, hM.l_9, hM.l_10, hM.l_11, hM.l_12, hM.l_13, hM.l_14, hM.l_15, hM.l_16, hM.l_17, hM.l_18, hM.l_19, hM.l_20, hM.l_21, hM.l_22, hM.l_23, hM.l_24, hM.l_25, hM.l_26, hM.l_27, hM.l_28, hM.l_29, hM.l_30, hM.l_31, hM.l_32, hM.l_33, hM.l_34]
  rw [nI_clamp (by omega), h34, show (60 : Int32) * nI s + nI v = nI (60 * s + v) from i12 (a := 60), nI_clamp (by omega)]
  have vs : vp_in (nI s) 2 := vp_in_nI (by omega) (by decide)
  refine ⟨fun _ => ⟨hM.o_34, vs, fun q => h2 ?_, fun q => ?_⟩, fun q => absurd trivial q⟩
  · have := (nI_leI (a := 60) (by decide) (by omega)).mp q
    omega
  · have hlt : v < 60 := Nat.not_le.mp fun z => q (nI_le (a := 60) z (by omega))
    refine ⟨hM.o_33, vs, vp_in_nI (by omega) (by decide), fun M47 e47 => ⟨vs, vs, fun M50 e50 => ?_⟩⟩
    have : M47 34 s = nI v := by rw [e47, sM_k 34 (by decide)]; exact h34
    rw [this, nI_1] at e50
    subst e50; subst e47
    exact h1 hlt
theorem valR.add {v : Nat} {x : Int32} (h : valR U V) (hv : v < 60) (h8 : U 0 8 = nI v) : valR (sM (sM U 5 v x) 0 8 (nI (v + 1))) (sM (sM V 33 v x) 34 0 (nI (v + 1))) := by
  obtain ⟨v', a1, a2, a3, a4⟩ := h
  have : v' = v := (nI_eq (by omega) (by omega)).mp (a2.symm.trans h8)
  subst this
  refine ⟨v' + 1, by omega, sM_e, sM_e, fun i hi => ?_⟩
  rw [sM_k 5 (by decide), sM_k 33 (by decide)]
  by_cases q : i = v'
  · subst q; rw [sM_e, sM_e]
  · rw [sM_j i q, sM_j i q]; exact a4 i (by omega)
theorem ushr_n32 : ∀ v, v < 32 → (((nI v).toUInt32 &&& Int32.toUInt32 31).toBitVec % 32) = BitVec.ofNat 32 v := by decide +kernel
theorem shl_n32 : ∀ v, v < 32 → ((nI v &&& 31 : Int32).toBitVec.smod 32) = BitVec.ofNat 32 v := by decide +kernel
theorem byI_bv {x : Int32} {j : Nat} (hj : j < 4) : (byI x (nI j)).toBitVec = (x.toBitVec >>> (8 * j)) &&& 255#32 := by
  unfold byI
  have e : (8 : Int32) * nI j = nI (8 * j) := pk_mul 8 j
  rw [e]
  show (x.toUInt32 >>> ((nI (8 * j)).toUInt32 &&& Int32.toUInt32 31)).toBitVec &&& 255#32 = _
  rw [UInt32.toBitVec_shiftRight, ushr_n32 _ (by omega), BitVec.ushiftRight_eq']
  have t : (BitVec.ofNat 32 (8 * j)).toNat = 8 * j := by rw [BitVec.toNat_ofNat]; omega
  rw [t]; rfl
theorem bv4 (x : BitVec 32) : (((0#32 ||| ((x >>> 0) &&& 255#32) <<< 0) ||| ((x >>> 8) &&& 255#32) <<< 8) ||| ((x >>> 16) &&& 255#32) <<< 16) ||| ((x >>> 24) &&& 255#32) <<< 24 = x := by
  refine BitVec.eq_of_getLsbD_eq fun j hj => ?_
  have b255 : ∀ i, (255#32).getLsbD i = decide (i < 8) := by
    intro i
    by_cases q : i < 32
    · have z : ∀ i, i < 32 → (255#32).getLsbD i = decide (i < 8) := by decide +kernel
      exact z i q
    · rw [BitVec.getLsbD_of_ge _ _ (by omega)]
      exact (decide_eq_false (by omega)).symm
  simp only [BitVec.getLsbD_or, BitVec.getLsbD_shiftLeft, BitVec.getLsbD_and, BitVec.getLsbD_ushiftRight, b255, BitVec.getLsbD_zero, Bool.false_or, hj, decide_true, Bool.true_and]
  rcases (show j < 8 ∨ (8 ≤ j ∧ j < 16) ∨ (16 ≤ j ∧ j < 24) ∨ (24 ≤ j ∧ j < 32) by omega) with q | q | q | q
  · simp [show j - 0 < 8 by omega, show j < 8 by omega, show j < 16 by omega, show j < 24 by omega]
  · simp [show ¬ j < 8 by omega, show j - 8 < 8 by omega, show j < 16 by omega, show j < 24 by omega, show 8 + (j - 8) = j by omega]
  · simp [show ¬ j < 8 by omega, show ¬ j - 8 < 8 by omega, show ¬ j < 16 by omega, show j - 16 < 8 by omega, show j < 24 by omega, show 16 + (j - 16) = j by omega]
  · simp [show ¬ j < 8 by omega, show ¬ j - 8 < 8 by omega, show ¬ j < 16 by omega, show ¬ j - 16 < 8 by omega, show ¬ j < 24 by omega, show j - 24 < 8 by omega, show 24 + (j - 24) = j by omega]
theorem sh_bv {x : Int32} {j : Nat} (hj : j < 4) : (x <<< ((8 : Int32) * nI j &&& 31)).toBitVec = x.toBitVec <<< (8 * j) := by
  rw [show (8 : Int32) * nI j = nI (8 * j) from pk_mul 8 j, Int32.toBitVec_shiftLeft, shl_n32 _ (by omega), BitVec.shiftLeft_eq']
  have t : (BitVec.ofNat 32 (8 * j)).toNat = 8 * j := by rw [BitVec.toNat_ofNat]; omega
  rw [t]
theorem by4 (v : Int32) : (((0 ||| (byI v (nI 0) <<< ((8 : Int32) * nI 0 &&& 31))) ||| (byI v (nI 1) <<< ((8 : Int32) * nI 1 &&& 31))) ||| (byI v (nI 2) <<< ((8 : Int32) * nI 2 &&& 31))) ||| (byI v (nI 3) <<< ((8 : Int32) * nI 3 &&& 31)) = v := by
  refine Int32.toBitVec_inj.mp ?_
  show (((0#32 ||| (byI v (nI 0) <<< ((8 : Int32) * nI 0 &&& 31)).toBitVec) ||| (byI v (nI 1) <<< ((8 : Int32) * nI 1 &&& 31)).toBitVec) ||| (byI v (nI 2) <<< ((8 : Int32) * nI 2 &&& 31)).toBitVec) ||| (byI v (nI 3) <<< ((8 : Int32) * nI 3 &&& 31)).toBitVec = v.toBitVec
  rw [sh_bv (by decide), sh_bv (by decide), sh_bv (by decide), sh_bv (by decide), byI_bv (by decide), byI_bv (by decide), byI_bv (by decide), byI_bv (by decide)]
  exact bv4 v.toBitVec
theorem wc_readInt (hL : LC sd T R) {r : Nat} (hr : isRec r) {v : Int32} (hv : ∀ j, j < 4 → M (r + 1) j = byI v (nI j)) {Q : Int32 → Prop} (hq : Q v) : w_Rec_readFirstInt 200 T R M r Q := by
  obtain ⟨b1, b2, b3, b4⟩ := hL.rec hr
  refine ⟨b1, 5, ?_⟩
  have st : ∀ (N j : Nat) (a : Int32), j < 4 → w_Rec_readFirstInt_L4 200 T R M Q r N (a ||| (byI v (nI j) <<< ((8 : Int32) * nI j &&& 31))) (nI (j + 1)) → w_Rec_readFirstInt_L4 200 T R M Q r (N + 1) a (nI j) := by
    intro N j a hj h
    unfold w_Rec_readFirstInt_L4
    rw [b2, b4, nI_clamp (by omega), hv j hj]
    refine ⟨fun q => absurd q (nI_ge (b := 4) hj (by decide)), fun _ => ⟨b3, vp_in_nI (by omega) (by decide), fun v4 e4 v5 e5 => ?_⟩⟩
    rw [nI_1] at e5
    subst e4; subst e5
    exact h
  refine st 4 0 0 (by decide) (st 3 1 _ (by decide) (st 2 2 _ (by decide) (st 1 3 _ (by decide) ?_)))
  rw [by4]
  unfold w_Rec_readFirstInt_L4
  exact ⟨fun _ => hq, fun q => absurd (by decide) q⟩
end AC
