section SN
variable {sd : Int32} {c mt k s cb nf w m : Nat} {T T2 : mT} {R R2 : mR} {M M2 M15 : mM}
theorem isSd.le (hs : isSd s cb nf w) : s ≤ 1 ∧ 128 ≤ cb ∧ nf ≤ 9 ∧ 1 ≤ nf ∧ 12 + 3 * nf ≤ w ∧ cb + w ≤ 201 := by
  rcases hs with ⟨rfl, rfl, rfl, rfl⟩ | ⟨rfl, rfl, rfl, rfl⟩ <;> decide
/-- a side's own ints, read -/
theorem SimP.own (hs : isSd s cb nf w) (h : SimP sd mt k c R M M2) : ∃ x t : Nat, stOK s x t ∧ x ≤ 5 ∧ t ≤ 8 ∧ M cb 0 = nI s ∧ M cb 1 = nI mt ∧ M cb 9 = nI x ∧ M2 12 s = nI x ∧ M2 13 s = nI t ∧ M cb 10 = TD sd t ∧ M cb 11 = nI (wrP s t) ∧ M cb 12 = nI (rdP s t) := by
  have hl := hs.le
  obtain ⟨⟨a1, a2⟩, ⟨x, t, b1, b2, b3, b4, b5, b6, b7⟩, -⟩ := h.side hs
  rw [uw_at (by omega)] at a1 a2 b2 b5 b6 b7
  rw [vw_at (by decide)] at b3 b4
  have e1 : stA 12 * s + 0 = s := by show 1 * s + 0 = s; omega
  have e2 : stA 13 * s + 0 = s := by show 1 * s + 0 = s; omega
  rw [e1] at b3
  rw [e2] at b4
  refine ⟨x, t, b1, ?_, ?_, a1, a2, b2, b3, b4, b5, b6, b7⟩
  · unfold stOK at b1; split at b1 <;> omega
  · unfold stOK at b1; split at b1 <;> omega
theorem rec_mk {r i : Nat} (hr : isRec r) (h : (M r 2 = M2 2 i ∧ M r 3 = M2 3 i ∧ M r 4 = M2 4 i ∧ M r 5 = M2 5 i ∧ M r 8 = M2 6 i) ∧ (M2 2 i = 0 ∨ M2 2 i = 1) ∧ (M2 6 i = 0 ∨ M2 6 i = 1) ∧ (∃ a : Nat, a ≤ c ∧ M2 5 i = nI a) ∧
    bodyR sd c (M2 2 i) (M2 3 i) (M2 4 i) (M2 7 i) (M2 8 i) (M2 9 i) (fun j => M2 10 (8 * i + j)) (fun j => M2 11 (8 * i + j)) (M r 6) (M r 7) (M r 1) (M (r + 1))) : recR sd c (nw M) (nv M2) r i := by
  obtain ⟨h1, h2, h3⟩ := hr
  have e : ∀ j, nw M r j = M r j := fun j => nw_at ⟨by omega, by omega⟩
  have e1 : nw M (r + 1) = M (r + 1) := by funext j; exact nw_at ⟨by omega, by omega⟩
  have v : ∀ a, 2 ≤ a → a ≤ 11 → ∀ j, nv M2 a j = M2 a j := fun a h1 h2 j => nv_at (Or.inr ⟨h1, h2⟩)
  unfold recR
  simp only [e, e1, v 2 (by decide) (by decide), v 3 (by decide) (by decide), v 4 (by decide) (by decide), v 5 (by decide) (by decide), v 6 (by decide) (by decide), v 7 (by decide) (by decide), v 8 (by decide) (by decide), v 9 (by decide) (by decide), v 10 (by decide) (by decide), v 11 (by decide) (by decide)]
  exact h
/-- a record stands behind all others on both sides -/
theorem SimP.putIn (hP : SimP sd mt k c R M M2) (hm : m < 60) (e1 : M 2 3 = nI m) {F f : Nat → Int32} {z : Nat} (v8 : M15 1 8 = nI (m + 1)) (v1 : ∀ j, j ≠ 8 → j ≠ 10 → M15 1 j = M2 1 j) (v12 : ∀ a, 12 ≤ a → M15 a = M2 a) (vV : ∀ a, 2 ≤ a → a ≤ 9 → ∀ i, i < m → M15 a i = M2 a i) (vN : ∀ a, a = 10 ∨ a = 11 → ∀ q, q < 8 * m → M15 a q = M2 a q)
    (f2 : F 2 = M15 2 m) (f3 : F 3 = M15 3 m) (f4 : F 4 = M15 4 m) (f5 : F 5 = M15 5 m) (f8 : F 8 = M15 6 m) (g2 : M15 2 m = 0 ∨ M15 2 m = 1) (g6 : M15 6 m = 0 ∨ M15 6 m = 1) (g5 : ∃ a : Nat, a ≤ c ∧ M15 5 m = nI a)
    (hb : ∀ ld : Nat → Int32, (∀ j, j < z → ld j = f j) → bodyR sd c (M15 2 m) (M15 3 m) (M15 4 m) (M15 7 m) (M15 8 m) (M15 9 m) (fun j => M15 10 (8 * m + j)) (fun j => M15 11 (8 * m + j)) (F 6) (F 7) (F 1) ld) : SimP sd mt k c R (loadM (putRec (sM (sM M 2 5 (M 2 5 + 1)) 2 3 (nI (m + 1))) (R 3 m) F) (R 3 m) z f) M15 := by
  have hrow := hP.2.2.2.1.1
  obtain ⟨b0, b1⟩ := hrow.1 m hm
  have hb0 := b0
  obtain ⟨y1, y2, y3⟩ := b0
  refine hP.net (fun a ha => ?_) v12 (fun j h8 _ h10 => v1 j h8 h10) ?_
  · rw [loadM_out (by omega), putRec_out (by omega), sM_k _ (by omega), sM_k _ (by omega)]
  · refine hP.2.2.2.1.add (Nat.le_refl c) hm e1 (fun a ha h1 h2 h3 => ?_) ?_ ?_ v8 (v1 9 (by decide) (by decide)) vV vN ?_
    · rw [loadM_out h3, putRec_out h2, sM_k _ (by omega), sM_k _ (by omega)]
    · rw [loadM_out (by omega), putRec_out (by omega), sM_e]
    · rw [loadM_out (by omega), putRec_out (by omega), sM_j _ (by decide), sM_j _ (by decide)]
    · have fr : ∀ j, 1 ≤ j → j ≤ 8 → loadM (putRec (sM (sM M 2 5 (M 2 5 + 1)) 2 3 (nI (m + 1))) (R 3 m) F) (R 3 m) z f (R 3 m) j = F j := fun j h1 h2 => by rw [loadM_out (by omega), putRec_in h1 h2]
      refine rec_mk hb0 ⟨⟨?_, ?_, ?_, ?_, ?_⟩, g2, g6, g5, ?_⟩
      · rw [fr 2 (by decide) (by decide)]; exact f2
      · rw [fr 3 (by decide) (by decide)]; exact f3
      · rw [fr 4 (by decide) (by decide)]; exact f4
      · rw [fr 5 (by decide) (by decide)]; exact f5
      · rw [fr 8 (by decide) (by decide)]; exact f8
      · rw [fr 6 (by decide) (by decide), fr 7 (by decide) (by decide), fr 1 (by decide) (by decide)]
        exact hb _ (fun j hj => loadM_in hj)
/-- a record is lost on both sides -/
theorem SimP.putLo (hP : SimP sd mt k c R M M2) {F f : Nat → Int32} {z : Nat} : SimP sd mt k c R (loadM (putRec (sM (sM M 2 5 (M 2 5 + 1)) 2 4 (M 2 4 + 1)) 6 F) 6 z f) (loM M2) := by
  refine hP.net (fun a ha => ?_) (fun a ha => ?_) (fun j h8 h9 h10 => ?_) (hP.2.2.2.1.lose (fun a h1 h2 h6 h7 => ?_) ?_ ?_ ?_ ?_ (fun a h1 h2 => ?_))
  · rw [loadM_out (by omega), putRec_out (by omega), sM_k _ (by omega), sM_k _ (by omega)]
  · unfold loM; rw [sM_k _ (by omega), sM_k _ (by omega)]
  · unfold loM; rw [sM_j _ h9, sM_j _ h10]
  · rw [loadM_out h7, putRec_out h6, sM_k _ (by omega), sM_k _ (by omega)]
  · rw [loadM_out (by decide), putRec_out (by decide), sM_j _ (by decide), sM_j _ (by decide)]
  · rw [loadM_out (by decide), putRec_out (by decide), sM_e]
  · unfold loM; rw [sM_j _ (by decide), sM_j _ (by decide)]
  · unfold loM; rw [sM_e]
  · unfold loM; rw [sM_k _ (by omega), sM_k _ (by omega)]
theorem puM_in {f k e n : Int32} {a : Nat} (h2 : 2 ≤ a) (h9 : a ≤ 9) : puM M m f k e n a m = if a = 2 then f else if a = 3 then k else if a = 4 then e else if a = 5 then n else 0 := by
  unfold puM
  rw [if_neg (by omega), if_neg (by omega), if_pos ⟨h2, h9, rfl⟩]
theorem puM_o {f k e n : Int32} {a j : Nat} (h1 : ¬ (a = 1 ∧ (j = 8 ∨ j = 10))) (h2 : ¬ (2 ≤ a ∧ a ≤ 9 ∧ j = m)) : puM M m f k e n a j = M a j := by
  unfold puM
  rw [if_neg (by omega), if_neg (by omega), if_neg h2]
theorem puM_8 {f k e n : Int32} : puM M m f k e n 1 8 = nI (m + 1) := if_pos ⟨rfl, rfl⟩
theorem loadM_1 {B : mM} {r : Nat} {F : Nat → Int32} {x : Int32} : sM (sM (putRec B r F) (r + 1) 0 x) r 1 1 = loadM (putRec B r (upd F 1 1)) r 1 (fun _ => x) := by
  rw [← putRec_s (by decide) (by decide)]
  funext a j
  simp only [sMt, loadM]
  by_cases q : a = r ∧ j = 1
  · rw [if_pos q, if_neg (by omega), if_pos q]
  · rw [if_neg q, if_neg q]
    by_cases q2 : a = r + 1 ∧ j = 0
    · rw [if_pos q2, if_pos (by omega)]
    · rw [if_neg q2, if_neg (by omega)]
theorem wr_le3 (s t : Nat) : wrP s t ≤ 3 := by
  unfold wrP
  split
  · omega
  · split <;> split <;> omega
/-- DATA goes out on both sides -/
theorem send_side (hs : isSd s cb nf w) (hL : LC sd T R) (hM : LM T2 R2) (hP : SimP sd mt k c R M M2) (hb : c + 1 ≤ 8208) {x : Int32} {K : Int32 → mM → Prop} (hK : ∀ (r : Int32) (M' M2' : mM), (r = 0 ∨ r = 1) → (∀ Q' : Int32 → mM → Prop, Q' r M2' → w_Mo_send 34 T2 R2 M2 1 (nI s) x Q') → SimP sd mt k (c + 1) R M' M2' → K r M') : w_Side_sendData 200 T R M cb x K := by
  have hl := hs.le
  have hS := hL.sid hs
  obtain ⟨xx, t, b1, bx, bt, o0, o1, o9, m12, m13, o10, o11, o12⟩ := hP.own hs
  have hP1 := hP.mono (c' := c + 1) (by omega) hb
  have w3 := wr_le3 s t
  -- the reference, up to its question
  have mo : ∀ {Q' : Int32 → mM → Prop}, (xx = 5 → Q' 0 M2) → (wrP s t ≠ 3 → Q' 0 M2) → (xx ≠ 5 → wrP s t = 3 → ok T2 34 14 100 ∧ vp_in (nI (4 * s + 3)) 8 ∧ ∀ v7 : Int32, v7 = M2 14 (4 * s + 3) → vp_in (nI (4 * s + 3)) 8 ∧ vp_in (nI (4 * s + 3)) 8 ∧ ∀ M10 : mM, M10 = sM M2 14 (4 * s + 3) (M2 14 (4 * s + 3) + 1) → w_Mo_put 34 T2 R2 M10 1 (nI s) 2 3 v7 (fun r11 M12 => (r11 < 0 → Q' 1 M12) ∧ (¬ r11 < 0 → ok T2 34 7 100 ∧ vp_in r11 60 ∧ ∀ M15 : mM, M15 = sM M12 7 r11.toNatClampNeg x → Q' 1 M15))) → w_Mo_send 34 T2 R2 M2 1 (nI s) x Q' := by
    intro Q' g1 g2 g3
    refine ⟨hM.ok1, fun z => absurd z (nI_pos (by omega)), fun _ => ⟨fun z => ?_, fun _ => ?_⟩⟩
    · have := (nI_ltI (a := 1) (b := s) (by decide) (by omega)).mp z
      omega
    · simp only [hM.r_11, hM.r_12, hM.r_13, hM.r_14, hM.r_15, hM.r_16, hM.r_17, hM.r_18, hM.r_19, hM.r_20, hM.r_21, hM.r_22, hM.r_23, hM.r_24, hM.r_25, hM.r_26, hM.r_27, hM.r_28, hM.r_29, hM.r_30, hM.r_31, hM.r_32, hM.r_33, hM.r_34, hM.r_35, hM.r_36, hM.r_37, hM.r_38, hM.r_39, hM.r_40, hM.r_41, hM.r_42, hM.r_43, hM.l_2, hM.l_3, hM.l_4, hM.l_5, hM.l_6, hM.l_7, hM.l_8, hM.l_9, hM.l_10, hM.l_11, hM.l_12, hM.l_13, hM.l_14, hM.l_15, hM.l_16, hM.l_17, hM.l_18, hM.l_19, hM.l_20, hM.l_21, hM.l_22, hM.l_23, hM.l_24, hM.l_25, hM.l_26, hM.l_27, hM.l_28, hM.l_29, hM.l_30, hM.l_31, hM.l_32, hM.l_33, hM.l_34]
      rw [nI_clamp (by omega), m12]
      refine ⟨hM.o_12, vp_in_nI (by omega) (by decide), fun z => g1 ((nI_eq (b := 5) (by omega) (by decide)).mp z), fun z => ?_⟩
      have hx5 : xx ≠ 5 := fun y => z (by rw [y]; rfl)
      refine wm_writes (e := 3) hM hl.1 bt m13 (Or.inr (Or.inr rfl)) ?_
      by_cases y : wrP s t = 3
      · rw [if_pos (by omega)]
        refine ⟨fun z => absurd z (by decide), fun _ => ?_⟩
        have := g3 hx5 y
        rw [show (4 : Int32) * nI s + 3 = nI (4 * s + 3) from i12 (a := 4) (k := 3), nI_clamp (by omega)]
        exact this
      · rw [if_neg (by omega)]
        exact ⟨fun _ => g2 y, fun z => absurd rfl z⟩
  refine ⟨hS.1, ?_⟩
  rw [o11, o9]
  refine ⟨fun z => ?_, fun z => ⟨fun y => ?_, fun y => ?_⟩⟩
  · have : wrP s t < 3 := (nI_ltI (b := 3) (by omega) (by decide)).mp z
    exact hK 0 M M2 (Or.inl rfl) (fun Q' hq => mo (fun _ => hq) (fun _ => hq) (fun _ q => absurd q (by omega))) hP1
  · have : xx = 5 := (nI_eq (b := 5) (by omega) (by decide)).mp y
    exact hK 0 M M2 (Or.inl rfl) (fun Q' hq => mo (fun _ => hq) (fun _ => hq) (fun q => absurd this q)) hP1
  · have hw3 : wrP s t = 3 := by
      have : ¬ wrP s t < 3 := fun q => z (nI_lt q (by decide))
      omega
    have hx5 : ¬ xx = 5 := fun q => y (by rw [q]; rfl)
    rw [hS.2.1.1, o0]
    obtain ⟨a, ha, n1, n2, hP2⟩ := hP.num hs (e := 3) (by decide) hb
    refine ⟨hL.o_2, wc_takeNumber hS (e := 3) (by decide) n1 ?_⟩
    generalize hM1 : sM M (cb + 4) 3 (nI (a + 1)) = M1 at hP2 ⊢
    generalize hM3 : sM M2 14 (4 * s + 3) (nI (a + 1)) = M3 at hP2
    obtain ⟨m, hm, e1, e2, e3, hrow, hrec⟩ := cnt_eq hP2
    have i4 : vp_in (nI (4 * s + 3)) 8 := vp_in_nI (by omega) (by decide)
    have mo2 : ∀ {Q' : Int32 → mM → Prop}, w_Mo_put 34 T2 R2 M3 1 (nI s) 2 3 (nI a) (fun r11 M12 => (r11 < 0 → Q' 1 M12) ∧ (¬ r11 < 0 → ok T2 34 7 100 ∧ vp_in r11 60 ∧ ∀ M15 : mM, M15 = sM M12 7 r11.toNatClampNeg x → Q' 1 M15)) → w_Mo_send 34 T2 R2 M2 1 (nI s) x Q' := by
      intro Q' hput
      refine mo (fun q => absurd q hx5) (fun q => absurd hw3 q) (fun _ _ => ⟨hM.o_14, i4, fun v7 e7 => ⟨i4, i4, fun M10 e10 => ?_⟩⟩)
      rw [n2] at e7 e10
      subst e7
      rw [nI_1, hM3] at e10
      subst e10
      exact hput
    refine wc_append hL hrow hm e1 (fun hlt => ?_) (fun heq => ?_)
    · obtain ⟨b0, b1', b2, b3, b4⟩ := row_ok hL hrow hlt
      refine ⟨b1', b1', ?_⟩
      rw [b2, b4]
      refine ⟨b3, vp_in_nI (n := 0) (by decide) (by decide), fun M5 e5 M6 e6 => hK 1 M6 (sM (puM M3 m (nI s) 2 3 (nI a)) 7 m x) (Or.inr rfl) (fun Q' hq => mo2 (wm_put hM hm e2 (fun _ => ⟨fun q => absurd q (nI_pos (by omega)), fun _ => ?_⟩) (fun q => absurd q (by omega)))) ?_⟩
      · rw [nI_clamp (by omega)]
        exact ⟨hM.o_7, vp_in_nI hlt (by decide), fun M15 e15 => by rw [e15]; exact hq⟩
      rw [e5, loadM_1] at e6
      subst e6
      have p2 : sM (puM M3 m (nI s) 2 3 (nI a)) 7 m x 2 m = nI s := by rw [sM_k 2 (by decide), puM_in (by decide) (by decide)]; rfl
      have p3 : sM (puM M3 m (nI s) 2 3 (nI a)) 7 m x 3 m = 2 := by rw [sM_k 3 (by decide), puM_in (by decide) (by decide)]; rfl
      have p4 : sM (puM M3 m (nI s) 2 3 (nI a)) 7 m x 4 m = 3 := by rw [sM_k 4 (by decide), puM_in (by decide) (by decide)]; rfl
      have p5 : sM (puM M3 m (nI s) 2 3 (nI a)) 7 m x 5 m = nI a := by rw [sM_k 5 (by decide), puM_in (by decide) (by decide)]; rfl
      have p6 : sM (puM M3 m (nI s) 2 3 (nI a)) 7 m x 6 m = 0 := by rw [sM_k 6 (by decide), puM_in (by decide) (by decide)]; rfl
      have p7 : sM (puM M3 m (nI s) 2 3 (nI a)) 7 m x 7 m = x := sM_e
      refine hP2.putIn hlt e1 ?_ (fun j h8 h10 => ?_) (fun a' ha' => ?_) (fun a' h2 h9 i hi => ?_) (fun a' ha' q hq' => ?_) (by rw [p2]; rfl) (by rw [p3]; rfl) (by rw [p4]; rfl) (by rw [p5]; rfl) (by rw [p6]; rfl) ?_ (by rw [p6]; exact Or.inl rfl) ⟨a, by omega, p5⟩ (fun ld hld => ?_)
      · rw [sM_k 1 (by decide), puM_8]
      · rw [sM_k 1 (by decide), puM_o (by omega) (by omega)]
      · rw [sM_k a' (by omega)]; funext j; exact puM_o (by omega) (by omega)
      · rw [sMt, if_neg (by omega), puM_o (by omega) (by omega)]
      · rw [sM_k a' (by omega), puM_o (by omega) (by omega)]
      · rw [p2]; rcases (show s = 0 ∨ s = 1 by omega) with rfl | rfl
        · exact Or.inl rfl
        · exact Or.inr rfl
      · rw [p3, p4, p7]
        exact Or.inr (Or.inr ⟨rfl, rfl, rfl, hld 0 (by decide)⟩)
    · obtain ⟨b1', b2, b3, b4⟩ := hL.rec (r := 6) ⟨by decide, by decide, by decide⟩
      refine ⟨b1', b1', ?_⟩
      rw [b2, b4]
      refine ⟨b3, vp_in_nI (n := 0) (by decide) (by decide), fun M5 e5 M6 e6 => hK 1 M6 (loM M3) (Or.inr rfl) (fun Q' hq => mo2 (wm_put hM hm e2 (fun q => absurd q (by omega)) (fun _ => ⟨fun _ => hq, fun q => absurd (by decide) q⟩))) ?_⟩
      rw [e5, loadM_1] at e6
      subst e6
      exact hP2.putLo
end SN
theorem sim_send : ∀ (c : Nat) (T : mT) (R : mR) (M : mM) (T2 : mT) (R2 : mR) (M2 : mM) (u1 : Int32) (u2 : Int32), c < 512 → Sim c T R M T2 R2 M2 → w_X_send 200 T R M 1 u1 u2 (fun r M' => w_Mo_send 34 T2 R2 M2 1 u1 u2 (fun r2 M2' => r = r2 ∧ Sim (c + 1) T R M' T2 R2 M2')) := by
  intro c T R M T2 R2 M2 u1 u2 hc h
  have hn := h.next hc
  obtain ⟨h0, sd, mt, k, hk, hL, hM, hP⟩ := h
  have fin : ∀ {M' M2' : mM}, SimP sd mt k (16 * c + 1) R M' M2' → Sim (c + 1) T R M' T2 R2 M2' := fun hp => ⟨by omega, sd, mt, k, by omega, hL, hM, hp.mono (by omega) (by omega)⟩
  have z1 : ∀ {Q : Int32 → mM → Prop} {r : Int32} {M' : mM}, (r = 0 ∨ r = 1) → Q r M' → ((r = 0 → Q 0 M') ∧ (¬ r = 0 → Q 1 M')) := by
    intro Q r M' hr hq
    rcases hr with rfl | rfl
    · exact ⟨fun _ => hq, fun q => absurd rfl q⟩
    · exact ⟨fun q => absurd q (by decide), fun _ => hq⟩
  refine ⟨hL.o_1, side_w (fun hu => ⟨fun _ => ⟨hM.ok1, fun _ => ⟨rfl, hn⟩, fun a => ⟨fun _ => ⟨rfl, hn⟩, fun b => ?_⟩⟩, fun q => absurd rfl q⟩) (fun hu => ⟨fun q => absurd q (by decide), fun _ => ⟨hL.o_1, fun e => ?_, fun e => ?_⟩⟩)⟩
  · rw [Int32.lt_iff_toInt_lt] at a b
    have y0 : (0 : Int32).toInt = 0 := rfl
    have y1 : (1 : Int32).toInt = 1 := rfl
    rw [y0] at a; rw [y1] at b
    rcases (show u1.toInt = 0 ∨ u1.toInt = 1 by omega) with e | e
    · exact absurd (Int32.toInt_inj.mp (e.trans y0.symm)) hu.1
    · exact absurd (Int32.toInt_inj.mp (e.trans y1.symm)) hu.2
  · subst e
    rw [hL.r_1_1]
    exact ⟨hL.o_128, Or.inl hL.o_128, send_side (s := 0) (Or.inl ⟨rfl, rfl, rfl, rfl⟩) hL hM hP (by omega) (fun r M' M2' hr hrun hp => z1 (Q := fun r M' => w_Mo_send 34 T2 R2 M2 1 0 u2 (fun r2 M2' => r = r2 ∧ Sim (c + 1) T R M' T2 R2 M2')) hr (hrun _ ⟨rfl, fin hp⟩))⟩
  · have e : u1 = 1 := hu.resolve_left e
    subst e
    rw [hL.r_1_2]
    exact ⟨hL.o_152, Or.inr hL.o_152, send_side (s := 1) (Or.inr ⟨rfl, rfl, rfl, rfl⟩) hL hM hP (by omega) (fun r M' M2' hr hrun hp => z1 (Q := fun r M' => w_Mo_send 34 T2 R2 M2 1 1 u2 (fun r2 M2' => r = r2 ∧ Sim (c + 1) T R M' T2 R2 M2')) hr (hrun _ ⟨rfl, fin hp⟩))⟩
