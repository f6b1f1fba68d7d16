/-! both send a piece; both send all open ones -/
section PB
variable {sd : Int32} {mt k c s cb nf w b i f tm : Nat} {U V U' V' : mM} {hs : Nat → Int32} {dl : Int32} {T T2 : mT} {R R2 : mR} {M M2 : mM}
theorem stA1_v (h : NS sd mt k c s cb w U V U' V' hs dl R M M2) {a : Nat} (ha : stA a = 1) : M2 a s = V a 0 := by
  have := h.v (a := a) (j := 0) (by omega)
  rw [ha, Nat.one_mul] at this
  exact this
theorem NS.setV1 (hsd : isSd s cb nf w) (h : NS sd mt k c s cb w U V U' V' hs dl R M M2) {a : Nat} {x : Int32} (ha : stA a = 1) : NS sd mt k c s cb w U (sM V a 0 x) U' V' hs dl R M (sM M2 a s x) := by
  have := h.setV hsd (a := a) (j := 0) (x := x) (by omega)
  rw [ha, Nat.one_mul] at this
  exact this
theorem NS.u0 (hsd : isSd s cb nf w) (h : NS sd mt k c s cb w U V U' V' hs dl R M M2) {j : Nat} : M cb j = U 0 j := h.u (i := 0) (by have := hsd.le; omega)
/-- the piece i of both flights goes out -/
theorem piece_both (hsd : isSd s cb nf w) (hL : LC sd T R) (hM : LM T2 R2) (h : NS sd mt k c s cb w U V U' V' hs dl R M M2) (hb : c + 1 ≤ 8208) (hU0 : U 0 0 = nI s) (hfl : flS sd mt c s nf b i f tm U V) (hn : nxtR c U V) (hi : i < f) {K : mM → Prop}
    (hK : ∀ U1 V1 M' M2', (∀ Q', Q' M2' → w_Mo_sendPiece 34 T2 R2 M2 1 (nI s) (nI i) Q') → NS sd mt k (c + 1) s cb w U1 V1 U' V' hs dl R M' M2' → flS sd mt (c + 1) s nf b (i + 1) f (tm + 1) U1 V1 → nxtR (c + 1) U1 V1 → frS nf U V U1 V1 → K M') :
    w_Side_takeNumber 200 T R M cb (M (cb + (8 + 3 * i)) 3) (fun r7 M8 => w_Frag_rememberSending 200 T R M8 (cb + (8 + 3 * i)) r7 (fun M9 => (ok T 200 2 4 ∧ w_Net_append 200 T R M9 2 (M9 cb 0) 0 (M9 (cb + (8 + 3 * i)) 3) r7 (fun r11 M12 => ok T 200 r11 3 ∧ w_Rec_markAsPiece 200 T R M12 r11 (M12 (cb + (8 + 3 * i)) 2) (M12 (cb + (8 + 3 * i)) 4) (fun M15 => (ok T 200 (cb + (9 + 3 * i)) 100 ∧ w_Rec_hold 200 T R M15 r11 (cb + (9 + 3 * i)) (M15 (cb + (8 + 3 * i)) 5) K)))))) := by
  have hl := hsd.le
  have hS := hL.sid hsd
  have hfi := hfl.2.2.2.2.2.2.2 i hi
  have ⟨x1, x2, x3, x4, x5, x6, _, _⟩ := hfl
  obtain ⟨p, q, z, sn, f1⟩ := hfi
  rw [if_neg (Nat.lt_irrefl i)] at f1
  have ff := f1
  obtain ⟨g1, g2, g3, g4, g5, g6, g7, g8, g9, g10, g11, g12, g13, g14, g15, g16, g17⟩ := f1
  have hep := epP_le p
  have hp7 : p ≤ 7 := by unfold sender at g1; omega
  obtain ⟨a, ha, n1, n2⟩ := hn (epP p) (by omega)
  have hfb : f * b ≤ 9 * 6 := Nat.mul_le_mul (by omega) x4
  have ⟨s1, s2, s3, s4, s5, s6, s7, s8⟩ := hS.2.2.2.2.2.2.2.1 i (by omega)
  have mU : ∀ {i' j : Nat}, i' < 12 + 3 * nf → M (cb + i') j = U i' j := fun hi' => h.u (by omega)
  have e3 : M (cb + (8 + 3 * i)) 3 = nI (epP p) := by rw [mU (by omega)]; exact g11
  rw [e3]
  refine wc_takeNumber hS (by omega) (a := a) (by rw [mU (by omega)]; exact n1) ?_
  have hA := h.setU hsd (i := 4) (j := epP p) (x := nI (a + 1)) (by omega)
  generalize hMa : sM M (cb + 4) (epP p) (nI (a + 1)) = Ma at hA ⊢
  have ma : ∀ {i' j : Nat}, i' ≠ 4 → i' < 12 + 3 * nf → Ma (cb + i') j = U i' j := fun h4 hi' => by rw [← hMa, sM_k _ (by omega)]; exact mU hi'
  refine ⟨s2, ?_⟩
  rw [s4, s8, ma (by omega) (by omega), g16]
  refine ⟨s7, fun x => absurd x (nI_ge (by omega) (by decide)), fun _ => ?_⟩
  rw [ma (by omega) (by omega), g11]
  show vp_in (nI sn) 7 ∧ _
  refine ⟨vp_in_nI (by omega) (by decide), fun M4 e4 M5 e5 => ?_⟩
  have en : nI a * 4 + nI (epP p) = nI (4 * a + epP p) := by
    rw [show (4 : Int32) = nI 4 from rfl, pk_mul, nI_add, Nat.mul_comm]
  rw [nI_clamp (by omega), en] at e4
  have hB := hA.setU hsd (i := 10 + 3 * i) (j := sn) (x := nI (4 * a + epP p)) (by omega)
  rw [← e4] at hB
  have d46 : M4 (cb + (8 + 3 * i)) 6 = nI sn := by rw [e4, sM_k _ (by omega), ma (by omega) (by omega)]; exact g16
  rw [d46, nI_1] at e5
  have hC := hB.setU hsd (i := 8 + 3 * i) (j := 6) (x := nI (sn + 1)) (by omega)
  rw [← e5] at hC
  have hU1 : sM (sM (sM U 4 (epP p) (nI (a + 1))) (10 + 3 * i) sn (nI (4 * a + epP p))) (8 + 3 * i) 6 (nI (sn + 1)) = spU U (epP p) a i sn := rfl
  rw [hU1] at hC
  have m5 : ∀ {i' j : Nat}, i' < 12 + 3 * nf → M5 (cb + i') j = spU U (epP p) a i sn i' j := fun hi' => hC.u (by omega)
  have hD := ((((hC.setV hsd (a := 14) (j := epP p) (x := nI (a + 1)) (by show epP p < 4; omega)).setV hsd (a := 26) (j := tm) (x := nI (epP p)) (by show tm < 80; omega)).setV hsd (a := 27) (j := tm) (x := nI a) (by show tm < 80; omega)).setV hsd (a := 28) (j := tm) (x := nI i) (by show tm < 80; omega)).setV1 hsd (a := 25) (x := nI (tm + 1)) rfl
  have hD' : NS sd mt k c s cb w (spU U (epP p) a i sn) (spV V (epP p) a tm i) U' V' hs dl R M5 (spM M2 s (epP p) a tm i) := hD
  clear hD hA hB hC
  obtain ⟨m, hm, c1, c2, c3, hrow, hrec⟩ := hD'.cnt
  have e00 : M5 cb 0 = nI s := by
    rw [hD'.u0 hsd, spU_k (by decide) (by omega) (by omega)]; exact hU0
  have v8 : ∀ x, x ≠ 6 → spU U (epP p) a i sn (8 + 3 * i) x = U (8 + 3 * i) x := fun x hx => by rw [spU_t, if_neg (by omega), if_neg (by omega), if_neg (by omega)]
  have e30 : M5 (cb + (8 + 3 * i)) 3 = nI (epP p) := by rw [m5 (by omega), v8 3 (by decide)]; exact g11
  refine ⟨hL.o_2, ?_⟩
  rw [e00, e30]
  have mm2 : M2 1 8 = nI m := by rw [← c2]; unfold spM; rw [sM_k 1 (by decide), sM_k 1 (by decide), sM_k 1 (by decide), sM_k 1 (by decide), sM_k 1 (by decide)]
  have hzb : z ≤ 24 := by have := h.1.2.1; omega
  have src9 : ∀ j, M5 (cb + (9 + 3 * i)) j = U (9 + 3 * i) j := fun j => by rw [m5 (by omega), spU_k (by omega) (by omega) (by omega)]
  have hpo : pieceOK sd (nI s) p q z := by
    have := h.1.1
    refine ⟨g1, by omega, hzb, by omega, fun h5 => ⟨g5 h5, ?_⟩⟩
    have : SZ sd p ≤ 8 := by
      show szP (plS sd) p ≤ 8
      unfold szP
      rw [if_neg h5]
      split
      · omega
      · split <;> omega
    have := g5 h5
    omega
  refine wc_putFrag hL hrow hm c1 (z := z) (src := cb + (9 + 3 * i)) (L := 24) (by omega) s5 s6 (by omega) hzb (by decide) (v6 := nI (noP p)) (v7 := nI q) (fun M' hM' => by rw [hM' _ (by omega), m5 (by omega), v8 2 (by decide)]; exact g10) (fun M' hM' => by rw [hM' _ (by omega), m5 (by omega), v8 4 (by decide)]; exact g12) (fun M' hM' => by rw [hM' _ (by omega), m5 (by omega), v8 5 (by decide)]; exact g13) (fun hlt => ?_) (fun heq => ?_)
  · refine hK _ _ _ _ (fun Q' hq => wm_sendPiece hM hl.1 (by omega) h.2.2.1 hm mm2 hp7 ((h.v (a := 22) (by show i < 12; omega)).trans g6) ((h.v (a := 23) (by show i < 12; omega)).trans g7) g3 g4 ((h.v (a := 14) (by show epP p < 4; omega)).trans n2) ((stA1_v h rfl).trans x6) (by omega) h.1.2.1 (fun _ => hq) (fun x => absurd x (by omega))) ((hD'.mono (Nat.le_succ c) hb).putFrag hsd hlt c1 hpo (by omega) (fun j hj => by rw [src9]; exact g14 j hj)) (hfl.step hl.2.2.1 hi hb ha ff) (sp_nx hn ha) (sp_fr (by omega))
  · refine hK _ _ _ _ (fun Q' hq => wm_sendPiece hM hl.1 (by omega) h.2.2.1 hm mm2 hp7 ((h.v (a := 22) (by show i < 12; omega)).trans g6) ((h.v (a := 23) (by show i < 12; omega)).trans g7) g3 g4 ((h.v (a := 14) (by show epP p < 4; omega)).trans n2) ((stA1_v h rfl).trans x6) (by omega) h.1.2.1 (fun x => absurd x (by omega)) (fun _ => hq)) ((hD'.mono (Nat.le_succ c) hb).putLo hsd) (hfl.step hl.2.2.1 hi hb ha ff) (sp_nx hn ha) (sp_fr (by omega))
/-- all open pieces of both flights go out; LP: the reference's loop from its row i on -/
theorem send_both (hsd : isSd s cb nf w) (hL : LC sd T R) (hM : LM T2 R2) (h : NS sd mt k c s cb w U V U' V' hs dl R M M2) (hb : c + f ≤ 8208) (hU0 : U 0 0 = nI s) (hfl : flS sd mt c s nf b 0 f tm U V) (hn : nxtR c U V) {LP : (mM → Prop) → Nat → mM → Prop}
    (hgo : ∀ Q' i N N', i < f → N 21 s = nI f → N 24 (12 * s + i) = 1 → (∀ Q', Q' N' → w_Mo_sendPiece 34 T2 R2 N 1 (nI s) (nI i) Q') → LP Q' (i + 1) N' → LP Q' i N)
    (hsk : ∀ Q' i N, i < f → N 21 s = nI f → N 24 (12 * s + i) = 0 → V 24 i = 0 → LP Q' (i + 1) N → LP Q' i N) {K : mM → Prop}
    (hK : ∀ U1 V1 M' M2' tm', (∀ Q', LP Q' f M2' → LP Q' 0 M2) → NS sd mt k (c + f) s cb w U1 V1 U' V' hs dl R M' M2' → flS sd mt (c + f) s nf b f f tm' U1 V1 → nxtR (c + f) U1 V1 → frS nf U V U1 V1 → K M') : w_Side_sendOpenFragments 200 T R M cb K := by
  have hl := hsd.le
  have hS := hL.sid hsd
  obtain ⟨g0, ⟨g2, g3, -⟩, -, -, -, -, ⟨g61, g62, g71, g72⟩, g8, -⟩ := hS
  refine ⟨g0, f + 1, ?_⟩
  have lp : ∀ d i, i + d = f → ∀ U1 V1 M1 M3 tm1, (∀ Q', LP Q' i M3 → LP Q' 0 M2) → NS sd mt k (c + i) s cb w U1 V1 U' V' hs dl R M1 M3 → flS sd mt (c + i) s nf b i f tm1 U1 V1 → nxtR (c + i) U1 V1 → frS nf U V U1 V1 → w_Side_sendOpenFragments_L2 200 T R K cb (d + 1) (nI i) M1 := by
    intro d
    induction d with
    | zero =>
      intro i hi U1 V1 M1 M3 tm1 q1 q2 q3 q4 q5
      have : i = f := by omega
      subst this
      unfold w_Side_sendOpenFragments_L2
      have e61 : M1 (cb + 6) 1 = nI i := by rw [q2.u (by omega)]; exact q3.2.1
      rw [g3, e61]
      exact ⟨g61, fun _ => hK _ _ _ _ _ q1 q2 q3 q4 q5, fun x => absurd (nI_le (Nat.le_refl i) (by have := q3.1; omega)) x⟩
    | succ d ih =>
      intro i hi U1 V1 M1 M3 tm1 q1 q2 q3 q4 q5
      unfold w_Side_sendOpenFragments_L2
      have hfn := q3.1
      have e61 : M1 (cb + 6) 1 = nI f := by rw [q2.u (by omega)]; exact q3.2.1
      have e21 : M3 21 s = nI f := (stA1_v q2 rfl).trans q3.2.2.1
      have ⟨s1, s2, s3, s4, s5, s6, s7, s8⟩ := g8 i (by omega)
      rw [g3, e61, g62, nI_clamp (by omega), s1, g72, s3, g2]
      obtain ⟨p, q, z, sn, f1⟩ := q3.2.2.2.2.2.2.2 i (by omega)
      have o24 : V1 24 i = 0 ∨ V1 24 i = 1 := f1.2.2.2.2.2.2.2.1
      have e7 : M1 (cb + (8 + 3 * i)) 7 = V1 24 i := by rw [q2.u (by omega)]; exact f1.2.2.2.2.2.2.2.2.1
      have e24 : M3 24 (12 * s + i) = V1 24 i := q2.v (a := 24) (by show i < 12; omega)
      rw [e7]
      refine ⟨g61, fun x => absurd x (nI_ge (by omega) (by omega)), fun _ => ⟨g71, vp_in_nI (by omega) (by omega), s2, fun z0 v6 e6 => ?_, fun z0 => ?_⟩⟩
      · subst e6
        rw [nI_1]
        have v24 : V 24 i = 0 := by rw [← z0, q5.2 24 (by decide) (by decide)]
        exact ih (i + 1) (by omega) U1 V1 M1 M3 tm1 (fun Q' hq => q1 Q' (hsk Q' i M3 (by omega) e21 (by rw [e24]; exact z0) v24 hq)) (q2.mono (by omega) (by omega)) ((q3.skip).mono (by omega)) (q4.cg (by omega) rfl rfl) q5
      · have o1 : V1 24 i = 1 := o24.resolve_left z0
        refine piece_both hsd hL hM q2 (by omega) (by rw [q5.1 0 (by decide) (Or.inl (by decide))]; exact hU0) q3 q4 (by omega) (fun U2 V2 M' M2' r1 r2 r3 r4 r5 => ?_)
        intro v18 e18
        subst e18
        rw [nI_1]
        exact ih (i + 1) (by omega) U2 V2 M' M2' (tm1 + 1) (fun Q' hq => q1 Q' (hgo Q' i M3 M2' (by omega) e21 (by rw [e24]; exact o1) r1 hq)) r2 r3 r4 (q5.trans r5)
  exact lp f 0 (by omega) U V M M2 tm (fun _ hq => hq) h hfl hn frS.refl
end PB
