/-! the HELLO AGAIN at the server -/
theorem sM_sM {M : mM} {a j : Nat} {x y : Int32} : sM (sM M a j x) a j y = sM M a j y := by
  funext b i
  rw [sMt, sMt, sMt]
  by_cases q : b = a ∧ i = j
  · rw [if_pos q, if_pos q]
  · rw [if_neg q, if_neg q, if_neg q]
theorem tdP_congr {ct ct' : Nat → Nat → Int32} {sz : Nat → Nat} : ∀ {n : Nat}, (∀ p, p < n → ∀ i, ct p i = ct' p i) → tdP ct sz n = tdP ct' sz n := by
  intro n
  induction n with
  | zero => intro _; rfl
  | succ n ih =>
    intro h
    show tel (ct n) (tdP ct sz n) (sz n) = tel (ct' n) (tdP ct' sz n) (sz n)
    rw [ih (fun p hp => h p (by omega))]
    exact tel_congr (fun i _ => h n (by omega) i)
theorem ctP6 {r s ck sD cD sD' cD' : Int32} {p i : Nat} (hp : p < 6) : ctP r s ck sD cD p i = ctP r s ck sD' cD' p i := by
  rcases (show p = 0 ∨ p = 1 ∨ p = 2 ∨ p = 3 ∨ p = 4 ∨ p = 5 by omega) with rfl | rfl | rfl | rfl | rfl | rfl <;> rfl
theorem ctP7 {r s ck sD cD cD' : Int32} {p i : Nat} (hp : p < 7) : ctP r s ck sD cD p i = ctP r s ck sD cD' p i := by
  rcases (show p = 0 ∨ p = 1 ∨ p = 2 ∨ p = 3 ∨ p = 4 ∨ p = 5 ∨ p = 6 by omega) with rfl | rfl | rfl | rfl | rfl | rfl | rfl <;> rfl
theorem td6 {r s ck sD cD sD' cD' : Int32} {sz : Nat → Nat} : tdP (ctP r s ck sD cD) sz 6 = tdP (ctP r s ck sD' cD') sz 6 := tdP_congr (fun p hp i => ctP6 hp)
theorem td7 {r s ck sD cD cD' : Int32} {sz : Nat → Nat} : tdP (ctP r s ck sD cD) sz 7 = tdP (ctP r s ck sD cD') sz 7 := tdP_congr (fun p hp i => ctP7 hp)
theorem mix_TD6 (sd : Int32) : mixI (TD sd 6) 2 = sDS sd := congrArg (fun y => mixI y 2) (td6 (r := rS sd) (s := sS sd) (ck := ckS sd) (sD := sDS sd) (cD := cDS sd) (sD' := 0) (cD' := 0) (sz := SZ sd))
theorem mix_TD7 (sd : Int32) : mixI (TD sd 7) 1 = cDS sd := congrArg (fun y => mixI y 1) (td7 (r := rS sd) (s := sS sd) (ck := ckS sd) (sD := sDS sd) (cD := cDS sd) (cD' := 0) (sz := SZ sd))
section HA
variable {sd : Int32} {mt k c c' m i n x t : Nat} {U V U' V' : mM} {hs : Nat → Int32} {dl : Int32} {T T2 : mT} {R R2 : mR} {M M2 : mM}
theorem wc_first3 (hL : LC sd T R) {r : Nat} (hr : isRec r) (h10 : M 152 10 = 0) (hld : ∀ j, j < 8 → M (r + 1) j = CT sd 2 j) {K : mM → Prop} (hK : K (sM M 152 10 (TD sd 3))) : w_Server_addFirstThreeToTranscript 200 T R M 152 r K := by
  obtain ⟨b1, b2, b3, b4⟩ := hL.rec hr
  have hr2 := hr.2.2
  have hLS := (hL.sid sd1).1
  have ld : ∀ (y : Int32) (j : Nat), j < 8 → sM M 152 10 y (r + 1) j = CT sd 2 j := fun y j hj => by rw [sM_k _ (by omega)]; exact hld j hj
  refine ⟨hL.o_152, b1, ?_⟩
  rw [b2]
  refine ⟨b3, ?_⟩
  have step1 := wc_addBytes (T := T) (R := R) (M := M) (cb := 152) hLS b3 b4 (a := 0) (n := 4) (by decide) (by decide) (by omega) (f := CT sd 0) (fun j hj => by
    rw [Nat.zero_add, hld j (by omega)]
    show (if j < 4 then _ else _) = if j < 4 then _ else _
    rw [if_pos hj, if_pos hj]) (Q := fun M3 => (∃ N12, w_Server_addFirstThreeToTranscript_L12 200 T R K 152 r N12 (0 : Int32) M3)) ?_
  · exact step1
  · rw [h10]
    refine ⟨5, ?_⟩
    have fin : w_Server_addFirstThreeToTranscript_L12 200 T R K 152 r 1 4 (sM M 152 10 (TD sd 1)) := by
      unfold w_Server_addFirstThreeToTranscript_L12
      rw [b2]
      refine ⟨fun _ => ⟨b3, ?_⟩, fun y => absurd (by decide) y⟩
      have step2 := wc_addBytes (T := T) (R := R) (M := sM M 152 10 (TD sd 1)) (cb := 152) hLS b3 b4 (a := 4) (n := 4) (by decide) (by decide) (by omega) (f := CT sd 1) (fun j hj => by
        rw [ld _ _ (by omega)]
        show (if 4 + j < 4 then _ else byI (ckS sd) (nI (4 + j - 4))) = byI (ckS sd) (nI j)
        rw [if_neg (by omega), show 4 + j - 4 = j by omega]) (Q := fun M7 => w_Side_addBytesToTranscript 200 T R M7 152 (r + 1) (0 : Int32) (8 : Int32) (fun M8 => K M8)) ?_
      · exact step2
      · rw [sM_e, sM_sM, show tel (CT sd 1) (TD sd 1) 4 = TD sd 2 from rfl]
        have step3 := wc_addBytes (T := T) (R := R) (M := sM M 152 10 (TD sd 2)) (cb := 152) hLS b3 b4 (a := 0) (n := 8) (by decide) (by decide) (by omega) (f := CT sd 2) (fun j hj => by rw [Nat.zero_add, ld _ _ (by omega)]) (Q := fun M8 => K M8) ?_
        · exact step3
        · rw [sM_e, sM_sM, show tel (CT sd 2) (TD sd 2) 8 = TD sd 3 from rfl]; exact hK
    have lp : ∀ d i, i + d = 4 → w_Server_addFirstThreeToTranscript_L12 200 T R K 152 r (d + 1) (nI i) (sM M 152 10 (tel (CT sd 0) 0 (4 + i))) := by
      intro d
      induction d with
      | zero =>
        intro i hi
        have : i = 4 := by omega
        subst this
        exact fin
      | succ d ih =>
        intro i hi
        unfold w_Server_addFirstThreeToTranscript_L12
        refine ⟨fun y => absurd y (nI_ge (b := 4) (by omega) (by decide)), fun _ M9 e9 v10 e10 => ?_⟩
        rw [sM_e, sM_sM] at e9
        have z : tel (CT sd 0) 0 (4 + i) * 31 + 1 = tel (CT sd 0) 0 (4 + (i + 1)) := by
          show _ = (tel (CT sd 0) 0 (4 + i) * 31 + CT sd 0 (4 + i)) + 1
          have : CT sd 0 (4 + i) = 0 := by
            show (if 4 + i < 4 then _ else _) = _
            rw [if_neg (by omega)]
          rw [this, Int32.add_zero]
        rw [z] at e9
        rw [e10, nI_1, e9]
        exact ih (i + 1) (by omega)
    exact lp 4 0 (by omega)
theorem again_act (hL : LC sd T R) (hM : LM T2 R2) (h : NS sd mt k c 1 152 49 U V U' V' hs dl R M M2) (hS : SideRel sd mt c 1 9 k U V) (z1 : U 0 14 = sS sd) (z2 : (U 39 0 = 0 ∧ U 39 1 = 0) ∧ (U 41 0 = 1 ∧ U 41 1 = 0) ∧ (U 43 0 = 2 ∧ U 43 1 = 2) ∧ (U 47 0 = 3 ∧ U 47 1 = 2) ∧ (U 45 0 = 4 ∧ U 45 1 = 2)) (hc : c + 9 ≤ c') (hb : c' ≤ 8208) {r : Nat} (hr : isRec r) (r5 : M r 5 = nI n) (hn : n ≤ c) (hld : ∀ j, j < 8 → M (r + 1) j = CT sd 2 j) (u9 : U 0 9 = 0) {K : mM → Prop}
    (hK : ∀ M' M2', (∀ Q' : mM → Prop, Q' M2' → (ok T2 34 14 100 ∧ vp_in (4 : Int32) 8 ∧ ∀ M6 : mM, M6 = sM M2 14 4 (nI n) → ok T2 34 13 100 ∧ vp_in (1 : Int32) 2 ∧ ∀ M9 : mM, M9 = sM M6 13 1 (7 : Int32) → w_Mo_become 34 T2 R2 M9 1 (1 : Int32) (1 : Int32) (fun M10 => w_Mo_fly 34 T2 R2 M10 1 (1 : Int32) (3 : Int32) (6 : Int32) (fun M11 => Q' M11)))) → FinR sd mt k c' 1 152 9 49 U' V' hs dl R M' M2' → K M') : w_Server_takeHelloAgain 200 T R M 152 r K := by
  have hmt := h.1
  have hLS := hL.sid sd1
  obtain ⟨b1, b2, b3, b4⟩ := hL.rec hr
  have hr2 := hr.2.2
  have ⟨a1, ⟨x, t, t1, t2, t3, t4, t5, t6, t7⟩, a3, a4, a5, a6, a7, a8⟩ := hS
  have hx0 : x = 0 ∧ t = 0 := by
    have hx5 : x ≤ 5 := by unfold stOK at t1; split at t1 <;> omega
    have : x = 0 := (nI_eq (b := 0) (by omega) (by decide)).mp (t2.symm.trans u9)
    unfold stOK at t1
    rw [if_neg (by decide)] at t1
    omega
  obtain ⟨rfl, rfl⟩ := hx0
  have v1s : vp_in (1 : Int32) 2 := vp_in_nI (n := 1) (by decide) (by decide)
  have pl := plS_b sd
  have e10 : M 152 10 = 0 := (h.u0 sd1).trans t5
  have e9 : M 152 9 = 0 := (h.u0 sd1).trans u9
  refine ⟨hL.o_152, ?_⟩
  rw [e9, hL.r_152_6, hL.l_156]
  refine ⟨fun _ => wc_first3 hL hr e10 hld ⟨hL.o_156, b1, vp_in_nI (n := 0) (by decide) (by decide), fun A1 f1 A2 f2 A3 f3 => ?_⟩, fun y => absurd rfl y⟩
  have r5' : sM M 152 10 (TD sd 3) r 5 = nI n := by rw [sM_k r (by omega)]; exact r5
  rw [r5'] at f1
  have h1 := (((h.upd0 sd1 (j := 10) (x := TD sd 3)).setU sd1 (i := 4) (j := 0) (x := nI n) (by decide)).upd0 sd1 (j := 11) (x := 2)).upd0 sd1 (j := 12) (x := 2)
  have f3' : A3 = sM (sM (sM (sM M 152 10 (TD sd 3)) (152 + 4) 0 (nI n)) 152 11 2) 152 12 2 := by rw [f3, f2, f1]
  rw [← f3'] at h1
  have ldA : ∀ j, j < 4 → A3 (r + 1) j = byI (rS sd) (nI j) := fun j hj => by
    rw [f3', sM_k _ (by omega), sM_k _ (by omega), sM_k _ (by omega), sM_k _ (by omega), hld j (by omega)]
    show (if j < 4 then _ else _) = _
    rw [if_pos hj]
  generalize hUa : sM (sM (sM (sM U 0 10 (TD sd 3)) 4 0 (nI n)) 0 11 2) 0 12 2 = Ua at h1
  have ua : ∀ i, i ≠ 0 → i ≠ 4 → Ua i = U i := fun i y0 y4 => by rw [← hUa, sM_k i y0, sM_k i y0, sM_k i y4, sM_k i y0]
  have ua0 : ∀ j, j ≠ 10 → j ≠ 11 → j ≠ 12 → Ua 0 j = U 0 j := fun j y1 y2 y3 => by rw [← hUa, sM_j j y3, sM_j j y2, sM_k 0 (by decide), sM_j j y1]
  have ua10 : Ua 0 10 = TD sd 3 := by rw [← hUa]; rfl
  have ua11 : Ua 0 11 = 2 := by rw [← hUa]; rfl
  have ua12 : Ua 0 12 = 2 := by rw [← hUa]; rfl
  have ua4 : ∀ j, Ua 4 j = if j = 0 then nI n else U 4 j := fun j => by
    rw [← hUa, sM_k 4 (by decide), sM_k 4 (by decide), sMt]
    by_cases y : j = 0
    · rw [if_pos ⟨rfl, y⟩, if_pos y]
    · rw [if_neg (by omega), if_neg y, sM_k 4 (by decide)]
  clear hUa f1 f2 f3
  refine wc_readInt hL hr ldA ⟨hL.o_152, ?_⟩
  -- the four messages
  have e14 : A3 152 14 = sS sd := by rw [h1.u0 sd1, ua0 14 (by decide) (by decide) (by decide)]; exact z1
  rw [hL.r_152_16, hL.r_152_17, hL.r_152_18, hL.r_152_19, hL.r_152_3, e14]
  refine ⟨hL.o_193, wr_mix (wc_writeInt (st := 0) hL.o_193 hL.r_193_2 hL.o_194 hL.l_194 (by decide) (by decide) ⟨hL.o_195, wc_writeMixes hL.o_195 hL.r_195_2 hL.o_196 hL.l_196 (by decide) ⟨hL.o_199, ?_⟩⟩)⟩
  have h2 := (h1.ldU sd1 (i := 41) (st := 0) (z := 4) (F := fun i => byI (mixI (sS sd + 1) (rS sd)) (nI i)) (by decide)).ldU sd1 (i := 43) (st := 0) (z := 6) (F := fun i => mixI (rS sd) (nI i) &&& 255) (by decide)
  have h2' : NS sd mt k c 1 152 49 (ldO (ldO Ua 41 0 4 (fun i => byI (mixI (sS sd + 1) (rS sd)) (nI i))) 43 0 6 (fun i => mixI (rS sd) (nI i) &&& 255)) V U' V' hs dl R (ldO (ldO A3 193 0 4 (fun i => byI (mixI (sS sd + 1) (rS sd)) (nI i))) 195 0 6 (fun i => mixI (rS sd) (nI i) &&& 255)) M2 := h2
  clear h2
  generalize ldO (ldO A3 193 0 4 (fun i => byI (mixI (sS sd + 1) (rS sd)) (nI i))) 195 0 6 (fun i => mixI (rS sd) (nI i) &&& 255) = A5 at h2' ⊢
  generalize hUc : ldO (ldO Ua 41 0 4 (fun i => byI (mixI (sS sd + 1) (rS sd)) (nI i))) 43 0 6 (fun i => mixI (rS sd) (nI i) &&& 255) = Uc at h2'
  have uc : ∀ i, i ≠ 42 → i ≠ 44 → Uc i = Ua i := fun i y1 y2 => by rw [← hUc, ldO_out y2, ldO_out y1]
  have uc42 : ∀ j, j < 4 → Uc 42 j = CT sd 3 j := fun j hj => by
    rw [← hUc, ldO_out (by decide)]
    exact ldO_in (h := 41) (Nat.zero_le j) (by omega)
  have uc44 : ∀ j, j < 6 → Uc 44 j = CT sd 4 j := fun j hj => by
    rw [← hUc]
    exact ldO_in (h := 43) (Nat.zero_le j) (by omega)
  clear hUc
  have e14' : A5 152 14 = sS sd := by rw [h2'.u0 sd1, uc 0 (by decide) (by decide), ua0 14 (by decide) (by decide) (by decide)]; exact z1
  rw [e14']
  refine wc_writeMixes hL.o_199 hL.r_199_2 hL.o_200 hL.l_200 (by omega) ?_
  have h3 := h2'.ldU sd1 (i := 47) (st := 0) (z := plS sd) (F := fun i => mixI (sS sd + 2) (nI i) &&& 255) (by decide)
  have h3' : NS sd mt k c 1 152 49 (ldO Uc 47 0 (plS sd) (fun i => mixI (sS sd + 2) (nI i) &&& 255)) V U' V' hs dl R (ldO A5 199 0 (plS sd) (fun i => mixI (sS sd + 2) (nI i) &&& 255)) M2 := h3
  clear h3
  generalize ldO A5 199 0 (plS sd) (fun i => mixI (sS sd + 2) (nI i) &&& 255) = A7 at h3' ⊢
  generalize hUd : ldO Uc 47 0 (plS sd) (fun i => mixI (sS sd + 2) (nI i) &&& 255) = Ud at h3'
  have ud : ∀ i, i ≠ 48 → Ud i = Uc i := fun i y1 => by rw [← hUd, ldO_out y1]
  have ud48 : ∀ j, j < plS sd → Ud 48 j = CT sd 5 j := fun j hj => by
    rw [← hUd]
    exact ldO_in (h := 47) (Nat.zero_le j) (by omega)
  clear hUd
  have mU : ∀ {N : mM} {X : mM} {i' j : Nat}, NS sd mt k c 1 152 49 X V U' V' hs dl R N M2 → i' < 49 → N (152 + i') j = X i' j := fun hN hi' => hN.u hi'
  -- their bytes go into the transcript
  refine wc_addTo hLS.1 hL.o_193 hL.r_193_2 hL.o_194 hL.l_194 (by decide) (by decide) (f := CT sd 3) (fun i hi => ?_) ?_
  · have : A7 (152 + 42) i = Ud 42 i := mU h3' (by decide)
    rw [ud 42 (by decide)] at this
    exact this.trans (uc42 i hi)
  have p10 : A7 152 10 = TD sd 3 := by rw [h3'.u0 sd1, ud 0 (by decide), uc 0 (by decide) (by decide)]; exact ua10
  rw [p10, show tel (CT sd 3) (TD sd 3) 4 = TD sd 4 from rfl]
  refine wc_addTo hLS.1 hL.o_195 hL.r_195_2 hL.o_196 hL.l_196 (by decide) (by decide) (f := CT sd 4) (fun i hi => ?_) ?_
  · have : A7 (152 + 44) i = Ud 44 i := mU h3' (by decide)
    rw [ud 44 (by decide)] at this
    rw [sM_k _ (by decide)]
    exact this.trans (uc44 i hi)
  rw [sM_e, sM_sM, show tel (CT sd 4) (TD sd 4) 6 = TD sd 5 from rfl]
  refine wc_addTo hLS.1 hL.o_199 hL.r_199_2 hL.o_200 hL.l_200 (by omega) (by decide) (f := CT sd 5) (fun i hi => ?_) ⟨hL.o_197, ?_⟩
  · have : A7 (152 + 48) i = Ud 48 i := mU h3' (by decide)
    rw [sM_k _ (by decide)]
    exact this.trans (ud48 i hi)
  rw [sM_e, sM_sM, show tel (CT sd 5) (TD sd 5) (plS sd) = TD sd 6 from rfl, sM_e]
  refine wr_mix ?_
  rw [mix_TD6]
  refine wc_writeInt (st := 0) hL.o_197 hL.r_197_2 hL.o_198 hL.l_198 (by decide) (by decide) ?_
  have h4 := (h3'.upd0 sd1 (j := 10) (x := TD sd 6)).ldU sd1 (i := 45) (st := 0) (z := 4) (F := fun i => byI (sDS sd) (nI i)) (by decide)
  have h4' : NS sd mt k c 1 152 49 (ldO (sM Ud 0 10 (TD sd 6)) 45 0 4 (fun i => byI (sDS sd) (nI i))) V U' V' hs dl R (ldO (sM A7 152 10 (TD sd 6)) 197 0 4 (fun i => byI (sDS sd) (nI i))) M2 := h4
  clear h4
  generalize ldO (sM A7 152 10 (TD sd 6)) 197 0 4 (fun i => byI (sDS sd) (nI i)) = A13 at h4' ⊢
  generalize hUe : ldO (sM Ud 0 10 (TD sd 6)) 45 0 4 (fun i => byI (sDS sd) (nI i)) = Ue at h4'
  have ue : ∀ i, i ≠ 0 → i ≠ 46 → Ue i = Ud i := fun i y0 y1 => by rw [← hUe, ldO_out y1, sM_k i y0]
  have ue0 : ∀ j, j ≠ 10 → Ue 0 j = Ud 0 j := fun j y => by rw [← hUe, ldO_out (by decide), sM_j j y]
  have ue10 : Ue 0 10 = TD sd 6 := by rw [← hUe, ldO_out (by decide), sM_e]
  have ue46 : ∀ j, j < 4 → Ue 46 j = CT sd 6 j := fun j hj => by
    rw [← hUe]
    exact ldO_in (h := 45) (Nat.zero_le j) (by omega)
  clear hUe
  refine wc_addTo hLS.1 hL.o_197 hL.r_197_2 hL.o_198 hL.l_198 (by decide) (by decide) (f := CT sd 6) (fun i hi => ?_) ⟨hL.o_158, hL.o_158, fun B1 g1 B2 g2 B3 g3 B4 g4 => ?_⟩
  · have : A13 (152 + 46) i = Ue 46 i := h4'.u (by decide)
    exact this.trans (ue46 i hi)
  have q10 : A13 152 10 = TD sd 6 := by rw [h4'.u0 sd1]; exact ue10
  rw [q10, show tel (CT sd 6) (TD sd 6) 4 = TD sd 7 from rfl] at g1
  -- the flight begins, on both sides
  have h5 := (((((h4'.upd0 sd1 (j := 10) (x := TD sd 7)).setU sd1 (i := 6) (j := 1) (x := 0) (by decide)).setU sd1 (i := 6) (j := 2) (x := 4) (by decide)).setU sd1 (i := 6) (j := 3) (x := 4) (by decide)).setU sd1 (i := 6) (j := 4) (x := 0) (by decide))
  have g4' : B4 = sM (sM (sM (sM (sM A13 152 10 (TD sd 7)) (152 + 6) 1 0) (152 + 6) 2 4) (152 + 6) 3 4) (152 + 6) 4 0 := by rw [g4, g3, g2, g1]
  rw [← g4'] at h5
  have h6 := (((((h5.setV sd1 (a := 14) (j := 0) (x := nI n) (by decide)).setV1 sd1 (a := 13) (x := 7) rfl).setV1 sd1 (a := 12) (x := 1) rfl).setV1 sd1 (a := 20) (x := -1) rfl).setV1 sd1 (a := 21) (x := 0) rfl).setV1 sd1 (a := 25) (x := 0) rfl
  generalize hUf : sM (sM (sM (sM (sM Ue 0 10 (TD sd 7)) 6 1 0) 6 2 4) 6 3 4) 6 4 0 = Uf at h6
  have hm2 : sM (sM (sM (sM (sM (sM M2 14 (stA 14 * 1 + 0) (nI n)) 13 1 7) 12 1 1) 20 1 (-1)) 21 1 0) 25 1 0 = sM (sM (sM (sM (sM (sM M2 14 4 (nI n)) 13 1 7) 12 1 1) 20 1 (-1)) 21 1 0) 25 1 0 := rfl
  rw [hm2] at h6
  generalize hVf : sM (sM (sM (sM (sM (sM V 14 0 (nI n)) 13 0 7) 12 0 1) 20 0 (-1)) 21 0 0) 25 0 0 = Vf at h6
  have uf : ∀ i, i ≠ 0 → i ≠ 6 → Uf i = Ue i := fun i y0 y6 => by rw [← hUf, sM_k i y6, sM_k i y6, sM_k i y6, sM_k i y6, sM_k i y0]
  have uf0 : ∀ j, j ≠ 10 → Uf 0 j = Ue 0 j := fun j y => by rw [← hUf, sM_k 0 (by decide), sM_k 0 (by decide), sM_k 0 (by decide), sM_k 0 (by decide), sM_j j y]
  have uf10 : Uf 0 10 = TD sd 7 := by rw [← hUf]; rfl
  have uf6 : Uf 6 1 = 0 ∧ Uf 6 2 = 4 ∧ Uf 6 3 = 4 ∧ Uf 6 4 = 0 := by rw [← hUf]; exact ⟨rfl, rfl, rfl, rfl⟩
  have vf : ∀ a, a ≠ 12 → a ≠ 13 → a ≠ 14 → a ≠ 20 → a ≠ 21 → a ≠ 25 → Vf a = V a := fun a y1 y2 y3 y4 y5 y6 => by rw [← hVf, sM_k a y6, sM_k a y5, sM_k a y4, sM_k a y1, sM_k a y2, sM_k a y3]
  have vf' : Vf 12 0 = 1 ∧ Vf 13 0 = 7 ∧ Vf 20 0 = -1 ∧ Vf 21 0 = 0 ∧ Vf 25 0 = 0 := by rw [← hVf]; exact ⟨rfl, rfl, rfl, rfl, rfl⟩
  have vf14 : ∀ j, Vf 14 j = if j = 0 then nI n else V 14 j := fun j => by
    rw [← hVf, sM_k 14 (by decide), sM_k 14 (by decide), sM_k 14 (by decide), sM_k 14 (by decide), sM_k 14 (by decide), sMt]
    by_cases y : j = 0
    · rw [if_pos ⟨rfl, y⟩, if_pos y]
    · rw [if_neg (by omega), if_neg y]
  clear hUf hVf hm2 h5
  have full : ∀ i, i ≠ 0 → i ≠ 4 → i ≠ 6 → i ≠ 42 → i ≠ 44 → i ≠ 46 → i ≠ 48 → Uf i = U i := fun i y0 y4 y6 y42 y44 y46 y48 => by rw [uf i y0 y6, ue i y0 y46, ud i y48, uc i y42 y44, ua i y0 y4]
  have full0 : ∀ j, j ≠ 10 → j ≠ 11 → j ≠ 12 → Uf 0 j = U 0 j := fun j y1 y2 y3 => by rw [uf0 j y1, ue0 j y1, ud 0 (by decide), uc 0 (by decide) (by decide), ua0 j y1 y2 y3]
  have f11 : Uf 0 11 = 2 := by rw [uf0 11 (by decide), ue0 11 (by decide), ud 0 (by decide), uc 0 (by decide) (by decide)]; exact ua11
  have f12 : Uf 0 12 = 2 := by rw [uf0 12 (by decide), ue0 12 (by decide), ud 0 (by decide), uc 0 (by decide) (by decide)]; exact ua12
  have f4 : ∀ j, Uf 4 j = if j = 0 then nI n else U 4 j := fun j => by rw [uf 4 (by decide) (by decide), ue 4 (by decide) (by decide), ud 4 (by decide), uc 4 (by decide) (by decide)]; exact ua4 j
  have hnx : nxtR c Uf Vf := fun e he' => by
    rw [f4, vf14]
    by_cases y : e = 0
    · rw [if_pos y, if_pos y]; exact ⟨n, hn, rfl, rfl⟩
    · rw [if_neg y, if_neg y]; exact a3 e he'
  obtain ⟨z39, z41, z43, z47, z45⟩ := z2
  have g3' : msgR sd T R 152 41 3 Uf := ⟨⟨hL.o_193, hL.r_193_2, hL.o_194, hL.l_194⟩, by rw [full 41 (by decide) (by decide) (by decide) (by decide) (by decide) (by decide) (by decide)]; exact z41.1, by rw [full 41 (by decide) (by decide) (by decide) (by decide) (by decide) (by decide) (by decide)]; exact z41.2, fun i hi => by rw [uf 42 (by decide) (by decide), ue 42 (by decide) (by decide), ud 42 (by decide)]; exact uc42 i hi⟩
  have g4'' : msgR sd T R 152 43 4 Uf := ⟨⟨hL.o_195, hL.r_195_2, hL.o_196, hL.l_196⟩, by rw [full 43 (by decide) (by decide) (by decide) (by decide) (by decide) (by decide) (by decide)]; exact z43.1, by rw [full 43 (by decide) (by decide) (by decide) (by decide) (by decide) (by decide) (by decide)]; exact z43.2, fun i hi => by rw [uf 44 (by decide) (by decide), ue 44 (by decide) (by decide), ud 44 (by decide)]; exact uc44 i hi⟩
  have g5' : msgR sd T R 152 47 5 Uf := ⟨⟨hL.o_199, hL.r_199_2, hL.o_200, hL.l_200⟩, by rw [full 47 (by decide) (by decide) (by decide) (by decide) (by decide) (by decide) (by decide)]; exact z47.1, by rw [full 47 (by decide) (by decide) (by decide) (by decide) (by decide) (by decide) (by decide)]; exact z47.2, fun i hi => by rw [uf 48 (by decide) (by decide), ue 48 (by decide) (by decide)]; exact ud48 i hi⟩
  have g6' : msgR sd T R 152 45 6 Uf := ⟨⟨hL.o_197, hL.r_197_2, hL.o_198, hL.l_198⟩, by rw [full 45 (by decide) (by decide) (by decide) (by decide) (by decide) (by decide) (by decide)]; exact z45.1, by rw [full 45 (by decide) (by decide) (by decide) (by decide) (by decide) (by decide) (by decide)]; exact z45.2, fun i hi => by rw [uf 46 (by decide) (by decide)]; exact ue46 i hi⟩
  have mtA : ∀ {N X : mM} {Y : mM} {N2 : mM}, NS sd mt k c 1 152 49 X Y U' V' hs dl R N N2 → X 0 = Uf 0 → N 152 1 = nI mt := fun hN hX => by rw [hN.u0 sd1, hX, full0 1 (by decide) (by decide) (by decide)]; exact a1.2
  obtain ⟨s0, s1, s2, s3, s4, s5, s6, s7⟩ := SZ_v sd
  show w_Flight_add 200 T R B4 158 193 (B4 152 1) (fun M17 => w_Flight_add 200 T R M17 158 195 (M17 152 1) (fun M18 => w_Flight_add 200 T R M18 158 199 (M18 152 1) (fun M19 => w_Flight_add 200 T R M19 158 197 (M19 152 1) (fun M20 => w_Side_sendOpenFragments 200 T R M20 152 (fun M10 => w_Side_enter 200 T R M10 152 1 (fun M11 => K M11))))))
  rw [mtA h6 rfl]
  refine add_both (p := 3) (f := 0) (n := 1) (mi := 41) sd1 hL hM h6 ⟨Or.inr ⟨rfl, Or.inr ⟨by decide, by decide⟩⟩, by decide⟩ (fun _ => rfl) (by omega) (fun i hi => by rw [show i = 0 by omega]; omega) (by decide) (by decide) (by decide) g3' (flS0 uf6.1 vf'.2.2.2.1 vf'.2.2.2.2) (fun j hj => absurd hj (Nat.not_lt_zero j)) (fun U3 V3 M3 N3 p1 p2 p3 p4 p5 => ?_)
  rw [mtA p2 (p5.1 0 (by decide) (Or.inl (by decide)))]
  refine add_both (p := 4) (f := 0 + 1) (n := 1) (mi := 43) sd1 hL hM p2 ⟨Or.inr ⟨rfl, Or.inr ⟨by decide, by decide⟩⟩, by decide⟩ (fun _ => rfl) (by omega) (fun i hi => by rw [show i = 0 by omega]; omega) (by decide) (by decide) (by decide) (g4''.fr p5 (by decide)) p3 p4 (fun U4 V4 M4 N4 o1 o2 o3 o4 o5 => ?_)
  have fr4 := p5.trans o5
  rw [mtA o2 (fr4.1 0 (by decide) (Or.inl (by decide)))]
  -- how many pieces the proof has
  obtain ⟨np, np1, np2, np3⟩ : ∃ np : Nat, np ≤ 6 ∧ plS sd ≤ mt * np ∧ ∀ i, i < np → mt * i < plS sd := by
    refine ⟨(plS sd + mt - 1) / mt, ?_, ?_, fun i hi => ?_⟩
    · rw [Nat.div_le_iff_le_mul_add_pred (by omega)]
      have : 8 * 6 ≤ mt * 6 := Nat.mul_le_mul hmt.1 (Nat.le_refl 6)
      omega
    · have := Nat.lt_mul_div_succ (plS sd + mt - 1) (show 0 < mt by omega)
      rw [Nat.mul_succ] at this
      omega
    · have := Nat.mul_le_of_le_div mt i.succ (plS sd + mt - 1) hi
      rw [Nat.succ_mul, Nat.mul_comm] at this
      omega
  refine add_both (p := 5) (f := 0 + 1 + 1) (n := np) (mi := 47) sd1 hL hM o2 ⟨Or.inr ⟨rfl, Or.inr ⟨by decide, by decide⟩⟩, by decide⟩ (fun y => absurd rfl y) (by rw [s5]; exact np2) (fun i hi => by rw [s5]; exact np3 i hi) (by omega) (by decide) (by decide) (g5'.fr fr4 (by decide)) o3 o4 (fun U5 V5 M5 N5 w1 w2 w3 w4 w5 => ?_)
  have fr5 := fr4.trans w5
  rw [mtA w2 (fr5.1 0 (by decide) (Or.inl (by decide)))]
  refine add_both (p := 6) (f := 0 + 1 + 1 + np) (n := 1) (mi := 45) sd1 hL hM w2 ⟨Or.inr ⟨rfl, Or.inr ⟨by decide, by decide⟩⟩, by decide⟩ (fun _ => rfl) (by omega) (fun i hi => by rw [show i = 0 by omega]; omega) (by omega) (by decide) (by decide) (g6'.fr fr5 (by decide)) w3 w4 (fun U6 V6 M6 N6 y1 y2 y3 y4 y5 => ?_)
  have fr6 := fr5.trans y5
  have f60 : U6 0 = Uf 0 := fr6.1 0 (by decide) (Or.inl (by decide))
  refine fly_send (f := 0 + 1 + 1 + np + 1) sd1 hL hM y2 (by omega) (by rw [f60, full0 0 (by decide) (by decide) (by decide)]; exact a1.1) (by rw [fr6.2.1 2 (by decide)]; exact uf6.2.1) (by rw [fr6.2.1 3 (by decide)]; exact uf6.2.2.1) (by rw [fr6.2.1 4 (by decide)]; exact uf6.2.2.2) y3 y4 (hnx.cg (Nat.le_refl _) (fr6.1 4 (by decide) (Or.inl (by decide))) (fr6.2.2 14 (by decide))) (fun U7 V7 M7 N7 x1 x2 x3 x4 x5 x6 => ⟨hLS.1, fun C1 c1 C2 c2 => hK C2 N7 (fun Q' hq => ?_) ?_⟩)
  · refine ⟨hM.o_14, vp_in_nI (n := 4) (by decide) (by decide), fun D6 d6 => ⟨hM.o_13, v1s, fun D9 d9 => ⟨hM.ok1, ?_⟩⟩⟩
    simp only [hM.r_11, hM.r_12, hM.r_13, hM.r_14, hM.r_15, hM.r_16, hM.r_17, hM.r_18, hM.r_19, hM.r_20, hM.r_21, hM.r_22, hM.r_23, hM.r_24, hM.r_25, hM.r_26, hM.r_27, hM.r_28, hM.r_29, hM.r_30, hM.r_31, hM.r_32, hM.r_33, hM.r_34, hM.r_35, hM.r_36, hM.r_37, hM.r_38, hM.r_39, hM.r_40, hM.r_41, hM.r_42, hM.r_43, hM.l_2, hM.l_3, hM.l_4, hM.l_5, hM.l_6, hM.l_7, hM.l_8, hM.l_9, hM.l_10, hM.l_11, hM.l_12, hM.l_13, hM.l_14, hM.l_15, hM.l_16, hM.l_17, hM.l_18, hM.l_19, hM.l_20, hM.l_21, hM.l_22, hM.l_23, hM.l_24, hM.l_25, hM.l_26, hM.l_27, hM.l_28, hM.l_29, hM.l_30, hM.l_31, hM.l_32, hM.l_33, hM.l_34]
    refine ⟨hM.o_12, v1s, fun D3 d3 => ⟨hM.o_20, v1s, fun D10 d10 => ⟨hM.ok1, ?_⟩⟩⟩
    simp only [hM.r_11, hM.r_12, hM.r_13, hM.r_14, hM.r_15, hM.r_16, hM.r_17, hM.r_18, hM.r_19, hM.r_20, hM.r_21, hM.r_22, hM.r_23, hM.r_24, hM.r_25, hM.r_26, hM.r_27, hM.r_28, hM.r_29, hM.r_30, hM.r_31, hM.r_32, hM.r_33, hM.r_34, hM.r_35, hM.r_36, hM.r_37, hM.r_38, hM.r_39, hM.r_40, hM.r_41, hM.r_42, hM.r_43, hM.l_2, hM.l_3, hM.l_4, hM.l_5, hM.l_6, hM.l_7, hM.l_8, hM.l_9, hM.l_10, hM.l_11, hM.l_12, hM.l_13, hM.l_14, hM.l_15, hM.l_16, hM.l_17, hM.l_18, hM.l_19, hM.l_20, hM.l_21, hM.l_22, hM.l_23, hM.l_24, hM.l_25, hM.l_26, hM.l_27, hM.l_28, hM.l_29, hM.l_30, hM.l_31, hM.l_32, hM.l_33, hM.l_34]
    refine ⟨hM.o_21, v1s, fun D11 d11 => ⟨hM.o_25, v1s, fun D12 d12 => ⟨5, ?_⟩⟩⟩
    have d12' : D12 = sM (sM (sM (sM (sM (sM M2 14 4 (nI n)) 13 1 7) 12 1 1) 20 1 (-1)) 21 1 0) 25 1 0 := by rw [d12, d11, d10, d3, d9, d6]; rfl
    rw [d12']
    have st : ∀ (F p : Nat) (N N' : mM), p ≤ 6 → (∀ (Q : mM → Prop) (K17 : Nat → Int32 → Int32 → Int32 → mM → Prop) (a3 : Int32), K17 1 (nI 1) a3 (nI (p + 1)) N' → ∃ N26, w_Mo_fly_L26 34 T2 R2 Q K17 1 (nI 1) a3 (nI p) N26 0 N) → w_Mo_fly_L17 34 T2 R2 Q' 1 1 6 F (nI (p + 1)) N' → w_Mo_fly_L17 34 T2 R2 Q' 1 1 6 (F + 1) (nI p) N := by
      intro F p N N' hp6 hrun hnext
      unfold w_Mo_fly_L17
      exact ⟨fun y => absurd y (nI_nlt (b := p) (a := 6) hp6 (by decide)), fun _ => hrun Q' _ _ hnext⟩
    refine st 4 3 _ _ (by decide) p1 (st 3 4 _ _ (by decide) o1 (st 2 5 _ _ (by decide) w1 (st 1 6 _ _ (by decide) y1 ?_)))
    unfold w_Mo_fly_L17
    exact ⟨fun _ => x1 Q' hq, fun y => absurd (by decide) y⟩
  · have hF := (x2.upd0 sd1 (j := 9) (x := 1)).upd0 sd1 (j := 13) (x := 0)
    rw [← c1, ← c2] at hF
    have w0 : ∀ j, j ≠ 9 → j ≠ 13 → sM (sM U7 0 9 1) 0 13 0 0 j = U7 0 j := fun j k1 k2 => by rw [sM_j j k2, sM_j j k1]
    have w1' : ∀ i, i ≠ 0 → sM (sM U7 0 9 1) 0 13 0 i = U7 i := fun i k1 => by rw [sM_k i k1, sM_k i k1]
    have w9 : sM (sM U7 0 9 1) 0 13 0 0 9 = 1 := by rw [sM_j 9 (by decide), sM_e]
    have w13 : sM (sM U7 0 9 1) 0 13 0 0 13 = 0 := sM_e
    generalize sM (sM U7 0 9 1) 0 13 0 = U8 at hF w0 w1' w9 w13
    have h70 : U7 0 = Uf 0 := by rw [x5 0 (by decide) (Or.inl (by decide)), f60]
    have h7 : ∀ i, i ≠ 0 → i ≠ 4 → i ≠ 6 → i ≠ 42 → i ≠ 44 → i ≠ 46 → i ≠ 48 → i < 8 ∨ 35 ≤ i → U8 i = U i := fun i k0 k4 k6 k42 k44 k46 k48 k8 => by rw [w1' i k0, x5 i k4 k8, fr6.1 i k6 k8, full i k0 k4 k6 k42 k44 k46 k48]
    have h80 : ∀ j, j ≠ 9 → j ≠ 10 → j ≠ 11 → j ≠ 12 → j ≠ 13 → U8 0 j = U 0 j := fun j k9 k10 k11 k12 k13 => by rw [w0 j k9 k13, h70, full0 j k10 k11 k12]
    have hv7 : ∀ a, a ≠ 12 → a ≠ 13 → a ≠ 14 → a ≠ 20 → a < 21 ∨ 31 < a → V7 a = V a := fun a k1 k2 k3 k4 k5 => by rw [x6 a k3 (by omega), fr6.2.2 a (by omega), vf a k1 k2 k3 k4 (by omega) (by omega)]
    have hv7' : ∀ a, a = 12 ∨ a = 13 ∨ a = 20 → V7 a = Vf a := fun a k1 => by rw [x6 a (by omega) (by omega), fr6.2.2 a (by omega)]
    refine hF.fin (hS.re (by omega) (fun j hj => h80 j (by omega) (by omega) (by omega) (by omega) (by omega)) (h7 1 (by decide) (by decide) (by decide) (by decide) (by decide) (by decide) (by decide) (by decide)) (h7 2 (by decide) (by decide) (by decide) (by decide) (by decide) (by decide) (by decide) (by decide)) (h7 5 (by decide) (by decide) (by decide) (by decide) (by decide) (by decide) (by decide) (by decide)) (fun e he => h7 _ (by omega) (by omega) (by omega) (by omega) (by omega) (by omega) (by omega) (by omega)) (fun a ha => hv7 a (by omega) (by omega) (by omega) (by omega) (by omega)) ⟨1, 7, ?_, w9, by rw [hv7' 12 (by decide)]; exact vf'.1, by rw [hv7' 13 (by decide)]; exact vf'.2.1, ?_, ?_, ?_⟩ (x4.cg (Nat.le_refl _) (w1' 4 (by decide)) rfl) (Or.inl ⟨w13, by rw [hv7' 20 (by decide)]; exact vf'.2.2.1⟩) (x3.cg (Nat.le_refl _) (w1' 6 (by decide)) (fun i k1 k2 => w1' i (by omega)) (fun _ _ _ => rfl))) ?_ (by omega) hb
    · unfold stOK; rw [if_neg (by decide)]; omega
    · rw [w0 10 (by decide) (by decide), h70]; exact uf10
    · rw [w0 11 (by decide) (by decide), h70]; exact f11
    · rw [w0 12 (by decide) (by decide), h70]; exact f12
    · show srvR sd U8
      unfold srvR
      rw [h80 14 (by decide) (by decide) (by decide) (by decide) (by decide), h7 39 (by decide) (by decide) (by decide) (by decide) (by decide) (by decide) (by decide) (by decide), h7 41 (by decide) (by decide) (by decide) (by decide) (by decide) (by decide) (by decide) (by decide), h7 43 (by decide) (by decide) (by decide) (by decide) (by decide) (by decide) (by decide) (by decide), h7 45 (by decide) (by decide) (by decide) (by decide) (by decide) (by decide) (by decide) (by decide), h7 47 (by decide) (by decide) (by decide) (by decide) (by decide) (by decide) (by decide) (by decide), w9, w13]
      exact ⟨z1, z39, z41, z43, z47, z45, rfl, fun y => absurd y (by decide), fun y => absurd y (by decide)⟩
end HA
