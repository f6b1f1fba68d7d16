/-! the constructors: the server, all of the class -/
section NZ
variable {sd : Int32} {mt n k : Nat} {T : mT} {R : mR} {M : mM}
theorem wc_serverI (hT : tI sd 152 T) (hR : R 152 = fun _ => 0) (hM : M 152 = fun _ => 0) {Q : Nat → mT → mR → mM → Prop} (hq : ∀ T' R' M', Stm sd mt 152 200 R M T' R' M' → Q 200 T' R' M') : w_Server_init 152 T R M 152 sd (nI mt) 2 Q := by
  have pl := plS_b sd
  have m0 : ∀ k, k = 192 ∨ k = 194 ∨ k = 196 ∨ k = 198 ∨ k = 200 → MC sd mt k = fun _ => 0 := fun k hk => by
    rcases hk with rfl | rfl | rfl | rfl | rfl <;> (funext j; rfl)
  have fr : ∀ i, i < 9 → isFr (152 + 6 + 2 + 3 * i) := fun i hi => Or.inr ⟨by omega, by omega, by omega⟩
  have tf : ∀ i, i < 9 → TC (plS sd) (152 + 6 + 2 + 3 * i) = (1, 0) := fun i hi => by
    rw [TC_pl sd _ (by omega) (by omega)]
    have z : ∀ i, i < 9 → TC 0 (152 + 6 + 2 + 3 * i) = (1, 0) := by decide +kernel
    exact z i hi
  refine ⟨hT.o (by decide) (Nat.le_refl _) rfl, ?_⟩
  refine wc_sideI (s := 1) (nf := 9) (tg := 9) (hi := 190) (mt := mt) (sd := sd) (by decide) (by decide) (by decide) (Or.inr rfl) rfl rfl rfl rfl rfl rfl rfl rfl tf (fun e he => ?_) rfl fr (by funext j; rfl) (by funext j; rfl) (fun j => ?_) (by funext j; rfl) (by funext j; rfl) (by funext j; rfl) (fun j => ?_) (fun e he => ?_) (fun i h1 h2 => MC_0 (by omega) (by omega) (by omega) (by omega)) (fun e he => ?_) hT hR hM (by decide) (fun T2 R3 M4 s1 s2 s3 s4 s5 => ?_)
  · rcases (show e = 0 ∨ e = 1 ∨ e = 2 ∨ e = 3 by omega) with rfl | rfl | rfl | rfl <;> rfl
  · show (if j < 4 then 187 + j else 0) = _
    rfl
  · show (if j < 9 then 160 + 3 * j else 0) = _
    rfl
  · rcases (show e = 0 ∨ e = 1 ∨ e = 2 ∨ e = 3 by omega) with rfl | rfl | rfl | rfl <;> (funext j; rfl)
  · rcases (show e = 0 ∨ e = 1 ∨ e = 2 ∨ e = 3 by omega) with rfl | rfl | rfl | rfl <;> (funext j; rfl)
  · intro T5 R6 M7 a5 a6 a7
    refine wc_msgI (lo := 191) (x := 0) (y := 0) (L := 4) (sd := sd) (mt := mt) (by decide) (by decide) rfl rfl (by funext j; rfl) (by funext j; rfl) (by funext j; rfl) (m0 192 (by decide)) (by rw [a5]; exact s1.s rfl) (by rw [a6, zR_e]) (by rw [a7, zM_e]) (fun T1 R1 M1 ⟨b1, b2, b3⟩ => ⟨b1.o (by decide) (by decide) rfl, b1.o (by decide) (by decide) rfl, fun R10 bc T15 R15 M15 bt br bm => ?_⟩)
    refine wc_msgI (lo := 193) (x := 1) (y := 0) (L := 4) (sd := sd) (mt := mt) (by decide) (by decide) rfl rfl (by funext j; rfl) (by funext j; rfl) (by funext j; rfl) (m0 194 (by decide)) (by rw [bt]; exact b1.s rfl) (by rw [br, zR_e]) (by rw [bm, zM_e]) (fun T2 R2 M2 ⟨d1, d2, d3⟩ => ⟨d1.o (by decide) (by decide) rfl, d1.o (by decide) (by decide) rfl, fun R20 dc T25 R25 M25 dt dr dm => ?_⟩)
    refine wc_msgI (lo := 195) (x := 2) (y := 2) (L := 6) (sd := sd) (mt := mt) (by decide) (by decide) rfl rfl (by funext j; rfl) (by funext j; rfl) (by funext j; rfl) (m0 196 (by decide)) (by rw [dt]; exact d1.s rfl) (by rw [dr, zR_e]) (by rw [dm, zM_e]) (fun T3 R3 M3 ⟨e1, e2, e3⟩ => ⟨e1.o (by decide) (by decide) rfl, e1.o (by decide) (by decide) rfl, fun R30 ec T35 R35 M35 et er em => ?_⟩)
    refine wc_msgI (lo := 197) (x := 4) (y := 2) (L := 4) (sd := sd) (mt := mt) (by decide) (by decide) rfl rfl (by funext j; rfl) (by funext j; rfl) (by funext j; rfl) (m0 198 (by decide)) (by rw [et]; exact e1.s rfl) (by rw [er, zR_e]) (by rw [em, zM_e]) (fun T4 R4 M4 ⟨f1, f2, f3⟩ => ⟨f1.o (by decide) (by decide) rfl, f1.o (by decide) (by decide) rfl, fun R40 fc => wr_mix (fun M41 f41 T45 R45 M45 ft fr' fm => ?_)⟩)
    unfold w_X_proofLength
    rw [pl_and]
    refine wc_msgI (lo := 199) (x := 3) (y := 2) (L := plS sd) (sd := sd) (mt := mt) (by decide) (by omega) rfl rfl (by funext j; rfl) (by funext j; rfl) (by funext j; rfl) (m0 200 (by decide)) (by rw [ft]; exact f1.s rfl) (by rw [fr', zR_e]) (by rw [fm, zM_e]) (fun T46 R47 M48 ⟨g1, g2, g3⟩ => ⟨g1.o (by decide) (by decide) rfl, g1.o (by decide) (by decide) rfl, fun R51 gc => hq T46 R51 M48 ⟨g1, fun k hk => ⟨?_, ?_⟩, fun k h1 h2 => ?_⟩⟩)
    · rw [gc, sRk (by omega), (g2 k (by omega)).1, fr', zR_k (by omega), fc, sRk (by omega), (f2 k (by omega)).1, er, zR_k (by omega), ec, sRk (by omega), (e2 k (by omega)).1, dr, zR_k (by omega), dc, sRk (by omega), (d2 k (by omega)).1, br, zR_k (by omega), bc, sRk (by omega), (b2 k (by omega)).1, a6, zR_k (by omega)]; exact (s2 k hk).1
    · rw [(g2 k (by omega)).2, fm, zM_k (by omega), f41, sM_k k (by omega), (f2 k (by omega)).2, em, zM_k (by omega), (e2 k (by omega)).2, dm, zM_k (by omega), (d2 k (by omega)).2, bm, zM_k (by omega), (b2 k (by omega)).2, a7, zM_k (by omega)]; exact (s2 k hk).2
    · rcases (show k = 152 ∨ (152 < k ∧ k ≤ 190) ∨ (191 ≤ k ∧ k ≤ 192) ∨ (193 ≤ k ∧ k ≤ 194) ∨ (195 ≤ k ∧ k ≤ 196) ∨ (197 ≤ k ∧ k ≤ 198) ∨ 199 ≤ k by omega) with rfl | y | y | y | y | y | y
      · constructor
        · funext j
          rw [gc, sR_t, (g2 152 (by decide)).1, fr', zR_k (by decide), fc, sR_t, (f2 152 (by decide)).1, er, zR_k (by decide), ec, sR_t, (e2 152 (by decide)).1, dr, zR_k (by decide), dc, sR_t, (d2 152 (by decide)).1, br, zR_k (by decide), bc, sR_t, (b2 152 (by decide)).1, a6, zR_k (by decide), s3]
          by_cases q18 : j = 18
          · subst q18; rfl
          · skip
            by_cases q19 : j = 19
            · subst q19; rfl
            · skip
              by_cases q17 : j = 17
              · subst q17; rfl
              · skip
                by_cases q16 : j = 16
                · subst q16; rfl
                · skip
                  by_cases q15 : j = 15
                  · subst q15; rfl
                  · skip
                    rw [if_neg q18, if_neg q19, if_neg q17, if_neg q16, if_neg q15]
                    rcases (show j = 2 ∨ j = 3 ∨ j = 4 ∨ j = 5 ∨ j = 6 ∨ j = 7 ∨ (j ≠ 2 ∧ j ≠ 3 ∧ j ≠ 4 ∧ j ≠ 5 ∧ j ≠ 6 ∧ j ≠ 7) by omega) with rfl | rfl | rfl | rfl | rfl | rfl | q
                    · rfl
                    · rfl
                    · rfl
                    · rfl
                    · rfl
                    · rfl
                    · unfold rs RC0
                      rw [if_neg q.1, if_neg q.2.1, if_neg q.2.2.1, if_neg q.2.2.2.1, if_neg q.2.2.2.2.1, if_neg q.2.2.2.2.2, if_neg (by decide), if_neg (by omega)]
                      unfold RC
                      show 0 = _
                      (repeat' split) <;> first | rfl | omega
        · funext j
          show _ = if j = 14 then sS sd else ms 1 (nI mt) j
          rw [(g2 152 (by decide)).2, fm, zM_k (by decide), f41, sM_t, (f2 152 (by decide)).2, em, zM_k (by decide), (e2 152 (by decide)).2, dm, zM_k (by decide), (d2 152 (by decide)).2, bm, zM_k (by decide), (b2 152 (by decide)).2, a7, zM_k (by decide), s4]
          rfl
      · have := s5 k y.1 y.2
        rw [gc, sRk (by omega), (g2 k (by omega)).1, fr', zR_k (by omega), fc, sRk (by omega), (f2 k (by omega)).1, er, zR_k (by omega), ec, sRk (by omega), (e2 k (by omega)).1, dr, zR_k (by omega), dc, sRk (by omega), (d2 k (by omega)).1, br, zR_k (by omega), bc, sRk (by omega), (b2 k (by omega)).1, a6, zR_k (by omega), (g2 k (by omega)).2, fm, zM_k (by omega), f41, sM_k k (by omega), (f2 k (by omega)).2, em, zM_k (by omega), (e2 k (by omega)).2, dm, zM_k (by omega), (d2 k (by omega)).2, bm, zM_k (by omega), (b2 k (by omega)).2, a7, zM_k (by omega)]
        exact this
      · have := b3 k y.1 y.2
        rw [gc, sRk (by omega), (g2 k (by omega)).1, fr', zR_k (by omega), fc, sRk (by omega), (f2 k (by omega)).1, er, zR_k (by omega), ec, sRk (by omega), (e2 k (by omega)).1, dr, zR_k (by omega), dc, sRk (by omega), (d2 k (by omega)).1, br, zR_k (by omega), bc, sRk (by omega), (g2 k (by omega)).2, fm, zM_k (by omega), f41, sM_k k (by omega), (f2 k (by omega)).2, em, zM_k (by omega), (e2 k (by omega)).2, dm, zM_k (by omega), (d2 k (by omega)).2, bm, zM_k (by omega)]
        exact this
      · have := d3 k y.1 y.2
        rw [gc, sRk (by omega), (g2 k (by omega)).1, fr', zR_k (by omega), fc, sRk (by omega), (f2 k (by omega)).1, er, zR_k (by omega), ec, sRk (by omega), (e2 k (by omega)).1, dr, zR_k (by omega), dc, sRk (by omega), (g2 k (by omega)).2, fm, zM_k (by omega), f41, sM_k k (by omega), (f2 k (by omega)).2, em, zM_k (by omega), (e2 k (by omega)).2, dm, zM_k (by omega)]
        exact this
      · have := e3 k y.1 y.2
        rw [gc, sRk (by omega), (g2 k (by omega)).1, fr', zR_k (by omega), fc, sRk (by omega), (f2 k (by omega)).1, er, zR_k (by omega), ec, sRk (by omega), (g2 k (by omega)).2, fm, zM_k (by omega), f41, sM_k k (by omega), (f2 k (by omega)).2, em, zM_k (by omega)]
        exact this
      · have := f3 k y.1 y.2
        rw [gc, sRk (by omega), (g2 k (by omega)).1, fr', zR_k (by omega), fc, sRk (by omega), (g2 k (by omega)).2, fm, zM_k (by omega), f41, sM_k k (by omega)]
        exact this
      · have := g3 k y h2
        rw [gc, sRk (by omega)]
        exact this
/-- the class's memory, new -/
theorem wc_newI (hT : tI sd 1 T) (hR : R 1 = fun _ => 0) (hM : M 1 = fun _ => 0) {u2 : Int32} (hmt : jmax (8 : Int32) (jmin (24 : Int32) u2) = nI mt) {Q : Nat → mT → mR → mM → Prop} (hq : ∀ T' R' M', tI sd 200 T' → (∀ k, 1 ≤ k → k ≤ 200 → R' k = RC0 k) → (∀ k, 2 ≤ k → k ≤ 200 → M' k = MC sd mt k) → Q 200 T' R' M') : w_X_init 1 T R M 1 sd u2 Q := by
  refine ⟨hT.o (by decide) (Nat.le_refl _) rfl, fun v1 e1 T2 R3 M4 a2 a3 a4 => ?_⟩
  rw [hmt] at e1
  subst e1
  refine wc_netI (sd := sd) (mt := mt) (by rw [a2]; exact hT.s rfl) (by rw [a3, zR_e]) (by rw [a4, zM_e]) (fun T7 R8 M9 ⟨s1, s2, s3⟩ => ⟨s1.o (by decide) (by decide) rfl, s1.o (by decide) (by decide) rfl, fun R12 b12 T13 R14 M15 b13 b14 b15 => ?_⟩)
  have r14 : R14 1 0 = 2 := by rw [b14, zR_k (by decide), b12, sR_t, if_pos rfl]
  have hT13 : tI sd 128 T13 := by rw [b13]; exact s1.s rfl
  rw [r14]
  refine ⟨hT13.o (by decide) (by decide) rfl, ?_⟩
  refine wc_clientI (sd := sd) (mt := mt) hT13 (by rw [b14, zR_e]) (by rw [b15, zM_e]) (fun T19 R20 M21 ⟨c1, c2, c3⟩ => ⟨c1.o (by decide) (by decide) rfl, c1.o (by decide) (by decide) rfl, fun R24 d24 T25 R26 M27 d25 d26 d27 => ?_⟩)
  have r26 : R26 1 0 = 2 := by rw [d26, zR_k (by decide), d24, sR_t, if_neg (by decide), (c2 1 (by decide)).1]; exact r14
  have hT25 : tI sd 152 T25 := by rw [d25]; exact c1.s rfl
  rw [r26]
  refine ⟨hT25.o (by decide) (by decide) rfl, ?_⟩
  refine wc_serverI (sd := sd) (mt := mt) hT25 (by rw [d26, zR_e]) (by rw [d27, zM_e]) (fun T31 R32 M33 ⟨f1, f2, f3⟩ => ⟨f1.o (by decide) (by decide) rfl, f1.o (by decide) (by decide) rfl, fun R36 g36 => hq T31 R36 M33 f1 (fun k h1 h2 => ?_) (fun k h1 h2 => ?_)⟩)
  · rcases (show k = 1 ∨ (2 ≤ k ∧ k ≤ 127) ∨ (128 ≤ k ∧ k ≤ 151) ∨ 152 ≤ k by omega) with rfl | y | y | y
    · funext j
      rw [g36, sR_t, (f2 1 (by decide)).1, d26, zR_k (by decide), d24, sR_t, (c2 1 (by decide)).1, b14, zR_k (by decide), b12, sR_t, (s2 1 (by decide)).1, a3, zR_k (by decide), hR]
      show _ = if j = 0 then 2 else if j = 1 then 128 else if j = 2 then 152 else 0
      (repeat' split) <;> first | rfl | omega
    · rw [g36, sRk (by omega), (f2 k (by omega)).1, d26, zR_k (by omega), d24, sRk (by omega), (c2 k (by omega)).1, b14, zR_k (by omega), b12, sRk (by omega)]; exact (s3 k y.1 y.2).1
    · rw [g36, sRk (by omega), (f2 k (by omega)).1, d26, zR_k (by omega), d24, sRk (by omega)]; exact (c3 k y.1 y.2).1
    · rw [g36, sRk (by omega)]; exact (f3 k y h2).1
  · rcases (show k ≤ 127 ∨ (128 ≤ k ∧ k ≤ 151) ∨ 152 ≤ k by omega) with y | y | y
    · rw [(f2 k (by omega)).2, d27, zM_k (by omega), (c2 k (by omega)).2, b15, zM_k (by omega)]; exact (s3 k h1 y).2
    · rw [(f2 k (by omega)).2, d27, zM_k (by omega)]; exact (c3 k y.1 y.2).2
    · exact (f3 k y h2).2
end NZ
