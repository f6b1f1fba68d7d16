/-! an ACK, delivered, by both; the reference's road once the record is dropped -/
section AD
variable {sd : Int32} {mt k c c' s cb nf w m i n e f : Nat} {U V U' V' : mM} {hs : Nat → Int32} {dl : Int32} {T T2 : mT} {R R2 : mR} {M M2 : mM} {P P' : Nat → Prop}
theorem clN_congr (h : ∀ q, q < f → (P q ↔ P' q)) : clN M s f P = clN M s f P' := by
  refine clN_eq (fun q h1 h2 => clN_yes h1 ((h q h1).mpr h2)) (fun a j y => ?_)
  unfold clN
  exact if_neg (fun ⟨y1, q, h1, h2, h3⟩ => y ⟨y1, q, h1, h2, (h q h1).mp h3⟩)
theorem clM_cg {M' : mM} {a : Nat} (h : M' a = M a) : clM M' cb f P a = clM M cb f P a := by
  funext j; unfold clM; rw [h]
theorem clN_cg {M' : mM} {a : Nat} (h : M' a = M a) : clN M' s f P a = clN M s f P a := by
  funext j; unfold clN; rw [h]
theorem wm_163k (hM : LM T2 R2) (hm : m ≤ 60) (hi : i < m) (e2 : M2 1 8 = nI m) (hsp : ∀ j, j < m → M2 6 j = 0 ∨ M2 6 j = 1) {a2 a3 a4 a5 a6 a7 a8 : Int32} {Q : Int32 → mM → Prop} (hq : w_Mo_let 34 T2 R2 (drM M2 i m) 1 a2 a3 a4 (fun M39 => ((a5 = 0 → w_Mo_takeFragment 34 T2 R2 M39 1 a2 a6 a7 a8 a3 a4 (fun M40 => (w_Mo_deliver_B230 34 T2 R2 Q 1 a2 a5 a6 M40))) ∧ (¬ a5 = 0 → (w_Mo_deliver_B230 34 T2 R2 Q 1 a2 a5 a6 M39))))) : w_Mo_deliver_B163 34 T2 R2 Q 1 (nI i) a2 a3 a4 a5 a6 a7 a8 1 0 M2 := by
  refine ⟨hM.ok1, isrec_w hm hM e2 (fun hno => absurd ⟨i, hi, rfl⟩ hno) (fun i' _ _ => ⟨fun q => absurd q (by decide), fun _ => wm_dropL hM hm hi e2 hsp ⟨fun _ => ⟨fun y => absurd y (by decide), fun _ => hq⟩, fun y => absurd rfl y⟩⟩)⟩
theorem wm_163z (hM : LM T2 R2) (hm : m ≤ 60) (hi : i < m) (e2 : M2 1 8 = nI m) (hsp : ∀ j, j < m → M2 6 j = 0 ∨ M2 6 j = 1) {a2 a3 a4 a5 a6 a7 a8 : Int32} {Q : Int32 → mM → Prop} (h0 : a5 = 0 → w_Mo_welcome 34 T2 R2 (drM M2 i m) 1 a6 a4 (fun r36 M37 => ((r36 = 0 → Q (0 : Int32) M37) ∧ (¬ r36 = 0 → Q (1 : Int32) M37)))) (h1 : ¬ a5 = 0 → Q 0 (drM M2 i m)) : w_Mo_deliver_B163 34 T2 R2 Q 1 (nI i) a2 a3 a4 a5 a6 a7 a8 0 0 M2 := by
  refine ⟨hM.ok1, isrec_w hm hM e2 (fun hno => absurd ⟨i, hi, rfl⟩ hno) (fun i' _ _ => ⟨fun q => absurd q (by decide), fun _ => wm_dropL hM hm hi e2 hsp ⟨fun _ => ⟨fun _ => ⟨h0, h1⟩, fun y => absurd rfl y⟩, fun y => absurd rfl y⟩⟩)⟩
theorem wm_163t (hM : LM T2 R2) (hm : m ≤ 60) (hi : i < m) (e2 : M2 1 8 = nI m) (hsp : ∀ j, j < m → M2 6 j = 0 ∨ M2 6 j = 1) {a2 a3 a4 a5 a6 a7 a8 a9 : Int32} {Q : Int32 → mM → Prop} (hq : Q 0 (drM M2 i m)) : w_Mo_deliver_B163 34 T2 R2 Q 1 (nI i) a2 a3 a4 a5 a6 a7 a8 a9 1 M2 := by
  refine ⟨hM.ok1, isrec_w hm hM e2 (fun hno => absurd ⟨i, hi, rfl⟩ hno) (fun i' _ _ => ⟨fun q => absurd q (by decide), fun _ => wm_dropL hM hm hi e2 hsp ⟨fun y => absurd y (by decide), fun _ => hq⟩⟩)⟩
theorem ack_act (hsd : isSd s cb nf w) (hL : LC sd T R) (hM : LM T2 R2) (h : NS sd mt k c s cb w U V U' V' hs dl R M M2) (hS : SideRel sd mt c s nf k U V) (hex : extR sd s U V hs) (hx0 : s = 1 → U 0 9 ≠ 0) (hc : c ≤ c') (hb : c' ≤ 8208) (hm : m ≤ 60) (hi : i < m) (e1 : M 2 3 = nI m) (e2 : M2 1 8 = nI m) (hsp : ∀ j, j < m → M2 6 j = 0 ∨ M2 6 j = 1) (hrow : rowsOK R) {z : Nat} (hz : z ≤ 8) (v7 : M2 7 i = nI z) (r1 : M (R 3 i) 1 = nI z) (hnm : ∀ j, j < z → nameR c (M2 11 (8 * i + j)) (M2 10 (8 * i + j)) (M (R 3 i + 1) j)) (he : e < 4) {sn' G' : Int32} (l2 : ∀ (M2 : mM) (Q : mM → Prop), M2 15 (4 * s + e) = V 15 e → Q (sM (sM M2 15 (4 * s + e) G') 16 (64 * s + (16 * e + n % 16)) (nI n)) → w_Mo_let 34 T2 R2 M2 1 (nI s) (nI e) (nI n) Q) (l3 : winsR c nf (sM (sM U (8 + 3 * nf + e) 1 sn') (8 + 3 * nf + e) 0 G') (sM (sM V 15 e G') 16 (16 * e + n % 16) (nI n))) {N : mM} (hN : N = sM (sM (sM M 2 3 (nI (m - 1))) (cb + (8 + 3 * nf + e)) 1 sn') (cb + (8 + 3 * nf + e)) 0 G') {K : mM → Prop}
    (hK : ∀ M' M2', (∀ (Q' : Int32 → mM → Prop) (a6 a7 a8 : Int32), Q' 1 M2' → w_Mo_close 34 T2 R2 M2 1 (nI s) (nI i) (fun M51 => w_Mo_deliver_B163 34 T2 R2 Q' 1 (nI i) (nI s) (nI e) (nI n) 1 a6 a7 a8 1 0 M51)) → FinR sd mt k c' s cb nf w U' V' hs dl (tkR R i m) M' M2' → K M') :
    (s = 0 → w_Client_takeAck 200 T (tkR R i m) N cb (R 3 i) K) ∧ (s = 1 → w_Side_closeNamed 200 T (tkR R i m) N cb (R 3 i) K) := by
  have hl := hsd.le
  have hc8 := h.1.2.2.2
  have hL' : LC sd T (tkR R i m) := hL.rows (fun k j a b => tkR_o a b)
  have hLS := hL'.sid hsd
  obtain ⟨hr, hr6⟩ := hrow.1 i (by omega)
  have hr2 := hr.2.2
  have hr3 := hr.2.1
  generalize R 3 i = r at *
  obtain ⟨f, tm, sn, f1, f2, f3, f4, f5⟩ := fl_open hS.2.2.2.2.2.2.2 hl.2.2.1
  have ⟨x, t, t1, t2, t3, t4, t5, t6, t7⟩ := hS.2.1
  have hx5 : x ≤ 5 := by unfold stOK at t1; split at t1 <;> omega
  -- the cells that it reads
  have nu : ∀ a j, a ≠ 8 + 3 * nf + e → a < w → N (cb + a) j = U a j := fun a j y1 y2 => by
    rw [hN, sM_k _ (by omega), sM_k _ (by omega), sM_k _ (by omega)]; exact h.u y2
  have nr : ∀ a, a = r ∨ a = r + 1 → N a = M a := fun a y => by
    rw [hN, sM_k _ (by omega), sM_k _ (by omega), sM_k _ (by omega)]
  have v28 : ∀ t, t < 80 → M2 28 (80 * s + t) = V 28 t := fun t ht => h.v (a := 28) (j := t) ht
  have v26 : ∀ t, t < 80 → M2 26 (80 * s + t) = V 26 t := fun t ht => h.v (a := 26) (j := t) ht
  have v27 : ∀ t, t < 80 → M2 27 (80 * s + t) = V 27 t := fun t ht => h.v (a := 27) (j := t) ht
  have e21 : M2 21 s = nI f := (stA1_v h rfl).trans f3
  have e25 : ∀ y : Int32, V 25 0 = y → M2 25 s = y := fun y q => (stA1_v h rfl).trans q
  have e12 : M2 12 s = nI x := (stA1_v h rfl).trans t3
  -- what is closed, once for both
  generalize hP : (fun j => ∃ x, x < z ∧ ∃ i, i < sn j ∧ U (10 + 3 * j) i = M (r + 1) x) = P
  have pc : ∀ j, j < f → ((∃ x, x < z ∧ ∃ i, i < sn j ∧ N (cb + (10 + 3 * j)) i = N (r + 1) x) ↔ P j) := fun j hj => by
    rw [← hP, nr (r + 1) (Or.inr rfl)]
    constructor
    · rintro ⟨x, q1, i, q2, q3⟩
      exact ⟨x, q1, i, q2, by rw [← nu (10 + 3 * j) i (by omega) (by omega)]; exact q3⟩
    · rintro ⟨x, q1, i, q2, q3⟩
      exact ⟨x, q1, i, q2, by rw [nu (10 + 3 * j) i (by omega) (by omega)]; exact q3⟩
  have pm : ∀ j, j < f → ((∃ x, x < z ∧ ∃ t, t < tm ∧ M2 28 (80 * s + t) = nI j ∧ M2 26 (80 * s + t) = M2 10 (8 * i + x) ∧ M2 27 (80 * s + t) = M2 11 (8 * i + x)) ↔ P j) := fun j hj => by
    have h80 := (f4 (by omega)).1
    have := hit_eq (U := U) (V := V) (sn := sn) (nN := fun j => M2 11 (8 * i + j)) (nE := fun j => M2 10 (8 * i + j)) (ld := M (r + 1)) hc8 hz hnm (j := j) (f5 j hj).2.2.2.2
    rw [← hP]
    refine Iff.trans ?_ this.symm
    constructor
    · rintro ⟨x, q1, t, q2, q3, q4, q5⟩
      exact ⟨x, q1, t, q2, by rw [← v28 t (by omega)]; exact q3, by rw [← v26 t (by omega)]; exact q4, by rw [← v27 t (by omega)]; exact q5⟩
    · rintro ⟨x, q1, t, q2, q3, q4, q5⟩
      exact ⟨x, q1, t, q2, by rw [v28 t (by omega)]; exact q3, by rw [v26 t (by omega)]; exact q4, by rw [v27 t (by omega)]; exact q5⟩
  -- the reference
  have mo : ∀ {Q : mM → Prop}, clT T2 R2 Q s (clN M2 s f P) → w_Mo_close 34 T2 R2 M2 1 (nI s) (nI i) Q := fun {Q} hq => by
    refine wm_close hM hl.1 (by omega) (tm := tm) (by omega) hz v7 e21 (fun h0 => ⟨(f4 h0).1, e25 _ (f4 h0).2.1, fun t ht => ?_⟩) ?_
    · obtain ⟨j, j1, j2⟩ := (f4 h0).2.2 t ht
      have h80 := (f4 h0).1
      exact ⟨j, j1, by rw [v28 t (by omega)]; exact j2⟩
    · rw [clN_congr pm]; exact hq
  -- the class
  have cl : ∀ {Q : mM → Prop}, Q (clM N cb f P) → w_Side_closeNamed 200 T (tkR R i m) N cb r Q := fun {Q} hq => by
    refine wc_closeNamed hLS hL' f1 ((nu 6 1 (by omega) (by omega)).trans f2) (sn := sn) (fun j hj => ⟨(f5 j hj).1, (nu (8 + 3 * j) 6 (by omega) (by omega)).trans (f5 j hj).2.1⟩) hr hz (by rw [nr r (Or.inl rfl)]; exact r1) ?_
    rw [clM_congr pc]; exact hq
  have hA := h.clV hsd (P := P) (f := f) (by omega)
  -- from the reference's memory after the closing (and what follows it) on
  have B : ∀ (V1 N2 : mM), NS sd mt k c s cb w U V1 U' V' hs dl R M N2 → N2 1 8 = nI m → (∀ j, j < m → N2 6 j = 0 ∨ N2 6 j = 1) → V1 15 = V 15 → ∃ N3 : mM, (∀ (Q' : Int32 → mM → Prop) (a6 a7 a8 : Int32), Q' 1 N3 → w_Mo_deliver_B163 34 T2 R2 Q' 1 (nI i) (nI s) (nI e) (nI n) 1 a6 a7 a8 1 0 N2) ∧ NS sd mt k c s cb w (clM (sM (sM U (8 + 3 * nf + e) 1 sn') (8 + 3 * nf + e) 0 G') 0 f P) (sM (sM V1 15 e G') 16 (16 * e + n % 16) (nI n)) U' V' hs dl (tkR R i m) (clM N cb f P) N3 := by
    intro V1 N2 hV k1 k2 k3
    have hD := hV.drop hsd hm hi e1
    have e15 : drM N2 i m 15 (4 * s + e) = V 15 e := by
      have := hD.v (a := 15) (j := e) (by show e < 4; exact he)
      rw [k3] at this; exact this
    have hE := ((((hD.setU hsd (i := 8 + 3 * nf + e) (j := 1) (x := sn') (by omega)).setU hsd (i := 8 + 3 * nf + e) (j := 0) (x := G') (by omega)).setV hsd (a := 15) (j := e) (x := G') (by show e < 4; exact he)).setV hsd (a := 16) (j := 16 * e + n % 16) (x := nI n) (by show 16 * e + n % 16 < 64; omega)).clU hsd (P := P) f1
    refine ⟨sM (sM (drM N2 i m) 15 (4 * s + e) G') 16 (64 * s + (16 * e + n % 16)) (nI n), fun Q' a6 a7 a8 hq => wm_163k hM hm hi k1 k2 (l2 _ _ e15 ⟨fun y => absurd y (by decide), fun _ => ?_⟩), ?_⟩
    · unfold w_Mo_deliver_B230
      exact ⟨fun y => absurd y (by decide), fun _ => hq⟩
    · rw [hN]; exact hE
  have k1 : clN M2 s f P 1 8 = nI m := by rw [clN_a (by decide)]; exact e2
  have k2 : ∀ j, j < m → clN M2 s f P 6 j = 0 ∨ clN M2 s f P 6 j = 1 := fun j hj => by rw [clN_a (by decide)]; exact hsp j hj
  -- the relation after the closing
  generalize hUl : sM (sM U (8 + 3 * nf + e) 1 sn') (8 + 3 * nf + e) 0 G' = Ul at *
  have ul : ∀ i, i ≠ 8 + 3 * nf + e → Ul i = U i := fun i y => by rw [← hUl, sM_k i y, sM_k i y]
  have uc : ∀ i, i < 8 → clM Ul 0 f P i = U i := fun i y => by rw [clM_a (fun q _ => by omega), ul i (by omega)]
  have hflc : flR sd mt c s nf k (clM U 0 f P) (clN V 0 f P) := hS.2.2.2.2.2.2.2.close f2 (by omega) hl.2.2.1
  have rel : ∀ (U1 V1 : mM), (∀ i, i ≠ 0 → U1 i = clM Ul 0 f P i) → (∀ j, j ≠ 9 → j ≠ 13 → U1 0 j = U 0 j) → (∀ a, a ≠ 12 → a ≠ 20 → V1 a = sM (sM (clN V 0 f P) 15 e G') 16 (16 * e + n % 16) (nI n) a) → thrR sd s U1 V1 → ackR k U1 V1 → SideRel sd mt c s nf k U1 V1 := by
    intro U1 V1 y1 y0 yv yt ya
    have va : ∀ a, a ≠ 12 → a ≠ 15 → a ≠ 16 → a ≠ 20 → a ≠ 24 → V1 a = V a := fun a q1 q2 q3 q4 q5 => by rw [yv a q1 q4, sM_k a q3, sM_k a q2, clN_a q5]
    have v15 : V1 15 = sM (sM V 15 e G') 16 (16 * e + n % 16) (nI n) 15 := by
      rw [yv 15 (by decide) (by decide)]
      funext j
      simp only [sMt]
      rw [clN_a (by decide)]
    have v16 : V1 16 = sM (sM V 15 e G') 16 (16 * e + n % 16) (nI n) 16 := by
      rw [yv 16 (by decide) (by decide)]
      funext j
      simp only [sMt]
      rw [clN_a (by decide)]
    have ⟨a1, a2, a3, a4, a5, a6, a7, a8⟩ := hS
    have uu : ∀ i, i ≠ 0 → i < 8 → U1 i = U i := fun i q1 q2 => by rw [y1 i q1, uc i q2]
    exact ⟨by rw [y0 0 (by decide) (by decide), y0 1 (by decide) (by decide)]; exact a1, yt, a3.cg (Nat.le_refl _) (uu 4 (by decide) (by decide)) (va 14 (by decide) (by decide) (by decide) (by decide) (by decide)), a4.cg (y0 8 (by decide) (by decide)) (uu 5 (by decide) (by decide)) (va 33 (by decide) (by decide) (by decide) (by decide) (by decide)) (va 34 (by decide) (by decide) (by decide) (by decide) (by decide)), a5.cg (Nat.le_refl _) (by rw [uu 1 (by decide) (by decide)]) (uu 2 (by decide) (by decide)) (va 17 (by decide) (by decide) (by decide) (by decide) (by decide)) (va 18 (by decide) (by decide) (by decide) (by decide) (by decide)) (va 19 (by decide) (by decide) (by decide) (by decide) (by decide)), ya, l3.cg (Nat.le_refl _) (fun e' _ => by rw [y1 _ (by omega), clM_a (fun q _ => by omega)]) v15 v16, hflc.cg (Nat.le_refl _) (by rw [y1 6 (by decide)]; exact clM_cg (ul 6 (by omega))) (fun i q1 q2 => by rw [y1 i (by omega)]; exact clM_cg (ul i (by omega))) (fun a q1 q2 => by rw [yv a (by omega) (by omega), sM_k a (by omega), sM_k a (by omega)])⟩
  have ext : ∀ (U1 V1 : mM), (∀ i, i ≠ 0 → U1 i = clM Ul 0 f P i) → U1 0 14 = U 0 14 → V1 13 = V 13 → (s = 1 → U1 0 = U 0) → extR sd s U1 V1 hs := by
    intro U1 V1 y1 y14 yv ys
    have hle : extR sd s Ul (sM (sM V 15 e G') 16 (16 * e + n % 16) (nI n)) hs := by rw [← hUl]; exact hex.letd hsd he hx0
    refine hle.fr hsd (by rw [y14, ul 0 (by omega)]) (fun i q => by rw [y1 i (by omega), clM_a (fun q' _ => by omega)]) (by rw [yv, sM_k 13 (by decide), sM_k 13 (by decide)]) (fun q => ?_) (fun q => ?_)
    · rw [y1 35 (by decide), clM_a (fun q' hq' => by rcases hsd with ⟨q1, q2, q3, q4⟩ | ⟨q1, q2, q3, q4⟩ <;> omega)]
    · refine ⟨?_, Or.inl ⟨by rw [ys q, ul 0 (by omega)], by rw [y1 6 (by decide), clM_a (fun q' _ => by omega)]⟩⟩
      rw [ys q]
      have : srvR sd U := by
        unfold extR at hex
        rw [if_neg (by omega)] at hex
        exact hex
      exact this.2.2.2.2.2.2.1
  -- nothing more happens
  have plain : ∀ (_ : ∀ Q : mM → Prop, Q (clN M2 s f P) → clT T2 R2 Q s (clN M2 s f P)), K (clM N cb f P) := by
    intro hT
    obtain ⟨N3, b1, b2⟩ := B _ _ hA k1 k2 (clN_a (by decide))
    refine hK _ N3 (fun Q' a6 a7 a8 hq => mo (hT _ (b1 Q' a6 a7 a8 hq))) (b2.fin (rel _ _ (fun _ _ => rfl) (fun j _ _ => by rw [uc 0 (by decide)]) (fun _ _ _ => rfl) ?_ ?_) (ext _ _ (fun _ _ => rfl) (by rw [uc 0 (by decide)]) ?_ (fun _ => uc 0 (by decide))) hc hb)
    · exact hS.2.1.cg (by rw [uc 0 (by decide)]) (by rw [uc 0 (by decide)]) (by rw [uc 0 (by decide)]) (by rw [uc 0 (by decide)]) (by rw [sM_k 12 (by decide), sM_k 12 (by decide), clN_a (by decide)]) (by rw [sM_k 13 (by decide), sM_k 13 (by decide), clN_a (by decide)])
    · exact hS.2.2.2.2.2.1.cg (by rw [uc 0 (by decide)]) (by rw [sM_k 20 (by decide), sM_k 20 (by decide), clN_a (by decide)])
    · rw [sM_k 13 (by decide), sM_k 13 (by decide), clN_a (by decide)]
  refine ⟨fun hs0 => ?_, fun hs1 => cl (plain (fun Q hq => ⟨fun y => ?_, fun _ => hq⟩))⟩
  · have hcb : cb = 128 := by rcases hsd with ⟨q1, q2, q3, q4⟩ | ⟨q1, q2, q3, q4⟩ <;> omega
    refine ⟨by rw [hcb]; exact hL'.o_128, cl ?_⟩
    have g9 : clM N cb f P cb 9 = nI x := by
      rw [clM_j (by decide)]
      exact (nu 0 9 (by omega) (by omega)).trans t2
    have n12 : clN M2 s f P 12 0 = nI x := by
      rw [clN_a (by decide)]
      rw [hs0] at e12; exact e12
    have v0s : vp_in (0 : Int32) 2 := vp_in_nI (n := 0) (by decide) (by decide)
    rw [g9]
    by_cases x3 : x = 3
    · have y3 : nI x = 3 := by rw [x3]; rfl
      rw [y3]
      refine ⟨fun _ => ?_, fun y => absurd rfl y⟩
      have hcE : cnt (fun k => clM N cb f P (cb + (8 + 3 * k)) 7) f = cnt (fun k => clN M2 s f P 24 (12 * s + k)) f := cnt_congr (fun j hj => by
        show clM N cb f P (cb + (8 + 3 * j)) 7 = 0 ↔ clN M2 s f P 24 (12 * s + j) = 0
        rcases Classical.em (P j) with hp | hp
        · rw [clM_yes hj hp, clN_yes hj hp]
        · rw [clM_no (fun q => hp q.2), clN_no (fun q => hp q.2), nu (8 + 3 * j) 7 (by omega) (by omega), show M2 24 (12 * s + j) = V 24 j from h.v (a := 24) (j := j) (by show j < 12; omega), (f5 j hj).2.2.2.1])
      have hcl : cnt (fun k => clN M2 s f P 24 (12 * s + k)) f ≤ f := cnt_le _ _
      have g3 := hLS.2.1.2.1
      rw [g3]
      refine ⟨hLS.2.2.2.2.2.2.1.1, wc_countOpen hLS f1 (by rw [clM_a (fun q _ => by omega)]; exact (nu 6 1 (by omega) (by omega)).trans f2) ?_⟩
      rw [hcE]
      have mo3 : ∀ {Q : mM → Prop}, (cnt (fun k => clN M2 s f P 24 (12 * s + k)) f = 0 → Q (sM (sM (clN M2 s f P) 12 0 4) 20 0 (-1))) → (cnt (fun k => clN M2 s f P 24 (12 * s + k)) f ≠ 0 → Q (clN M2 s f P)) → clT T2 R2 Q s (clN M2 s f P) := by
        intro Q q1 q2
        refine ⟨fun _ => ⟨hM.o_12, v0s, fun _ => ?_, fun y => absurd (n12.trans y3) y⟩, fun y => absurd (by rw [hs0]; rfl) y⟩
        have := wm_openOf (M2 := clN M2 s f P) (s := 0) (f := f) (Q := fun r6 => ((r6 = 0 → w_Mo_become 34 T2 R2 (clN M2 s f P) 1 (0 : Int32) (4 : Int32) (fun M7 => Q M7)) ∧ (¬ r6 = 0 → Q (clN M2 s f P)))) hM (by decide) (by omega) (by rw [clN_a (by decide)]; rw [hs0] at e21; exact e21) ?_
        · exact this
        · have eqc : cnt (fun k => clN M2 s f P 24 (12 * 0 + k)) f = cnt (fun k => clN M2 s f P 24 (12 * s + k)) f := by rw [hs0]
          rw [eqc]
          refine ⟨fun y => ?_, fun y => q2 (fun q => y (by rw [q]; rfl))⟩
          have y0 := (nI_eq (b := 0) (by omega) (by decide)).mp y
          refine ⟨hM.ok1, ?_⟩
          simp only [hM.r_11, hM.r_12, hM.r_13, hM.r_14, hM.r_15, hM.r_16, hM.r_17, hM.r_18, hM.r_19, hM.r_20, hM.r_21, hM.r_22, hM.r_23, hM.r_24, hM.r_25, hM.r_26, hM.r_27, hM.r_28, hM.r_29, hM.r_30, hM.r_31, hM.r_32, hM.r_33, hM.r_34, hM.r_35, hM.r_36, hM.r_37, hM.r_38, hM.r_39, hM.r_40, hM.r_41, hM.r_42, hM.r_43, hM.l_2, hM.l_3, hM.l_4, hM.l_5, hM.l_6, hM.l_7, hM.l_8, hM.l_9, hM.l_10, hM.l_11, hM.l_12, hM.l_13, hM.l_14, hM.l_15, hM.l_16, hM.l_17, hM.l_18, hM.l_19, hM.l_20, hM.l_21, hM.l_22, hM.l_23, hM.l_24, hM.l_25, hM.l_26, hM.l_27, hM.l_28, hM.l_29, hM.l_30, hM.l_31, hM.l_32, hM.l_33, hM.l_34]
          refine ⟨hM.o_12, v0s, fun D3 d3 => ⟨hM.o_20, v0s, fun D6 d6 => ?_⟩⟩
          have : D6 = sM (sM (clN M2 s f P) 12 0 4) 20 0 (-1) := by rw [d6, d3]; rfl
          rw [this]; exact q1 y0
      refine ⟨fun y => ⟨hLS.1, fun C1 c1 C2 c2 => ?_⟩, fun y => plain (fun Q hq => mo3 (fun q => absurd (by rw [q]; rfl) y) (fun _ => hq))⟩
      have y0 := (nI_eq (b := 0) (by omega) (by decide)).mp y
      have hA2 := (hA.setV1 hsd (a := 12) (x := 4) rfl).setV1 hsd (a := 20) (x := -1) rfl
      have hA2' : NS sd mt k c s cb w U (sM (sM (clN V 0 f P) 12 0 4) 20 0 (-1)) U' V' hs dl R M (sM (sM (clN M2 s f P) 12 0 4) 20 0 (-1)) := by
        have e0 : sM (sM (clN M2 s f P) 12 0 4) 20 0 (-1) = sM (sM (clN M2 s f P) 12 s 4) 20 s (-1) := by rw [hs0]
        rw [e0]; exact hA2
      obtain ⟨N3, b1, b2⟩ := B _ _ hA2' (by rw [sM_k 1 (by decide), sM_k 1 (by decide)]; exact k1) (fun j hj => by rw [sM_k 6 (by decide), sM_k 6 (by decide)]; exact k2 j hj) (by rw [sM_k 15 (by decide), sM_k 15 (by decide)]; exact clN_a (by decide))
      have hF := (b2.upd0 hsd (j := 9) (x := 4)).upd0 hsd (j := 13) (x := 0)
      rw [← c1, ← c2] at hF
      have w0 : ∀ j, j ≠ 9 → j ≠ 13 → sM (sM (clM Ul 0 f P) 0 9 4) 0 13 0 0 j = U 0 j := fun j q1 q2 => by rw [sM_j j q2, sM_j j q1, uc 0 (by decide)]
      have w1 : ∀ i, i ≠ 0 → sM (sM (clM Ul 0 f P) 0 9 4) 0 13 0 i = clM Ul 0 f P i := fun i q => by rw [sM_k i q, sM_k i q]
      have w9 : sM (sM (clM Ul 0 f P) 0 9 4) 0 13 0 0 9 = 4 := by rw [sM_j 9 (by decide), sM_e]
      have w13 : sM (sM (clM Ul 0 f P) 0 9 4) 0 13 0 0 13 = 0 := sM_e
      have ht8 : t = 8 := by
        unfold stOK at t1
        rw [if_pos hs0] at t1
        omega
      have tv : ∀ a, a ≠ 12 → a ≠ 20 → sM (sM (sM (sM (clN V 0 f P) 12 0 4) 20 0 (-1)) 15 e G') 16 (16 * e + n % 16) (nI n) a = sM (sM (clN V 0 f P) 15 e G') 16 (16 * e + n % 16) (nI n) a := fun a q1 q2 => by
        funext j
        simp only [sMt]
        rw [if_neg (c := a = 20 ∧ j = 0) (fun q => q2 q.1), if_neg (c := a = 12 ∧ j = 0) (fun q => q1 q.1)]
      have tv12 : sM (sM (sM (sM (clN V 0 f P) 12 0 4) 20 0 (-1)) 15 e G') 16 (16 * e + n % 16) (nI n) 12 0 = 4 := by rw [sM_k 12 (by decide), sM_k 12 (by decide), sM_k 12 (by decide), sM_e]
      have tv20 : sM (sM (sM (sM (clN V 0 f P) 12 0 4) 20 0 (-1)) 15 e G') 16 (16 * e + n % 16) (nI n) 20 0 = -1 := by rw [sM_k 20 (by decide), sM_k 20 (by decide), sM_e]
      have tv13 : sM (sM (sM (sM (clN V 0 f P) 12 0 4) 20 0 (-1)) 15 e G') 16 (16 * e + n % 16) (nI n) 13 = V 13 := by rw [tv 13 (by decide) (by decide), sM_k 13 (by decide), sM_k 13 (by decide), clN_a (by decide)]
      generalize sM (sM (sM (sM (clN V 0 f P) 12 0 4) 20 0 (-1)) 15 e G') 16 (16 * e + n % 16) (nI n) = V3 at hF tv tv12 tv13 tv20
      generalize sM (sM (clM Ul 0 f P) 0 9 4) 0 13 0 = U3 at hF w0 w1 w9 w13
      refine hK C2 N3 (fun Q' a6 a7 a8 hq => mo (mo3 (fun _ => b1 Q' a6 a7 a8 hq) (fun q => absurd y0 q))) (hF.fin (rel U3 V3 w1 w0 tv ⟨4, 8, ?_, w9, tv12, ?_, ?_, ?_, ?_⟩ (Or.inl ⟨w13, tv20⟩)) (ext U3 V3 w1 (w0 14 (by decide) (by decide)) tv13 (fun q => absurd (hs0.symm.trans q) (by decide))) hc hb)
      · unfold stOK; rw [if_pos hs0]; omega
      · rw [tv13, t4, ht8]
      · rw [w0 10 (by decide) (by decide), t5, ht8]
      · rw [w0 11 (by decide) (by decide), t6, ht8]
      · rw [w0 12 (by decide) (by decide), t7, ht8]
    · have y3 : ¬ nI x = 3 := fun q => x3 ((nI_eq (b := 3) (by omega) (by decide)).mp q)
      exact ⟨fun y => absurd y y3, fun _ => plain (fun Q hq => ⟨fun _ => ⟨hM.o_12, v0s, fun y => absurd (n12.symm.trans y) y3, fun _ => hq⟩, fun y => absurd (by rw [hs0]; rfl) y⟩)⟩
  · rw [hs1] at y; exact absurd y (by decide)
end AD
