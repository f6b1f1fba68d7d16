/-! a message is cut into pieces by both -/
def msgR (sd : Int32) (T : mT) (R : mR) (cb mi p : Nat) (U : mM) : Prop := (ok T 200 (cb + mi) 0 ∧ R (cb + mi) 2 = cb + (mi + 1) ∧ ok T 200 (cb + (mi + 1)) 100 ∧ (T (cb + (mi + 1))).2 = SZ sd p) ∧ U mi 0 = nI (noP p) ∧ U mi 1 = nI (epP p) ∧ ∀ i, i < SZ sd p → U (mi + 1) i = CT sd p i
/-- cells and arrays that cutting leaves alone -/
def frC (nf : Nat) (U V U1 V1 : mM) : Prop := (∀ i, i ≠ 6 → i < 8 ∨ 8 + 3 * nf ≤ i → U1 i = U i) ∧ (∀ j, j ≠ 1 → U1 6 j = U 6 j) ∧ ∀ a, a < 21 ∨ 24 < a → V1 a = V a
theorem frC.refl {nf : Nat} {U V : mM} : frC nf U V U V := ⟨fun _ _ _ => rfl, fun _ _ => rfl, fun _ _ => rfl⟩
theorem frC.trans {nf : Nat} {U V U1 V1 U2 V2 : mM} (h : frC nf U V U1 V1) (h' : frC nf U1 V1 U2 V2) : frC nf U V U2 V2 := ⟨fun i a b => (h'.1 i a b).trans (h.1 i a b), fun j a => (h'.2.1 j a).trans (h.2.1 j a), fun a b => (h'.2.2 a b).trans (h.2.2 a b)⟩
def cuU (U : mM) (f no ep q z : Nat) (B : Nat → Int32) : mM := sM (sM (sM (loadM (sM (sM (sM (sM U (8 + 3 * f) 2 (nI no)) (8 + 3 * f) 3 (nI ep)) (8 + 3 * f) 4 (nI q)) (8 + 3 * f) 5 (nI z)) (8 + 3 * f) z (fun j => B (q + j))) (8 + 3 * f) 6 0) (8 + 3 * f) 7 1) 6 1 (nI (f + 1))
def cuV (V : mM) (f p q : Nat) : mM := sM (sM (sM (sM V 22 f (nI p)) 23 f (nI q)) 24 f 1) 21 0 (nI (f + 1))
section CU
variable {sd : Int32} {mt k c s cb nf w f p q z : Nat} {U V U' V' : mM} {hs : Nat → Int32} {dl : Int32} {T T2 : mT} {R R2 : mR} {M M2 : mM}
theorem cuU_k {no ep i : Nat} {B : Nat → Int32} (h1 : i ≠ 8 + 3 * f) (h2 : i ≠ 9 + 3 * f) (h3 : i ≠ 6) : cuU U f no ep q z B i = U i := by
  unfold cuU
  rw [sM_k i h3, sM_k i h1, sM_k i h1, loadM_out (by omega), sM_k i h1, sM_k i h1, sM_k i h1, sM_k i h1]
theorem cuU_8 {no ep j : Nat} {B : Nat → Int32} : cuU U f no ep q z B (8 + 3 * f) j = if j = 7 then 1 else if j = 6 then 0 else if j = 5 then nI z else if j = 4 then nI q else if j = 3 then nI ep else if j = 2 then nI no else U (8 + 3 * f) j := by
  unfold cuU
  rw [sM_k _ (by omega), sMt, sMt, loadM_out (by omega), sMt, sMt, sMt, sMt]
  simp only [true_and]
theorem cuU_9 {no ep j : Nat} {B : Nat → Int32} (hj : j < z) : cuU U f no ep q z B (9 + 3 * f) j = B (q + j) := by
  unfold cuU
  rw [sM_k _ (by omega), sM_k _ (by omega), sM_k _ (by omega), show 9 + 3 * f = 8 + 3 * f + 1 by omega, loadM_in hj]
theorem cuU_6 {no ep j : Nat} {B : Nat → Int32} : cuU U f no ep q z B 6 j = if j = 1 then nI (f + 1) else U 6 j := by
  unfold cuU
  by_cases h : j = 1
  · subst h; rw [sM_e, if_pos rfl]
  · rw [sM_j _ h, if_neg h, sM_k _ (by omega), sM_k _ (by omega), loadM_out (by omega), sM_k _ (by omega), sM_k _ (by omega), sM_k _ (by omega), sM_k _ (by omega)]
theorem cuV_t (a j : Nat) : cuV V f p q a j = if a = 21 ∧ j = 0 then nI (f + 1) else if a = 24 ∧ j = f then 1 else if a = 23 ∧ j = f then nI q else if a = 22 ∧ j = f then nI p else V a j := rfl
theorem cu_fr {no ep : Nat} {B : Nat → Int32} (hf : f < nf) : frC nf U V (cuU U f no ep q z B) (cuV V f p q) := by
  refine ⟨fun i h1 h2 => cuU_k (by omega) (by omega) h1, fun j hj => by rw [cuU_6, if_neg hj], fun a ha => ?_⟩
  funext j; rw [cuV_t, if_neg (by omega), if_neg (by omega), if_neg (by omega), if_neg (by omega)]
theorem flS.cut {B : Nat → Int32} (h : flS sd mt c s nf 0 0 f 0 U V) (hop : ∀ j, j < f → V 24 j = 1) (hf : f < nf) (h1 : sender (nI s) p ∧ p ≠ 1 ∧ q < SZ sd p ∧ z = min mt (SZ sd p - q) ∧ (p ≠ 5 → q = 0)) (hB : ∀ i, i < SZ sd p → B i = CT sd p i) : flS sd mt c s nf 0 0 (f + 1) 0 (cuU U f (noP p) (epP p) q z B) (cuV V f p q) ∧ ∀ j, j < f + 1 → cuV V f p q 24 j = 1 := by
  obtain ⟨a1, a2, a3, a4, a5, a6, a7, a8⟩ := h
  have v24 : ∀ j, cuV V f p q 24 j = if j = f then 1 else V 24 j := fun j => by
    rw [cuV_t, if_neg (by omega)]
    by_cases x : j = f
    · rw [if_pos ⟨rfl, x⟩, if_pos x]
    · rw [if_neg (by omega), if_neg (by omega), if_neg (by omega), if_neg x]
  have v23 : ∀ j, cuV V f p q 23 j = if j = f then nI q else V 23 j := fun j => by
    rw [cuV_t, if_neg (by omega), if_neg (by omega)]
    by_cases x : j = f
    · rw [if_pos ⟨rfl, x⟩, if_pos x]
    · rw [if_neg (by omega), if_neg (by omega), if_neg x]
  have v22 : ∀ j, cuV V f p q 22 j = if j = f then nI p else V 22 j := fun j => by
    rw [cuV_t, if_neg (by omega), if_neg (by omega), if_neg (by omega)]
    by_cases x : j = f
    · rw [if_pos ⟨rfl, x⟩, if_pos x]
    · rw [if_neg (by omega), if_neg x]
  have vo : ∀ a, a < 21 ∨ 24 < a → cuV V f p q a = V a := (cu_fr (no := 0) (ep := 0) (B := B) (U := U) (z := z) hf).2.2
  refine ⟨⟨by omega, by rw [cuU_6, if_pos rfl], by rw [cuV_t, if_pos ⟨rfl, rfl⟩], a4, by omega, by rw [vo 25 (by decide)]; exact a6, fun t ht => absurd ht (Nat.not_lt_zero t), fun j hj => ?_⟩, fun j hj => ?_⟩
  · rw [if_neg (Nat.not_lt_zero j)]
    by_cases x : j = f
    · subst x
      refine ⟨p, q, z, 0, h1.1, h1.2.1, h1.2.2.1, h1.2.2.2.1, h1.2.2.2.2, by rw [v22, if_pos rfl], by rw [v23, if_pos rfl], by rw [v24, if_pos rfl]; exact Or.inr rfl, by rw [cuU_8, v24, if_pos rfl, if_pos rfl], by rw [cuU_8]; rfl, by rw [cuU_8]; rfl, by rw [cuU_8]; rfl, by rw [cuU_8]; rfl, fun i hi => ?_, Nat.le_refl 0, by rw [cuU_8]; rfl, fun x y _ _ => ⟨fun ⟨i, hi, _⟩ => absurd hi (Nat.not_lt_zero i), fun ⟨i, hi, _⟩ => absurd hi (Nat.not_lt_zero i)⟩⟩
      rw [cuU_9 hi]
      exact hB _ (by have := h1.2.2.2.1; omega)
    · obtain ⟨p', q', z', sn', g1, g2, g3, g4, g5, g6, g7, g8, g9, g10, g11, g12, g13, g14, g15, g16, g17⟩ := a8 j (by omega)
      rw [if_neg (Nat.not_lt_zero j)] at g15
      have u8 : cuU U f (noP p) (epP p) q z B (8 + 3 * j) = U (8 + 3 * j) := cuU_k (by omega) (by omega) (by omega)
      have u9 : cuU U f (noP p) (epP p) q z B (9 + 3 * j) = U (9 + 3 * j) := cuU_k (by omega) (by omega) (by omega)
      refine ⟨p', q', z', sn', g1, g2, g3, g4, g5, by rw [v22, if_neg x]; exact g6, by rw [v23, if_neg x]; exact g7, by rw [v24, if_neg x]; exact g8, by rw [v24, if_neg x, u8]; exact g9, by rw [u8]; exact g10, by rw [u8]; exact g11, by rw [u8]; exact g12, by rw [u8]; exact g13, by rw [u9]; exact g14, g15, by rw [u8]; exact g16, fun x' y' _ _ => ⟨fun ⟨i, hi, _⟩ => absurd hi (by omega), fun ⟨i, hi, _⟩ => absurd hi (Nat.not_lt_zero i)⟩⟩
  · rw [v24]
    by_cases x : j = f
    · rw [if_pos x]
    · rw [if_neg x]; exact hop j (by omega)
theorem uw_load {h : Nat} {F : Nat → Int32} (hh : h + 1 < w) : uw (loadM M (cb + h) z F) cb w = loadM (uw M cb w) h z F := by
  funext i j
  simp only [uw, loadM]
  by_cases x : i < w
  · rw [if_pos x, if_pos x]
    by_cases y : i = h + 1 ∧ j < z
    · rw [if_pos y, if_pos (by omega)]
    · rw [if_neg y, if_neg (by omega)]
  · rw [if_neg x, if_neg x, if_neg (by omega)]
theorem NS.loadU (hsd : isSd s cb nf w) (h : NS sd mt k c s cb w U V U' V' hs dl R M M2) {i : Nat} {F : Nat → Int32} (hi : i + 1 < w) : NS sd mt k c s cb w (loadM U i z F) V U' V' hs dl R (loadM M (cb + i) z F) M2 := by
  have hl := hsd.le
  obtain ⟨a1, a2, a3, a4, rfl, rfl, rfl, rfl, rfl, a10⟩ := h
  refine ⟨a1, a2, a3, ?_, uw_load hi, rfl, uw_eq (fun j hj => loadM_out ?_), rfl, rfl, by rw [loadM_out (by omega)]; exact a10⟩
  · have : nw (loadM M (cb + i) z F) = nw M := by
      funext a j
      unfold nw
      split
      · rw [loadM_out (by omega)]
      · rfl
    rw [this]; exact a4
  · rcases hsd with ⟨rfl, rfl, rfl, rfl⟩ | ⟨rfl, rfl, rfl, rfl⟩ <;> omega
/-- the class cuts a piece -/
theorem wc_cut (hS : LSd T R cb nf) (hf : f < nf) {mi : Nat} (hmi : 8 + 3 * nf ≤ mi) (hmg : ok T 200 (cb + mi) 0 ∧ R (cb + mi) 2 = cb + (mi + 1) ∧ ok T 200 (cb + (mi + 1)) 100 ∧ (T (cb + (mi + 1))).2 = SZ sd p) (h0 : M (cb + mi) 0 = nI (noP p)) (h1 : M (cb + mi) 1 = nI (epP p)) (hq : q < SZ sd p) (hz : z = min mt (SZ sd p - q)) (hmt : mt ≤ 24) {K : mM → Prop}
    (hK : K (sM (sM (loadM (sM (sM (sM (sM M (cb + (8 + 3 * f)) 2 (nI (noP p))) (cb + (8 + 3 * f)) 3 (nI (epP p))) (cb + (8 + 3 * f)) 4 (nI q)) (cb + (8 + 3 * f)) 5 (nI z)) (cb + (8 + 3 * f)) z (fun j => M (cb + (mi + 1)) (q + j))) (cb + (8 + 3 * f)) 6 0) (cb + (8 + 3 * f)) 7 1)) : w_Frag_cutFrom 200 T R M (cb + (8 + 3 * f)) (cb + mi) (nI q) (nI mt) K := by
  have ⟨s1, s2, s3, s4, s5, s6, s7, s8⟩ := hS.2.2.2.2.2.2.2.1 f hf
  obtain ⟨m1, m2, m3, m4⟩ := hmg
  have hszb : SZ sd p ≤ 43 := SZ_le sd p
  refine ⟨s2, m1, fun M2 e2 M3 e3 M4 e4 => ?_⟩
  rw [h0] at e2
  have d1 : M2 (cb + mi) 1 = nI (epP p) := by rw [e2, sM_k _ (by omega)]; exact h1
  rw [d1] at e3
  rw [s3, m2, s6, m4]
  refine ⟨s5, m3, fun M7 e7 => ⟨z + 1, ?_⟩⟩
  rw [jmin_l hmt (by decide), nI_sub (by omega)] at e7
  have ez : jmin (nI mt) (nI (SZ sd p - q)) = nI z := by
    by_cases x : mt ≤ SZ sd p - q
    · rw [jmin_l x (by omega), show z = mt by omega]
    · rw [jmin_r (by omega) (by omega), show z = SZ sd p - q by omega]
  rw [ez] at e7
  have src : M7 (cb + (mi + 1)) = M (cb + (mi + 1)) := by rw [e7, sM_k _ (by omega), e4, sM_k _ (by omega), e3, sM_k _ (by omega), e2, sM_k _ (by omega)]
  have lp : ∀ d i, i + d = z → w_Frag_cutFrom_L47 200 T R K (cb + (8 + 3 * f)) (cb + mi) (nI q) (d + 1) (nI i) (loadM M7 (cb + (8 + 3 * f)) i (fun j => M (cb + (mi + 1)) (q + j))) := by
    intro d
    induction d with
    | zero =>
      intro i hi
      have : i = z := by omega
      subst this
      unfold w_Frag_cutFrom_L47
      have : loadM M7 (cb + (8 + 3 * f)) i (fun j => M (cb + (mi + 1)) (q + j)) (cb + (8 + 3 * f)) 5 = nI i := by rw [loadM_out (by omega), e7, sM_e]
      rw [this]
      refine ⟨fun _ M10 e10 M11 e11 => ?_, fun x => absurd (nI_le (Nat.le_refl i) (by omega)) x⟩
      subst e11; subst e10; subst e7; subst e4; subst e3; subst e2
      exact hK
    | succ d ih =>
      intro i hi
      unfold w_Frag_cutFrom_L47
      have : loadM M7 (cb + (8 + 3 * f)) i (fun j => M (cb + (mi + 1)) (q + j)) (cb + (8 + 3 * f)) 5 = nI z := by rw [loadM_out (by omega), e7, sM_e]
      rw [this, s3, m2, s6, m4, nI_add, nI_clamp (by omega), nI_clamp (by omega)]
      refine ⟨fun x => absurd x (nI_ge (by omega) (by omega)), fun _ => ⟨s5, m3, vp_in_nI (by omega) (by omega), vp_in_nI (by omega) (by decide), fun M16 e16 v17 e17 => ?_⟩⟩
      rw [loadM_out (a := cb + (mi + 1)) (by omega), src, show cb + (9 + 3 * f) = cb + (8 + 3 * f) + 1 by omega, loadM_s (f := fun j => M (cb + (mi + 1)) (q + j))] at e16
      subst e16; subst e17
      rw [nI_1]
      exact ih (i + 1) (by omega)
  have := lp z 0 (by omega)
  rw [loadM_0] at this
  exact this
theorem msgR.fr {mi : Nat} {U1 V1 : mM} (h : msgR sd T R cb mi p U) (hf : frC nf U V U1 V1) (hm : 8 + 3 * nf ≤ mi) : msgR sd T R cb mi p U1 := by
  obtain ⟨a, b, c, d⟩ := h
  have e1 := hf.1 mi (by omega) (by omega)
  have e2 := hf.1 (mi + 1) (by omega) (by omega)
  exact ⟨a, by rw [e1]; exact b, by rw [e1]; exact c, fun i hi => by rw [e2]; exact d i hi⟩
/-- both cut the message of place p into n pieces, behind f others -/
theorem add_both (hsd : isSd s cb nf w) (hL : LC sd T R) (hM : LM T2 R2) (h : NS sd mt k c s cb w U V U' V' hs dl R M M2) {n mi : Nat} (hp : sender (nI s) p ∧ p ≠ 1) (h5 : p ≠ 5 → n = 1) (hn1 : SZ sd p ≤ mt * n) (hn2 : ∀ i, i < n → mt * i < SZ sd p) (hroom : f + n ≤ nf) (hmi : 8 + 3 * nf ≤ mi) (hmw : mi + 1 < w) (hmg : msgR sd T R cb mi p U) (hfl : flS sd mt c s nf 0 0 f 0 U V) (hop : ∀ j, j < f → V 24 j = 1) {K : mM → Prop}
    (hK : ∀ U1 V1 M' M2', (∀ (Q : mM → Prop) (K17 : Nat → Int32 → Int32 → Int32 → mM → Prop) (a3 : Int32), K17 1 (nI s) a3 (nI (p + 1)) M2' → ∃ N26, w_Mo_fly_L26 34 T2 R2 Q K17 1 (nI s) a3 (nI p) N26 0 M2) → NS sd mt k c s cb w U1 V1 U' V' hs dl R M' M2' → flS sd mt c s nf 0 0 (f + n) 0 U1 V1 → (∀ j, j < f + n → V1 24 j = 1) → frC nf U V U1 V1 → K M') : w_Flight_add 200 T R M (cb + 6) (cb + mi) (nI mt) K := by
  have hl := hsd.le
  have hS := hL.sid hsd
  have ⟨g61, g62, g71, g72⟩ := hS.2.2.2.2.2.2.1
  have hszb : SZ sd p ≤ 43 := SZ_le sd p
  have hmt := h.1
  have hp7 : p ≤ 7 := by have := hp.1; unfold sender at this; omega
  refine ⟨g61, n + 1, ?_⟩
  have lp : ∀ d i, i + d = n → ∀ U1 V1 M1 M3, (∀ (Q : mM → Prop) (K17 : Nat → Int32 → Int32 → Int32 → mM → Prop) (a3 : Int32), w_Mo_fly_L26 34 T2 R2 Q K17 1 (nI s) a3 (nI p) (d + 1) (nI (mt * i)) M3 → w_Mo_fly_L26 34 T2 R2 Q K17 1 (nI s) a3 (nI p) (n + 1) 0 M2) → NS sd mt k c s cb w U1 V1 U' V' hs dl R M1 M3 → flS sd mt c s nf 0 0 (f + i) 0 U1 V1 → (∀ j, j < f + i → V1 24 j = 1) → frC nf U V U1 V1 → w_Flight_add_L2 200 T R K (cb + 6) (cb + mi) (nI mt) (d + 1) (nI (mt * i)) M1 := by
    intro d
    induction d with
    | zero =>
      intro i hi U1 V1 M1 M3 q1 q2 q3 q4 q5
      have : i = n := by omega
      subst this
      unfold w_Flight_add_L2
      obtain ⟨m1, m2, m3, m4⟩ := hmg.1
      have hb : mt * i ≤ 24 * 9 := Nat.mul_le_mul (by omega) (by omega)
      rw [m2, m4]
      refine ⟨m1, m3, fun _ => hK U1 V1 M1 M3 (fun Q K17 a3 hk => ⟨i + 1, q1 Q K17 a3 ?_⟩) q2 q3 q4 q5, fun x => absurd (nI_le hn1 (by omega)) x⟩
      unfold w_Mo_fly_L26
      refine wm_sizeOf hM.ok1 q2.2.2.1.2.1 hp7 ⟨fun _ v24 e24 => ?_, fun x => absurd (nI_le hn1 (by omega)) x⟩
      rw [e24, nI_1]; exact hk
    | succ d ih =>
      intro i hi U1 V1 M1 M3 q1 q2 q3 q4 q5
      have hqs : mt * i < SZ sd p := hn2 i (by omega)
      have hmg1 := hmg.fr q5 hmi
      have ⟨m1, m2, m3, m4⟩ := hmg1.1
      unfold w_Flight_add_L2
      have e61 : M1 (cb + 6) 1 = nI (f + i) := by rw [q2.u (by omega)]; exact q3.2.1
      have ⟨s1, s2, s3, s4, s5, s6, s7, s8⟩ := hS.2.2.2.2.2.2.2.1 (f + i) (by omega)
      rw [m2, m4, g62, g72, e61, nI_clamp (by omega), s1]
      refine ⟨m1, m3, fun x => absurd x (nI_ge hqs (by omega)), fun _ => ⟨g71, fun x => absurd x (nI_ge (by omega) (by omega)), fun _ => ⟨vp_in_nI (by omega) (by omega), s2, ?_⟩⟩⟩
      have u1 : ∀ {j : Nat}, M1 (cb + mi) j = U1 mi j := fun {j} => q2.u (by omega)
      have u2 : ∀ {j : Nat}, M1 (cb + (mi + 1)) j = U1 (mi + 1) j := fun {j} => q2.u (by omega)
      refine wc_cut hS (by omega) hmi hmg1.1 (by rw [u1]; exact hmg1.2.1) (by rw [u1]; exact hmg1.2.2.1) hqs rfl hmt.2.1 (fun M8 e8 v9 e9 => ?_)
      generalize hz : min mt (SZ sd p - mt * i) = z at e8
      have hA := ((((((q2.setU hsd (i := 8 + 3 * (f + i)) (j := 2) (x := nI (noP p)) (by omega)).setU hsd (i := 8 + 3 * (f + i)) (j := 3) (x := nI (epP p)) (by omega)).setU hsd (i := 8 + 3 * (f + i)) (j := 4) (x := nI (mt * i)) (by omega)).setU hsd (i := 8 + 3 * (f + i)) (j := 5) (x := nI z) (by omega)).loadU hsd (i := 8 + 3 * (f + i)) (z := z) (F := fun j => M1 (cb + (mi + 1)) (mt * i + j)) (by omega)).setU hsd (i := 8 + 3 * (f + i)) (j := 6) (x := 0) (by omega)).setU hsd (i := 8 + 3 * (f + i)) (j := 7) (x := 1) (by omega)
      generalize hM7 : sM (sM (loadM (sM (sM (sM (sM M1 (cb + (8 + 3 * (f + i))) 2 (nI (noP p))) (cb + (8 + 3 * (f + i))) 3 (nI (epP p))) (cb + (8 + 3 * (f + i))) 4 (nI (mt * i))) (cb + (8 + 3 * (f + i))) 5 (nI z)) (cb + (8 + 3 * (f + i))) z (fun j => M1 (cb + (mi + 1)) (mt * i + j))) (cb + (8 + 3 * (f + i))) 6 0) (cb + (8 + 3 * (f + i))) 7 1 = M7 at hA e8
      have d61 : M7 (cb + 6) 1 = nI (f + i) := by
        rw [← hM7, sM_k _ (by omega), sM_k _ (by omega), loadM_out (by omega), sM_k _ (by omega), sM_k _ (by omega), sM_k _ (by omega), sM_k _ (by omega)]; exact e61
      rw [d61, nI_1] at e8
      have hB := hA.setU hsd (i := 6) (j := 1) (x := nI (f + i + 1)) (by omega)
      rw [← e8] at hB
      have hC := (((hB.setV hsd (a := 22) (j := f + i) (x := nI p) (by show f + i < 12; omega)).setV hsd (a := 23) (j := f + i) (x := nI (mt * i)) (by show f + i < 12; omega)).setV hsd (a := 24) (j := f + i) (x := 1) (by show f + i < 12; omega)).setV1 hsd (a := 21) (x := nI (f + i + 1)) rfl
      have hC' : NS sd mt k c s cb w (cuU U1 (f + i) (noP p) (epP p) (mt * i) z (M1 (cb + (mi + 1)))) (cuV V1 (f + i) p (mt * i)) U' V' hs dl R M8 (sM (sM (sM (sM M3 22 (12 * s + (f + i)) (nI p)) 23 (12 * s + (f + i)) (nI (mt * i))) 24 (12 * s + (f + i)) 1) 21 s (nI (f + i + 1))) := hC
      clear hA hB hC
      have hfl2 := q3.cut (p := p) (q := mt * i) (z := z) (B := M1 (cb + (mi + 1))) q4 (by omega) ⟨hp.1, hp.2, hqs, hz.symm, fun x => by have := h5 x; rw [show i = 0 by omega, Nat.mul_zero]⟩ (fun j hj => by rw [u2]; exact hmg1.2.2.2 j hj)
      have e9' : v9 = nI (mt * (i + 1)) := by rw [e9, nI_add, Nat.mul_succ]
      rw [e9']
      refine ih (i + 1) (by omega) _ _ M8 _ (fun Q K17 a3 hk => q1 Q K17 a3 ?_) hC' hfl2.1 hfl2.2 (q5.trans (cu_fr (by omega)))
      unfold w_Mo_fly_L26
      simp only [hM.r_11, hM.r_12, hM.r_13, hM.r_14, hM.r_15, hM.r_16, hM.r_17, hM.r_18, hM.r_19, hM.r_20, hM.r_21, hM.r_22, hM.r_23, hM.r_24, hM.r_25, hM.r_26, hM.r_27, hM.r_28, hM.r_29, hM.r_30, hM.r_31, hM.r_32, hM.r_33, hM.r_34, hM.r_35, hM.r_36, hM.r_37, hM.r_38, hM.r_39, hM.r_40, hM.r_41, hM.r_42, hM.r_43, hM.l_2, hM.l_3, hM.l_4, hM.l_5, hM.l_6, hM.l_7, hM.l_8, hM.l_9, hM.l_10, hM.l_11, hM.l_12, hM.l_13, hM.l_14, hM.l_15, hM.l_16, hM.l_17, hM.l_18, hM.l_19, hM.l_20, hM.l_21, hM.l_22, hM.l_23, hM.l_24, hM.l_25, hM.l_26, hM.l_27, hM.l_28, hM.l_29, hM.l_30, hM.l_31, hM.l_32, hM.l_33, hM.l_34]
      refine wm_sizeOf hM.ok1 q2.2.2.1.2.1 hp7 ⟨fun x => absurd x (nI_ge hqs (by show szP (plS sd) p < 2 ^ 31; have : szP (plS sd) p = SZ sd p := rfl; omega)), fun _ => ?_⟩
      have e21 : M3 21 s = nI (f + i) := (stA1_v q2 rfl).trans q3.2.2.1
      have i12' : (12 : Int32) * nI s + nI (f + i) = nI (12 * s + (f + i)) := i12 (a := 12)
      rw [nI_clamp (show s < 2 ^ 31 by omega), e21, i12', nI_clamp (by omega)]
      have vi : vp_in (nI (12 * s + (f + i))) 24 := vp_in_nI (by omega) (by decide)
      have vs : vp_in (nI s) 2 := vp_in_nI (by omega) (by decide)
      refine ⟨hM.o_22, hM.o_21, vs, vi, fun M29 e29 => ?_⟩
      have d29 : M29 21 s = nI (f + i) := by rw [e29, sM_k 21 (by decide)]; exact e21
      rw [d29, i12', nI_clamp (by omega)]
      refine ⟨hM.o_23, vs, vi, fun M33 e33 => ?_⟩
      have d33 : M33 21 s = nI (f + i) := by rw [e33, sM_k 21 (by decide)]; exact d29
      rw [d33, i12', nI_clamp (by omega)]
      refine ⟨hM.o_24, vs, vi, fun M37 e37 => ⟨vs, vs, fun M40 e40 v41 e41 => ?_⟩⟩
      have d37 : M37 21 s = nI (f + i) := by rw [e37, sM_k 21 (by decide)]; exact d33
      rw [d37, nI_1] at e40
      have d40 : M40 1 0 = nI mt := by rw [e40, sM_k 1 (by decide), e37, sM_k 1 (by decide), e33, sM_k 1 (by decide), e29, sM_k 1 (by decide)]; exact q2.2.2.1.1
      rw [d40, nI_add, ← Nat.mul_succ] at e41
      subst e41; subst e40; subst e37; subst e33; subst e29
      exact hk
  have := lp n 0 (by omega) U V M M2 (fun Q K17 a3 hk => by rw [Nat.mul_zero] at hk; exact hk) h hfl hop frC.refl
  rw [Nat.mul_zero] at this
  exact this
end CU
