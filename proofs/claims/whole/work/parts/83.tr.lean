/-! the class's transcript and the messages that it writes -/
def ldO (M : mM) (h st z : Nat) (f : Nat → Int32) : mM := fun a j => if a = h + 1 ∧ st ≤ j ∧ j < st + z then f (j - st) else M a j
section TR
variable {sd : Int32} {mt k c s cb nf w z st : Nat} {U V U' V' : mM} {hs : Nat → Int32} {dl : Int32} {T T2 : mT} {R R2 : mR} {M M2 : mM}
theorem ldO_t (M : mM) (h st z : Nat) (f : Nat → Int32) (a j : Nat) : ldO M h st z f a j = if a = h + 1 ∧ st ≤ j ∧ j < st + z then f (j - st) else M a j := rfl
theorem ldO_out {h a : Nat} {f : Nat → Int32} (h1 : a ≠ h + 1) : ldO M h st z f a = M a := by funext j; exact if_neg (fun q => h1 q.1)
theorem ldO_in {h j : Nat} {f : Nat → Int32} (h1 : st ≤ j) (h2 : j < st + z) : ldO M h st z f (h + 1) j = f (j - st) := if_pos ⟨rfl, h1, h2⟩
theorem ldO_lo {h j : Nat} {f : Nat → Int32} (h1 : j < st ∨ st + z ≤ j) : ldO M h st z f (h + 1) j = M (h + 1) j := if_neg (by omega)
theorem ldO_0 {h : Nat} {f : Nat → Int32} : ldO M h st 0 f = M := by funext a j; exact if_neg (by omega)
theorem ldO_s {h i : Nat} {f : Nat → Int32} : sM (ldO M h st i f) (h + 1) (st + i) (f i) = ldO M h st (i + 1) f := by
  funext a j
  rw [sMt, ldO_t, ldO_t]
  by_cases q : a = h + 1 ∧ j = st + i
  · obtain ⟨rfl, rfl⟩ := q
    rw [if_pos ⟨rfl, rfl⟩, if_pos (by omega), show st + i - st = i by omega]
  · rw [if_neg q]
    by_cases q2 : a = h + 1 ∧ st ≤ j ∧ j < st + i
    · rw [if_pos q2, if_pos (by omega)]
    · rw [if_neg q2, if_neg (by omega)]
theorem uw_ldO {h : Nat} {F : Nat → Int32} (hh : h + 1 < w) : uw (ldO M (cb + h) st z F) cb w = ldO (uw M cb w) h st z F := by
  funext i j
  simp only [uw, ldO]
  by_cases x : i < w
  · rw [if_pos x, if_pos x]
    by_cases y : i = h + 1 ∧ st ≤ j ∧ j < st + z
    · rw [if_pos y, if_pos (by omega)]
    · rw [if_neg y, if_neg (by omega)]
  · rw [if_neg x, if_neg x, if_neg (by omega)]
theorem NS.ldU (hsd : isSd s cb nf w) (h : NS sd mt k c s cb w U V U' V' hs dl R M M2) {i : Nat} {F : Nat → Int32} (hi : i + 1 < w) : NS sd mt k c s cb w (ldO U i st z F) V U' V' hs dl R (ldO M (cb + i) st z F) M2 := by
  have hl := hsd.le
  obtain ⟨a1, a2, a3, a4, rfl, rfl, rfl, rfl, rfl, a10⟩ := h
  refine ⟨a1, a2, a3, ?_, uw_ldO hi, rfl, uw_eq (fun j hj => ldO_out ?_), rfl, rfl, by rw [ldO_out (by omega)]; exact a10⟩
  · have : nw (ldO M (cb + i) st z F) = nw M := by
      funext a j
      unfold nw
      split
      · rw [ldO_out (by omega)]
      · rfl
    rw [this]; exact a4
  · rcases hsd with ⟨rfl, rfl, rfl, rfl⟩ | ⟨rfl, rfl, rfl, rfl⟩ <;> omega
theorem tel_congr {f g : Nat → Int32} {t : Int32} : ∀ {n : Nat}, (∀ i, i < n → f i = g i) → tel f t n = tel g t n := by
  intro n
  induction n with
  | zero => intro _; rfl
  | succ n ih =>
    intro h
    show (tel f t n * 31) + f n + 1 = (tel g t n * 31) + g n + 1
    rw [ih (fun i hi => h i (by omega)), h n (by omega)]
theorem wc_addBytes (hS : okS T 200 cb) {src L a n : Nat} (ho : ok T 200 src 100) (hl : (T src).2 = L) (ha : a + n ≤ L) (hL : L ≤ 100) (hne : src ≠ cb) {f : Nat → Int32} (hf : ∀ i, i < n → M src (a + i) = f i) {Q : mM → Prop} (hq : Q (sM M cb 10 (tel f (M cb 10) n))) : w_Side_addBytesToTranscript 200 T R M cb src (nI a) (nI (a + n)) Q := by
  refine ⟨hS, n + 1, ?_⟩
  have lp : ∀ d i, i + d = n → w_Side_addBytesToTranscript_L3 200 T R Q cb src (nI (a + n)) (d + 1) (nI (a + i)) (sM M cb 10 (tel f (M cb 10) i)) := by
    intro d
    induction d with
    | zero =>
      intro i hi
      have : i = n := by omega
      subst this
      unfold w_Side_addBytesToTranscript_L3
      exact ⟨fun _ => hq, fun x => absurd (nI_le (Nat.le_refl _) (by omega)) x⟩
    | succ d ih =>
      intro i hi
      unfold w_Side_addBytesToTranscript_L3
      rw [hl, nI_clamp (by omega), sM_e, sM_k src hne, hf i (by omega)]
      refine ⟨fun x => absurd x (nI_ge (by omega) (by omega)), fun _ => ⟨ho, fun x => absurd x (nI_ge (by omega) (by omega)), fun _ => ⟨vp_in_nI (by omega) (by omega), fun M4 e4 v5 e5 => ?_⟩⟩⟩
      subst e5
      have : M4 = sM M cb 10 (tel f (M cb 10) (i + 1)) := by
        rw [e4]
        funext x y
        rw [sMt, sMt, sMt]
        by_cases q : x = cb ∧ y = 10
        · rw [if_pos q, if_pos q]; rfl
        · rw [if_neg q, if_neg q, if_neg q]
      rw [this, nI_1]
      exact ih (i + 1) (by omega)
  have := lp n 0 (by omega)
  have e0 : sM M cb 10 (tel f (M cb 10) 0) = M := by
    funext x y
    rw [sMt]
    by_cases q : x = cb ∧ y = 10
    · rw [if_pos q, q.1, q.2]; rfl
    · rw [if_neg q]
  rw [e0] at this
  exact this
theorem wc_addTo (hS : okS T 200 cb) {mc L : Nat} (h0 : ok T 200 mc 0) (h2 : R mc 2 = mc + 1) (ho : ok T 200 (mc + 1) 100) (hl : (T (mc + 1)).2 = L) (hL : L ≤ 100) (hne : mc + 1 ≠ cb) {f : Nat → Int32} (hf : ∀ i, i < L → M (mc + 1) i = f i) {Q : mM → Prop} (hq : Q (sM M cb 10 (tel f (M cb 10) L))) : w_Side_addToTranscript 200 T R M cb mc Q := by
  refine ⟨hS, h0, ?_⟩
  rw [h2, hl]
  refine ⟨ho, ?_⟩
  have := wc_addBytes (R := R) (M := M) hS ho hl (a := 0) (n := L) (by omega) hL hne (f := f) (fun i hi => by rw [Nat.zero_add]; exact hf i hi) hq
  rw [Nat.zero_add] at this
  exact this
theorem wc_writeInt {mc L : Nat} (h0 : ok T 200 mc 0) (h2 : R mc 2 = mc + 1) (ho : ok T 200 (mc + 1) 100) (hl : (T (mc + 1)).2 = L) (hst : st + 4 ≤ L) (hL : L ≤ 100) {v : Int32} {Q : mM → Prop} (hq : Q (ldO M mc st 4 (fun i => byI v (nI i)))) : w_Msg_writeInt 200 T R M mc (nI st) v Q := by
  refine ⟨h0, 5, ?_⟩
  have lp : ∀ d i, i + d = 4 → w_Msg_writeInt_L2 200 T R Q mc (nI st) v (d + 1) (nI i) (ldO M mc st i (fun i => byI v (nI i))) := by
    intro d
    induction d with
    | zero =>
      intro i hi
      have : i = 4 := by omega
      subst this
      unfold w_Msg_writeInt_L2
      exact ⟨fun _ => hq, fun x => absurd (by decide) x⟩
    | succ d ih =>
      intro i hi
      unfold w_Msg_writeInt_L2
      rw [h2, hl, nI_add, nI_clamp (by omega)]
      refine ⟨fun x => absurd x (nI_ge (b := 4) (by omega) (by decide)), fun _ => ⟨ho, fun x => absurd x (nI_ge (by omega) (by omega)), fun _ => ⟨vp_in_nI (by omega) (by omega), fun M4 e4 v5 e5 => ?_⟩⟩⟩
      have := ldO_s (M := M) (h := mc) (st := st) (i := i) (f := fun i => byI v (nI i))
      subst e5
      have e4' : M4 = ldO M mc st (i + 1) (fun i => byI v (nI i)) := by rw [← this]; exact e4
      rw [e4', nI_1]
      exact ih (i + 1) (by omega)
  have := lp 4 0 (by omega)
  rw [ldO_0] at this
  exact this
theorem wc_writeMixes {mc L : Nat} (h0 : ok T 200 mc 0) (h2 : R mc 2 = mc + 1) (ho : ok T 200 (mc + 1) 100) (hl : (T (mc + 1)).2 = L) (hL : L ≤ 100) {v : Int32} {Q : mM → Prop} (hq : Q (ldO M mc 0 L (fun i => mixI v (nI i) &&& 255))) : w_Msg_writeMixes 200 T R M mc v Q := by
  refine ⟨h0, L + 1, ?_⟩
  have lp : ∀ d i, i + d = L → w_Msg_writeMixes_L2 200 T R Q mc v (d + 1) (nI i) (ldO M mc 0 i (fun i => mixI v (nI i) &&& 255)) := by
    intro d
    induction d with
    | zero =>
      intro i hi
      have : i = L := by omega
      subst this
      unfold w_Msg_writeMixes_L2
      rw [h2, hl]
      exact ⟨ho, fun _ => hq, fun x => absurd (nI_le (Nat.le_refl _) (by omega)) x⟩
    | succ d ih =>
      intro i hi
      unfold w_Msg_writeMixes_L2
      rw [h2, hl, nI_clamp (by omega)]
      refine ⟨ho, fun x => absurd x (nI_ge (by omega) (by omega)), fun _ => wr_mix ⟨vp_in_nI (by omega) (by omega), fun M4 e4 v5 e5 => ?_⟩⟩
      have := ldO_s (M := M) (h := mc) (st := 0) (i := i) (f := fun i => mixI v (nI i) &&& 255)
      rw [Nat.zero_add] at this
      subst e5
      have e4' : M4 = ldO M mc 0 (i + 1) (fun i => mixI v (nI i) &&& 255) := by rw [← this]; exact e4
      rw [e4', nI_1]
      exact ih (i + 1) (by omega)
  have := lp L 0 (by omega)
  rw [ldO_0] at this
  exact this
end TR
