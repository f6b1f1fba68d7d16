/-! what a delivered record leaves: letting in, data, the client's DONE at the server -/
def FinR (sd : Int32) (mt k c s cb nf w : Nat) (U' V' : mM) (hs : Nat → Int32) (dl : Int32) (R : mR) (M M2 : mM) : Prop := ∃ (U1 V1 : mM) (hs1 : Nat → Int32), NS sd mt k c s cb w U1 V1 U' V' hs1 dl R M M2 ∧ SideRel sd mt c s nf k U1 V1 ∧ extR sd s U1 V1 hs1 ∧ (s = 1 → hs1 = hs)
section FN
variable {sd : Int32} {mt k c c' s cb nf w m i e n : Nat} {U V U' V' : mM} {hs : Nat → Int32} {dl : Int32} {T T2 : mT} {R R2 : mR} {M M2 : mM}
theorem NS.fin (h : NS sd mt k c s cb w U V U' V' hs dl R M M2) (hS : SideRel sd mt c s nf k U V) (he : extR sd s U V hs) (hc : c ≤ c') (hb : c' ≤ 8208) : FinR sd mt k c' s cb nf w U' V' hs dl R M M2 := ⟨U, V, hs, h.mono hc hb, hS.mono hc, he, fun _ => rfl⟩
theorem FinR.sim (hsd : isSd s cb nf w) (h : FinR sd mt k c s cb nf w U' V' hs dl R M M2) (ho : othR sd mt c s k U' V' hs) : SimP sd mt k c R M M2 := by
  obtain ⟨U1, V1, hs1, h1, h2, h3, h4⟩ := h
  refine h1.sim hsd h2 h3 ⟨ho.1, ?_⟩
  have h5 := ho.2
  rcases hsd with ⟨rfl, rfl, rfl, rfl⟩ | ⟨rfl, rfl, rfl, rfl⟩
  · exact h5
  · rw [h4 rfl]; exact h5
theorem SideRel.letd {a b x : Int32} {j : Nat} (h : SideRel sd mt c s nf k U V) (hw : winsR c nf (sM (sM U (8 + 3 * nf + e) 1 a) (8 + 3 * nf + e) 0 b) (sM (sM V 15 e b) 16 j x)) : SideRel sd mt c s nf k (sM (sM U (8 + 3 * nf + e) 1 a) (8 + 3 * nf + e) 0 b) (sM (sM V 15 e b) 16 j x) := by
  obtain ⟨a1, a2, a3, a4, a5, a6, a7, a8⟩ := h
  have u : ∀ i, i < 8 + 3 * nf → sM (sM U (8 + 3 * nf + e) 1 a) (8 + 3 * nf + e) 0 b i = U i := fun i hi => by rw [sM_k i (by omega), sM_k i (by omega)]
  have v : ∀ i, i ≠ 15 → i ≠ 16 → sM (sM V 15 e b) 16 j x i = V i := fun i h1 h2 => by rw [sM_k i h2, sM_k i h1]
  have u0 := u 0 (by omega)
  exact ⟨by rw [u0]; exact a1, a2.cg (by rw [u0]) (by rw [u0]) (by rw [u0]) (by rw [u0]) (v 12 (by decide) (by decide)) (v 13 (by decide) (by decide)), a3.cg (Nat.le_refl _) (u 4 (by omega)) (v 14 (by decide) (by decide)), a4.cg (by rw [u0]) (u 5 (by omega)) (v 33 (by decide) (by decide)) (v 34 (by decide) (by decide)), a5.cg (Nat.le_refl _) (by rw [u 1 (by omega)]) (u 2 (by omega)) (v 17 (by decide) (by decide)) (v 18 (by decide) (by decide)) (v 19 (by decide) (by decide)), a6.cg (by rw [u0]) (v 20 (by decide) (by decide)), hw, a8.cg (Nat.le_refl _) (u 6 (by omega)) (fun i _ h2 => u i h2) (fun a h1 h2 => v a (by omega) (by omega))⟩
theorem extR.letd {a b x : Int32} {j : Nat} (hsd : isSd s cb nf w) (he : e < 4) (h : extR sd s U V hs) (hx : s = 1 → U 0 9 ≠ 0) : extR sd s (sM (sM U (8 + 3 * nf + e) 1 a) (8 + 3 * nf + e) 0 b) (sM (sM V 15 e b) 16 j x) hs := by
  have u : ∀ i, i < 8 + 3 * nf ∨ 12 + 3 * nf ≤ i → sM (sM U (8 + 3 * nf + e) 1 a) (8 + 3 * nf + e) 0 b i = U i := fun i hi => by rw [sM_k i (by omega), sM_k i (by omega)]
  have v13 : sM (sM V 15 e b) 16 j x 13 = V 13 := by rw [sM_k 13 (by decide), sM_k 13 (by decide)]
  unfold extR at h ⊢
  rcases hsd with ⟨rfl, rfl, rfl, rfl⟩ | ⟨rfl, rfl, rfl, rfl⟩
  · exact cliR.cg h v13 (by rw [u 0 (by omega)]) (fun i x1 x2 => u i (by omega)) rfl
  · have h : srvR sd U := h
    show srvR sd _
    unfold srvR at h ⊢
    rw [u 0 (by decide), u 6 (by decide), u 39 (by decide), u 41 (by decide), u 43 (by decide), u 45 (by decide), u 47 (by decide)]
    obtain ⟨b1, b2, b3, b4, b5, b6, b7, b8, b9⟩ := h
    exact ⟨b1, b2, b3, b4, b5, b6, b7, b8, fun y => absurd y (hx rfl)⟩
/-- a datum is kept by both -/
theorem val_act (hsd : isSd s cb nf w) (hL : LC sd T R) (hM : LM T2 R2) (h : NS sd mt k c s cb w U V U' V' hs dl R M M2) (hS : SideRel sd mt c s nf k U V) (he : extR sd s U V hs) (hc : c ≤ c') (hb : c' ≤ 8208) {x : Int32} {K : mM → Prop}
    (hK : ∀ M' M2', (∀ Q' : Int32 → mM → Prop, Q' 1 M2' → w_Mo_deliver_B230 34 T2 R2 Q' 1 (nI s) 2 x M2) → FinR sd mt k c' s cb nf w U' V' hs dl R M' M2' → K M') : w_Side_keepValue 200 T R M cb x K := by
  have hl := hsd.le
  obtain ⟨v, hv, v1, v2, v3⟩ := hS.2.2.2.1
  have e8 : M cb 8 = nI v := (h.u0 hsd).trans v1
  have e34 : M2 34 s = nI v := (stA1_v h rfl).trans v2
  refine wc_keep (hL.sid hsd) hv e8 (fun hlt => ?_) (fun heq => ?_)
  · have hA := (((h.setU hsd (i := 5) (j := v) (x := x) (by omega)).upd0 hsd (j := 8) (x := nI (v + 1))).setV hsd (a := 33) (j := v) (x := x) (by show v < 60; exact hlt)).setV1 hsd (a := 34) (x := nI (v + 1)) rfl
    have hA' : NS sd mt k c s cb w (sM (sM U 5 v x) 0 8 (nI (v + 1))) (sM (sM V 33 v x) 34 0 (nI (v + 1))) U' V' hs dl R (sM (sM M (cb + 5) v x) cb 8 (nI (v + 1))) (sM (sM M2 33 (60 * s + v) x) 34 s (nI (v + 1))) := hA
    clear hA
    refine hK _ _ (fun Q' hq => wm_B230 hM hl.1 hv e34 (fun _ => hq) (fun y => absurd y (by omega))) (hA'.fin ?_ ?_ hc hb)
    · have u : ∀ i, i ≠ 0 → i ≠ 5 → sM (sM U 5 v x) 0 8 (nI (v + 1)) i = U i := fun i h1 h2 => by rw [sM_k i h1, sM_k i h2]
      have u0 : ∀ j, j ≠ 8 → sM (sM U 5 v x) 0 8 (nI (v + 1)) 0 j = U 0 j := fun j h1 => by rw [sM_j j h1, sM_k 0 (by decide)]
      have w' : ∀ a, a ≠ 33 → a ≠ 34 → sM (sM V 33 v x) 34 0 (nI (v + 1)) a = V a := fun a h1 h2 => by rw [sM_k a h2, sM_k a h1]
      obtain ⟨a1, a2, a3, a4, a5, a6, a7, a8⟩ := hS
      exact ⟨by rw [u0 0 (by decide), u0 1 (by decide)]; exact a1, a2.cg (u0 9 (by decide)) (u0 10 (by decide)) (u0 11 (by decide)) (u0 12 (by decide)) (w' 12 (by decide) (by decide)) (w' 13 (by decide) (by decide)), a3.cg (Nat.le_refl _) (u 4 (by decide) (by decide)) (w' 14 (by decide) (by decide)), a4.add hlt v1, a5.cg (Nat.le_refl _) (by rw [u 1 (by decide) (by decide)]) (u 2 (by decide) (by decide)) (w' 17 (by decide) (by decide)) (w' 18 (by decide) (by decide)) (w' 19 (by decide) (by decide)), a6.cg (u0 13 (by decide)) (w' 20 (by decide) (by decide)), a7.cg (Nat.le_refl _) (fun e' _ => u _ (by omega) (by omega)) (w' 15 (by decide) (by decide)) (w' 16 (by decide) (by decide)), a8.cg (Nat.le_refl _) (u 6 (by decide) (by decide)) (fun i h1 h2 => u i (by omega) (by omega)) (fun a h1 h2 => w' a (by omega) (by omega))⟩
    · refine he.fr hsd (by rw [sM_j 14 (by decide), sM_k 0 (by decide)]) (fun i hi => by rw [sM_k i (by omega), sM_k i (by omega)]) (by rw [sM_k 13 (by decide), sM_k 13 (by decide)]) (fun _ => by rw [sM_k 35 (by decide), sM_k 35 (by decide)]) (fun y => ⟨?_, Or.inl ⟨?_, ?_⟩⟩)
      · rw [sM_j 13 (by decide), sM_k 0 (by decide)]
        subst y
        have : srvR sd U := he
        exact this.2.2.2.2.2.2.1
      · rw [sM_j 9 (by decide), sM_k 0 (by decide)]
      · rw [sM_k 6 (by decide), sM_k 6 (by decide)]
  · exact hK M M2 (fun Q' hq => wm_B230 hM hl.1 hv e34 (fun y => absurd y (by omega)) (fun _ => hq)) (h.fin hS he hc hb)
end FN
