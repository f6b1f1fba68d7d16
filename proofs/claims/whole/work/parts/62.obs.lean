/-! calls that only look -/
theorem SimP.mono {sd : Int32} {mt k c c' : Nat} {R : mR} {M M2 : mM} (hc : c ≤ c') (hb : c' ≤ 8208) (h : SimP sd mt k c R M M2) : SimP sd mt k c' R M M2 := by
  obtain ⟨⟨h1, h2, h3, h4⟩, hk, hcon, ⟨hr, hl, m, hm, hu, hv, hrec⟩, hs0, hs1, hcl, hsv⟩ := h
  have nm : ∀ {n e x : Int32}, nameR c n e x → nameR c' n e x := fun ⟨a, b, q1, q2⟩ => ⟨a, b, Nat.le_trans q1 hc, q2⟩
  have sr : ∀ {s nf : Nat} {U V : mM}, SideRel sd mt c s nf k U V → SideRel sd mt c' s nf k U V := by
    intro s nf U V ⟨a1, a2, a3, a4, ⟨q, b1, b2, b3, b4⟩, a6, a7, ⟨f, d1, d2, d3, d4⟩⟩
    refine ⟨a1, a2, fun e he => ?_, a4, ⟨q, b1, b2, b3, fun j hj => nm (b4 j hj)⟩, a6, fun e he => ?_, ⟨f, d1, d2, d3, fun hf => ?_⟩⟩
    · obtain ⟨a, q1, q2⟩ := a3 e he
      exact ⟨a, Nat.le_trans q1 hc, q2⟩
    · obtain ⟨w1, w2⟩ := a7 e he
      refine ⟨w1, ?_⟩
      rcases w2 with w2 | ⟨a, q1, q2⟩
      · exact Or.inl w2
      · exact Or.inr ⟨a, Nat.le_trans q1 hc, q2⟩
    · obtain ⟨ag, tm, w, e1, e2, e3, e4, e5, e6, e7, e8, e9, e10, e11⟩ := d4 hf
      refine ⟨ag, tm, w, e1, e2, e3, e4, e5, e6, e7, e8, e9, fun t ht => ?_, e11⟩
      obtain ⟨j, x, y, q1, q2, q3⟩ := e10 t ht
      exact ⟨j, x, y, q1, Nat.le_trans q2 hc, q3⟩
  refine ⟨⟨h1, h2, h3, hb⟩, hk, hcon, ⟨hr, hl, m, hm, hu, hv, fun i hi => ?_⟩, sr hs0, sr hs1, hcl, hsv⟩
  obtain ⟨g1, g2, g3, ⟨a, g4, g5⟩, g6⟩ := hrec i hi
  refine ⟨g1, g2, g3, ⟨a, Nat.le_trans g4 hc, g5⟩, ?_⟩
  rcases g6 with g | ⟨q1, q2, z, q3, q4, q5, q6⟩ | g
  · exact Or.inl g
  · exact Or.inr (Or.inl ⟨q1, q2, z, q3, q4, q5, fun j hj => nm (q6 j hj)⟩)
  · exact Or.inr (Or.inr g)
theorem Sim.next {c : Nat} {T : mT} {R : mR} {M : mM} {T2 : mT} {R2 : mR} {M2 : mM} (hc : c < 512) (h : Sim c T R M T2 R2 M2) : Sim (c + 1) T R M T2 R2 M2 := by
  obtain ⟨h0, sd, mt, k, hk, hL, hM, hP⟩ := h
  exact ⟨by omega, sd, mt, k, by omega, hL, hM, hP.mono (by omega) (by omega)⟩
theorem sim_none : ∀ (c : Nat) (T : mT) (R : mR) (M : mM) (T2 : mT) (R2 : mR) (M2 : mM), c < 512 → Sim c T R M T2 R2 M2 → Sim (c + 1) T R M T2 R2 M2 := fun _ _ _ _ _ _ _ hc h => h.next hc
section OB
variable {sd : Int32} {c : Nat} {T : mT} {R : mR} {M : mM} {T2 : mT} {R2 : mR} {M2 : mM}
/-- the objects at the top -/
theorem top1 (h : LC sd T R) : ok T 200 1 10 ∧ R 1 0 = 2 ∧ R 1 1 = 128 ∧ R 1 2 = 152 ∧ ok T 200 2 4 ∧ ok T 200 128 8 ∧ ok T 200 152 9 ∧ R 2 0 = 3 ∧ ok T 200 3 102 ∧ (T 3).2 = 60 ∧ R 2 2 = 6 :=
  ⟨h.tk (by decide) (by decide) rfl, h.rf (by decide) (by decide) (by decide) (by decide) rfl, h.rf (by decide) (by decide) (by decide) (by decide) rfl, h.rf (by decide) (by decide) (by decide) (by decide) rfl, h.tk (by decide) (by decide) rfl, h.tk (by decide) (by decide) rfl, h.tk (by decide) (by decide) rfl, h.rf (by decide) (by decide) (by decide) (by decide) rfl, h.tk (by decide) (by decide) rfl, h.len (by decide) (by decide), h.rf (by decide) (by decide) (by decide) (by decide) rfl⟩
/-- the net's counts as both hold them -/
theorem cnt_eq {mt k : Nat} (h : SimP sd mt k c R M M2) : ∃ m : Nat, m ≤ 60 ∧ M 2 3 = nI m ∧ M2 1 8 = nI m ∧ M 2 4 = M2 1 9 ∧ rowsOK R ∧ ∀ i, i < m → recR sd c (nw M) (nv M2) (R 3 i) i := by
  obtain ⟨-, -, -, ⟨hr, hl, m, hm, hu, hv, hrec⟩, -⟩ := h
  rw [nw_at (by decide)] at hu hl
  rw [nv_at (by decide)] at hv hl
  exact ⟨m, hm, hu, hv, hl, hr, hrec⟩
theorem sim_waiting : ∀ (c : Nat) (T : mT) (R : mR) (M : mM) (T2 : mT) (R2 : mR) (M2 : mM) , c < 512 → Sim c T R M T2 R2 M2 → w_X_waiting 200 T R M 1  (fun r  => w_Mo_waiting 34 T2 R2 M2 1  (fun r2  => r = r2 ∧ Sim (c + 1) T R M T2 R2 M2)) := by
  intro c T R M T2 R2 M2 hc h
  have hn := h.next hc
  obtain ⟨h0, sd, mt, k, hk, hL, hM, hP⟩ := h
  obtain ⟨t1, t2, t3, t4, t5, t6, t7, t8, t9, t10, t11⟩ := top1 hL
  obtain ⟨m, hm, e1, e2, e3, hrow, hrec⟩ := cnt_eq hP
  refine ⟨t1, ?_⟩
  rw [t2]
  exact ⟨t5, hM.ok1, by rw [e1, e2], hn⟩
theorem sim_lost : ∀ (c : Nat) (T : mT) (R : mR) (M : mM) (T2 : mT) (R2 : mR) (M2 : mM) , c < 512 → Sim c T R M T2 R2 M2 → w_X_lost 200 T R M 1  (fun r  => w_Mo_lost 34 T2 R2 M2 1  (fun r2  => r = r2 ∧ Sim (c + 1) T R M T2 R2 M2)) := by
  intro c T R M T2 R2 M2 hc h
  have hn := h.next hc
  obtain ⟨h0, sd, mt, k, hk, hL, hM, hP⟩ := h
  obtain ⟨t1, t2, t3, t4, t5, t6, t7, t8, t9, t10, t11⟩ := top1 hL
  obtain ⟨m, hm, e1, e2, e3, hrow, hrec⟩ := cnt_eq hP
  refine ⟨t1, ?_⟩
  rw [t2]
  exact ⟨t5, hM.ok1, by rw [e3], hn⟩
/-- a place in the net, or none: both ask alike -/
theorem has_w {m : Nat} (hm : m ≤ 60) (t5 : ok T 200 2 4) (e1 : M 2 3 = nI m) {u : Int32} {Q : Int32 → Prop} (h0 : (¬ ∃ i, i < m ∧ u = nI i) → Q 0) (h1 : ∀ i, i < m → u = nI i → Q 1) : w_Net_has 200 T R M 2 u Q := by
  refine ⟨t5, fun hc => h0 ?_, fun hc => ⟨fun hd => h0 ?_, fun hd => ?_⟩⟩
  · rintro ⟨i, hi, rfl⟩; exact nI_pos (by omega) hc
  · rintro ⟨i, hi, rfl⟩; rw [e1] at hd; exact nI_ge hi (by omega) hd
  · rw [e1] at hd
    obtain ⟨j, hj, rfl⟩ := nI_of hc
    exact h1 j (Nat.not_le.mp fun q => hd (nI_le q hj)) rfl
theorem isrec_w {m : Nat} (hm : m ≤ 60) (hM : LM T2 R2) (e2 : M2 1 8 = nI m) {u : Int32} {Q : Int32 → Prop} (h0 : (¬ ∃ i, i < m ∧ u = nI i) → Q 0) (h1 : ∀ i, i < m → u = nI i → Q 1) : w_Mo_isRecord 34 T2 R2 M2 1 u Q := by
  refine ⟨hM.ok1, fun hc => h0 ?_, fun hc => ⟨fun hd => h0 ?_, fun hd => ?_⟩⟩
  · rintro ⟨i, hi, rfl⟩; exact nI_pos (by omega) hc
  · rintro ⟨i, hi, rfl⟩; rw [e2] at hd; exact nI_ge hi (by omega) hd
  · rw [e2] at hd
    obtain ⟨j, hj, rfl⟩ := nI_of hc
    exact h1 j (Nat.not_le.mp fun q => hd (nI_le q hj)) rfl
end OB
