/-! both, new -/
theorem mt_of (u2 : Int32) : ∃ mt : Nat, 8 ≤ mt ∧ mt ≤ 24 ∧ jmax (8 : Int32) (jmin (24 : Int32) u2) = nI mt ∧ (8 ≤ u2 → u2 ≤ 24 → u2 = nI mt) ∧ (8 ≤ u2 → ¬ u2 ≤ 24 → mt = 24) ∧ (¬ 8 ≤ u2 → mt = 8) := by
  by_cases h8 : (8 : Int32) ≤ u2
  · have hp : ¬ u2 < 0 := fun y => absurd (Int32.lt_of_le_of_lt h8 y) (by decide)
    obtain ⟨j, hj, rfl⟩ := nI_of hp
    have j8 : 8 ≤ j := (nI_leI (a := 8) (by decide) hj).mp h8
    by_cases h24 : nI j ≤ 24
    · have j24 : j ≤ 24 := (nI_leI (b := 24) hj (by decide)).mp h24
      refine ⟨j, j8, j24, ?_, fun _ _ => rfl, fun _ y => absurd h24 y, fun y => absurd h8 y⟩
      have z : ∀ j, j < 25 → 8 ≤ j → jmax (8 : Int32) (jmin (24 : Int32) (nI j)) = nI j := by decide +kernel
      exact z j (by omega) j8
    · refine ⟨24, by decide, by decide, ?_, fun _ y => absurd y h24, fun _ _ => rfl, fun y => absurd h8 y⟩
      unfold jmax jmin
      rw [if_neg (fun y => h24 (Int32.le_of_lt y))]
      rfl
  · refine ⟨8, by decide, by decide, ?_, fun y => absurd y h8, fun y => absurd y h8, fun _ => rfl⟩
    have l8 : u2 < 8 := Int32.not_le.mp h8
    unfold jmax jmin
    rw [if_pos (Int32.lt_trans l8 (by decide)), if_neg (fun y => h8 (Int32.le_of_lt y))]
    rfl
theorem side_new {sd : Int32} {mt s nf : Nat} {U V : mM} (hs : s ≤ 1) (u0 : ∀ j, j ≠ 14 → U 0 j = ms (nI s) (nI mt) j) (u1 : U 1 1 = 0) (u4 : ∀ e, U 4 e = 0) (u6 : U 6 1 = 0) (uw : ∀ e, e < 4 → U (8 + 3 * nf + e) = ms (-1) 0) (v12 : V 12 0 = 0) (v13 : V 13 0 = 0) (v14 : ∀ e, e < 4 → V 14 e = 0) (v15 : ∀ e, e < 4 → V 15 e = -1) (v16 : ∀ j, j < 64 → V 16 j = -1) (v17 : V 17 0 = 0) (v20 : V 20 0 = -1) (v21 : V 21 0 = 0) (v34 : V 34 0 = 0) : SideRel sd mt 0 s nf 0 U V := by
  have z : ∀ j, 2 ≤ j → j ≠ 14 → U 0 j = 0 := fun j h1 h2 => by
    rw [u0 j h2]; unfold ms; rw [if_neg (by omega), if_neg (by omega)]
  refine ⟨⟨by rw [u0 0 (by decide)]; rfl, by rw [u0 1 (by decide)]; rfl⟩, ⟨0, 0, ?_, z 9 (by decide) (by decide), v12, v13, z 10 (by decide) (by decide), ?_, ?_⟩, fun e he => ⟨0, Nat.le_refl _, u4 e, v14 e he⟩, ⟨0, by decide, z 8 (by decide) (by decide), v34, fun i hi => absurd hi (Nat.not_lt_zero i)⟩, ⟨0, by decide, u1, v17, fun i hi => absurd hi (Nat.not_lt_zero i)⟩, Or.inl ⟨z 13 (by decide) (by decide), v20⟩, fun e he => ?_, ⟨0, Nat.zero_le _, u6, v21, fun y => absurd y (Nat.lt_irrefl 0)⟩⟩
  · unfold stOK
    by_cases y : s = 0
    · rw [if_pos y]; exact Or.inl ⟨rfl, rfl⟩
    · rw [if_neg y]; exact Or.inl ⟨rfl, rfl⟩
  · rw [z 11 (by decide) (by decide)]
    rcases (show s = 0 ∨ s = 1 by omega) with rfl | rfl <;> rfl
  · rw [z 12 (by decide) (by decide)]
    rcases (show s = 0 ∨ s = 1 by omega) with rfl | rfl <;> rfl
  · rw [uw e he, v15 e he]
    exact ⟨rfl, Or.inl ⟨rfl, rfl, fun j hj => v16 _ (by omega)⟩⟩
theorem sim_new : ∀ (u1 u2 : Int32) (T : mT) (R : mR) (M : mM) (T2 : mT) (R2 : mR) (M2 : mM), w_X_init 1 (sT T 1 (10, 0)) (zR R 1) (zM M 1) 1 u1 u2 (fun n T R M => n = 200 ∧ w_Mo_init 1 (sT T2 1 (11, 0)) (zR R2 1) (zM M2 1) 1 u1 u2 (fun n2 T2 R2 M2 => n2 = 34 ∧ Sim 0 T R M T2 R2 M2)) := by
  intro sd u2 T R M T2 R2 M2
  obtain ⟨mt, k8, k24, kj, q1, q2, q3⟩ := mt_of u2
  have pl := plS_b sd
  refine wc_newI (sd := sd) (mt := mt) (fun k h1 h2 => ?_) zR_e zM_e kj (fun T1 R1 M1 a1 a2 a3 => ⟨rfl, ?_⟩)
  · rw [show k = 1 by omega]; exact if_pos rfl
  refine wm_newI (sd := sd) (mt := mt) (if_pos rfl) zM_e q1 q2 q3 (fun T3 R3 M3 b1 b2 b3 b4 b5 b6 => ⟨rfl, by decide, sd, mt, 0, Nat.le_refl _, ⟨a1, fun k j h1 h2 h3 h4 => ?_⟩, b1, ⟨k8, k24, by decide, by decide⟩, b2.2.2.2.2.2.2.2 7 (by decide), ⟨b2.1, b2.2.1, b2.2.2.1, b2.2.2.2.1, b2.2.2.2.2.1, b2.2.2.2.2.2.1, b2.2.2.2.2.2.2.1⟩, ?_, ?_, ?_, ?_, ?_⟩)
  · rw [a2 k (by omega) h2]
    unfold RC0
    rw [if_neg h3, if_neg h4]
  · -- the net
    have r3 : ∀ i, i < 60 → R1 3 i = 8 + 2 * i := fun i hi => by rw [a2 3 (by decide) (by decide)]; exact if_pos hi
    have r2 : R1 2 1 = 4 := by rw [a2 2 (by decide) (by decide)]; rfl
    have m2 : ∀ j, M1 2 j = 0 := fun j => by rw [a3 2 (by decide) (by decide)]; rfl
    refine ⟨⟨fun i hi => ?_, ?_, fun i j hi hj h => ?_, fun i hi => ?_⟩, ?_, 0, by decide, ?_, ?_, fun i hi => absurd hi (Nat.not_lt_zero i)⟩
    · rw [r3 i hi]; exact ⟨⟨by omega, by omega, by omega⟩, by omega⟩
    · rw [r2]; exact ⟨⟨by decide, by decide, by decide⟩, by decide⟩
    · rw [r3 i hi, r3 j hj] at h; omega
    · rw [r3 i hi, r2]; omega
    · rw [nw_at (by decide), nv_at (by decide), m2, b2.2.2.2.2.2.2.2 9 (by decide)]
    · rw [nw_at (by decide), m2]; rfl
    · rw [nv_at (by decide), b2.2.2.2.2.2.2.2 8 (by decide)]; rfl
  · -- the client
    have u : ∀ i, i < 24 → uw M1 128 24 i = MC sd mt (128 + i) := fun i hi => by
      funext j
      rw [uw_at hi, a3 (128 + i) (by omega) (by omega)]
    have v : ∀ a j, j < stA a → vw M3 0 a j = M3 a j := fun a j hj => by rw [vw_at hj, Nat.mul_zero, Nat.zero_add]
    have v0 : ∀ a, 12 ≤ a → a ≤ 34 → a ≠ 15 → a ≠ 16 → a ≠ 20 → ∀ j, j < stA a → vw M3 0 a j = 0 := fun a h1 h2 h3 h4 h5 j hj => by rw [v a j hj, b3 a (by omega) h2 h3 h4 h5]
    refine side_new (by decide) (fun j hj => ?_) (by rw [u 1 (by decide)]; rfl) (fun e => by rw [u 4 (by decide)]; rfl) (by rw [u 6 (by decide)]; rfl) (fun e he => ?_) (v0 12 (by decide) (by decide) (by decide) (by decide) (by decide) 0 (by decide)) (v0 13 (by decide) (by decide) (by decide) (by decide) (by decide) 0 (by decide)) (fun e he => v0 14 (by decide) (by decide) (by decide) (by decide) (by decide) e he) (fun e he => by rw [v 15 e he]; exact b4 e (by omega)) (fun j hj => by rw [v 16 j hj]; exact b5 j (by omega)) (v0 17 (by decide) (by decide) (by decide) (by decide) (by decide) 0 (by decide)) (by rw [v 20 0 (by decide)]; exact b6 0 (by decide)) (v0 21 (by decide) (by decide) (by decide) (by decide) (by decide) 0 (by decide)) (v0 34 (by decide) (by decide) (by decide) (by decide) (by decide) 0 (by decide))
    · rw [u 0 (by decide)]
      show (if j = 14 then _ else _) = _
      rw [if_neg hj]; rfl
    · rw [u _ (by omega)]
      rcases (show e = 0 ∨ e = 1 ∨ e = 2 ∨ e = 3 by omega) with rfl | rfl | rfl | rfl <;> (funext j; rfl)
  · -- the server
    have u : ∀ i, i < 49 → uw M1 152 49 i = MC sd mt (152 + i) := fun i hi => by
      funext j
      rw [uw_at hi, a3 (152 + i) (by omega) (by omega)]
    have v : ∀ a j, j < stA a → vw M3 1 a j = M3 a (stA a + j) := fun a j hj => by rw [vw_at hj, Nat.mul_one]
    have v0 : ∀ a, 12 ≤ a → a ≤ 34 → a ≠ 15 → a ≠ 16 → a ≠ 20 → ∀ j, j < stA a → vw M3 1 a j = 0 := fun a h1 h2 h3 h4 h5 j hj => by rw [v a j hj, b3 a (by omega) h2 h3 h4 h5]
    refine side_new (Nat.le_refl 1) (fun j hj => ?_) (by rw [u 1 (by decide)]; rfl) (fun e => by rw [u 4 (by decide)]; rfl) (by rw [u 6 (by decide)]; rfl) (fun e he => ?_) (v0 12 (by decide) (by decide) (by decide) (by decide) (by decide) 0 (by decide)) (v0 13 (by decide) (by decide) (by decide) (by decide) (by decide) 0 (by decide)) (fun e he => v0 14 (by decide) (by decide) (by decide) (by decide) (by decide) e he) (fun e he => by rw [v 15 e he]; exact b4 (4 + e) (by omega)) (fun j hj => by rw [v 16 j hj]; exact b5 (64 + j) (by omega)) (v0 17 (by decide) (by decide) (by decide) (by decide) (by decide) 0 (by decide)) (by rw [v 20 0 (by decide)]; exact b6 1 (by decide)) (v0 21 (by decide) (by decide) (by decide) (by decide) (by decide) 0 (by decide)) (v0 34 (by decide) (by decide) (by decide) (by decide) (by decide) 0 (by decide))
    · rw [u 0 (by decide)]
      show (if j = 14 then _ else _) = _
      rw [if_neg hj]; rfl
    · rw [u _ (by omega)]
      rcases (show e = 0 ∨ e = 1 ∨ e = 2 ∨ e = 3 by omega) with rfl | rfl | rfl | rfl <;> (funext j; rfl)
  · have u : ∀ i, i < 24 → uw M1 128 24 i = MC sd mt (128 + i) := fun i hi => by
      funext j
      rw [uw_at hi, a3 (128 + i) (by omega) (by omega)]
    have z32 : ∀ j, M3 32 j = 0 := fun j => by rw [b3 32 (by decide) (by decide) (by decide) (by decide) (by decide)]
    refine ⟨⟨0, by decide, ?_, ?_, fun m hm => ?_, fun p i h3 h6 hi => Or.inr ⟨z32 _, ?_⟩, fun p i _ _ _ _ => z32 _⟩, by rw [u 0 (by decide)]; rfl, by rw [u 15 (by decide)]; exact ⟨rfl, rfl⟩, by rw [u 17 (by decide)]; exact ⟨rfl, rfl⟩, by rw [u 19 (by decide)]; exact ⟨rfl, rfl⟩, fun j _ _ => by rw [u 16 (by decide)]; rfl⟩
    · rw [vw_at (by decide), b3 13 (by decide) (by decide) (by decide) (by decide) (by decide)]; rfl
    · rw [u 21 (by decide)]; rfl
    · rw [u 22 (by decide)]
      show (if m < 6 then nI (asmS sd m) else 0) = _
      rw [if_pos hm]
    · rw [u 23 (by decide)]
      show (if asmS sd (p - 2) + i < 14 + plS sd then (-1 : Int32) else 0) = -1
      obtain ⟨n1, n2⟩ := asmS_next (sd := sd) h3 h6
      rw [if_pos (by omega)]
  · have u : ∀ i, i < 49 → uw M1 152 49 i = MC sd mt (152 + i) := fun i hi => by
      funext j
      rw [uw_at hi, a3 (152 + i) (by omega) (by omega)]
    refine ⟨by rw [u 0 (by decide)]; rfl, by rw [u 39 (by decide)]; exact ⟨rfl, rfl⟩, by rw [u 41 (by decide)]; exact ⟨rfl, rfl⟩, by rw [u 43 (by decide)]; exact ⟨rfl, rfl⟩, by rw [u 47 (by decide)]; exact ⟨rfl, rfl⟩, by rw [u 45 (by decide)]; exact ⟨rfl, rfl⟩, by rw [u 0 (by decide)]; rfl, fun _ => by rw [u 6 (by decide)]; rfl, fun _ => by rw [u 35 (by decide)]; rfl⟩
