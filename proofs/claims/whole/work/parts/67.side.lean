/-! a side's layout, both alike; open -/
def LSd (T : mT) (R : mR) (cb nf : Nat) : Prop := okS T 200 cb ∧ (R cb 2 = 2 ∧ R cb 3 = cb + 6 ∧ R cb 4 = cb + 1 ∧ R cb 5 = cb + 3 ∧ R cb 6 = cb + 4 ∧ R cb 7 = cb + 5) ∧ (ok T 200 (cb + 1) 6 ∧ R (cb + 1) 0 = cb + 2 ∧ ok T 200 (cb + 2) 100 ∧ (T (cb + 2)).2 = 8) ∧ (ok T 200 (cb + 3) 104 ∧ (T (cb + 3)).2 = 4 ∧ ∀ e, e < 4 → R (cb + 3) e = cb + (8 + 3 * nf + e) ∧ ok T 200 (cb + (8 + 3 * nf + e)) 5) ∧ (ok T 200 (cb + 4) 100 ∧ (T (cb + 4)).2 = 4) ∧ (ok T 200 (cb + 5) 100 ∧ (T (cb + 5)).2 = 60) ∧ (ok T 200 (cb + 6) 2 ∧ R (cb + 6) 0 = cb + 7 ∧ ok T 200 (cb + 7) 103 ∧ (T (cb + 7)).2 = nf) ∧
  (∀ k, k < nf → R (cb + 7) k = cb + (8 + 3 * k) ∧ ok T 200 (cb + (8 + 3 * k)) 1 ∧ R (cb + (8 + 3 * k)) 0 = cb + (9 + 3 * k) ∧ R (cb + (8 + 3 * k)) 1 = cb + (10 + 3 * k) ∧ ok T 200 (cb + (9 + 3 * k)) 100 ∧ (T (cb + (9 + 3 * k))).2 = 24 ∧ ok T 200 (cb + (10 + 3 * k)) 100 ∧ (T (cb + (10 + 3 * k))).2 = 7) ∧ (128 ≤ cb ∧ cb + (12 + 3 * nf) ≤ 200 ∧ 1 ≤ nf ∧ nf ≤ 9)
theorem LC.sC {sd : Int32} {T : mT} {R : mR} (hL : LC sd T R) : LSd T R 128 1 := by
  refine ⟨Or.inl hL.o_128, ⟨hL.r_128_2, hL.r_128_3, hL.r_128_4, hL.r_128_5, hL.r_128_6, hL.r_128_7⟩, ⟨hL.o_129, hL.r_129_0, hL.o_130, hL.l_130⟩, ⟨hL.o_131, hL.l_131, fun e he => ?_⟩, ⟨hL.o_132, hL.l_132⟩, ⟨hL.o_133, hL.l_133⟩, ⟨hL.o_134, hL.r_134_0, hL.o_135, hL.l_135⟩, fun k hk => ?_, by decide⟩
  · rcases (show e = 0 ∨ e = 1 ∨ e = 2 ∨ e = 3 by omega) with rfl | rfl | rfl | rfl
    · exact ⟨hL.r_131_0, hL.o_139⟩
    · exact ⟨hL.r_131_1, hL.o_140⟩
    · exact ⟨hL.r_131_2, hL.o_141⟩
    · exact ⟨hL.r_131_3, hL.o_142⟩
  · have : k = 0 := by omega
    subst this
    exact ⟨hL.r_135_0, hL.o_136, hL.r_136_0, hL.r_136_1, hL.o_137, hL.l_137, hL.o_138, hL.l_138⟩
theorem LC.sS {sd : Int32} {T : mT} {R : mR} (hL : LC sd T R) : LSd T R 152 9 := by
  refine ⟨Or.inr hL.o_152, ⟨hL.r_152_2, hL.r_152_3, hL.r_152_4, hL.r_152_5, hL.r_152_6, hL.r_152_7⟩, ⟨hL.o_153, hL.r_153_0, hL.o_154, hL.l_154⟩, ⟨hL.o_155, hL.l_155, fun e he => ?_⟩, ⟨hL.o_156, hL.l_156⟩, ⟨hL.o_157, hL.l_157⟩, ⟨hL.o_158, hL.r_158_0, hL.o_159, hL.l_159⟩, fun k hk => ?_, by decide⟩
  · rcases (show e = 0 ∨ e = 1 ∨ e = 2 ∨ e = 3 by omega) with rfl | rfl | rfl | rfl
    · exact ⟨hL.r_155_0, hL.o_187⟩
    · exact ⟨hL.r_155_1, hL.o_188⟩
    · exact ⟨hL.r_155_2, hL.o_189⟩
    · exact ⟨hL.r_155_3, hL.o_190⟩
  · have key : ∀ k, k < 9 → RC 159 k = 152 + (8 + 3 * k) ∧ RC (152 + (8 + 3 * k)) 0 = 152 + (9 + 3 * k) ∧ RC (152 + (8 + 3 * k)) 1 = 152 + (10 + 3 * k) := by decide +kernel
    have key2 : TC (plS sd) (152 + (8 + 3 * k)) = (1, 0) ∧ TC (plS sd) (152 + (9 + 3 * k)) = (100, 24) ∧ TC (plS sd) (152 + (10 + 3 * k)) = (100, 7) := by
      rcases (show k = 0 ∨ k = 1 ∨ k = 2 ∨ k = 3 ∨ k = 4 ∨ k = 5 ∨ k = 6 ∨ k = 7 ∨ k = 8 by omega) with rfl | rfl | rfl | rfl | rfl | rfl | rfl | rfl | rfl <;> exact ⟨rfl, rfl, rfl⟩
    obtain ⟨a1, a2, a3⟩ := key k hk
    obtain ⟨b1, b2, b3⟩ := key2
    exact ⟨hL.rf (by decide) (by decide) (by decide) (by omega) a1, hL.tk (by omega) (by omega) (by rw [b1]), hL.rf (by omega) (by omega) (by omega) (by omega) a2, hL.rf (by omega) (by omega) (by omega) (by omega) a3, hL.tk (by omega) (by omega) (by rw [b2]), by rw [hL.len (by omega) (by omega), b2], hL.tk (by omega) (by omega) (by rw [b3]), by rw [hL.len (by omega) (by omega), b3]⟩
/-- how many of f 0, .., f (n - 1) aren't 0 -/
def cnt (f : Nat → Int32) : Nat → Nat
  | 0 => 0
  | i + 1 => cnt f i + (if f i = 0 then 0 else 1)
theorem cnt_le (f : Nat → Int32) (n : Nat) : cnt f n ≤ n := by
  induction n with
  | zero => exact Nat.le_refl _
  | succ n ih => unfold cnt; split <;> omega
theorem cnt_congr {f g : Nat → Int32} {n : Nat} (h : ∀ i, i < n → (f i = 0 ↔ g i = 0)) : cnt f n = cnt g n := by
  induction n with
  | zero => rfl
  | succ n ih =>
    unfold cnt
    rw [ih (fun i hi => h i (by omega))]
    by_cases q : f n = 0
    · rw [if_pos q, if_pos ((h n (by omega)).mp q)]
    · rw [if_neg q, if_neg (fun z => q ((h n (by omega)).mpr z))]
theorem cnt_add (f : Nat → Int32) (a b : Nat) : cnt f (a + b) = cnt f a + cnt (fun i => f (a + i)) b := by
  induction b with
  | zero => rfl
  | succ b ih =>
    show cnt f (a + b) + (if f (a + b) = 0 then 0 else 1) = cnt f a + (cnt (fun i => f (a + i)) b + (if f (a + b) = 0 then 0 else 1))
    rw [ih, Nat.add_assoc]
theorem cnt_0 {f : Nat → Int32} {n : Nat} (h : ∀ i, i < n → f i = 0) : cnt f n = 0 := by
  induction n with
  | zero => rfl
  | succ n ih => unfold cnt; rw [ih (fun i hi => h i (by omega)), if_pos (h n (by omega))]
theorem cnt_z {f : Nat → Int32} {n : Nat} : cnt f n = 0 ↔ ∀ i, i < n → f i = 0 := by
  refine ⟨fun h => ?_, cnt_0⟩
  induction n with
  | zero => exact fun i hi => absurd hi (Nat.not_lt_zero i)
  | succ n ih =>
    unfold cnt at h
    intro i hi
    by_cases q : f n = 0
    · rcases (show i < n ∨ i = n by omega) with z | rfl
      · exact ih (by omega) i z
      · exact q
    · rw [if_neg q] at h; omega
section OPN
variable {T : mT} {R : mR} {M : mM} {T2 : mT} {R2 : mR} {M2 : mM} {cb nf s f : Nat}
theorem wc_countOpen (hS : LSd T R cb nf) (hf : f ≤ nf) (h1 : M (cb + 6) 1 = nI f) {Q : Int32 → Prop} (hq : Q (nI (cnt (fun k => M (cb + (8 + 3 * k)) 7) f))) : w_Flight_countOpen 200 T R M (cb + 6) Q := by
  obtain ⟨-, -, -, -, -, -, ⟨g1, g2, g3, g4⟩, g5, g6⟩ := hS
  refine ⟨g1, f + 1, ?_⟩
  have lp : ∀ d i, i + d = f → w_Flight_countOpen_L4 200 T R M Q (cb + 6) (d + 1) (nI (cnt (fun k => M (cb + (8 + 3 * k)) 7) i)) (nI i) := by
    intro d
    induction d with
    | zero =>
      intro i hi
      unfold w_Flight_countOpen_L4
      rw [h1]
      have : i = f := by omega
      subst this
      exact ⟨fun _ => hq, fun q => absurd (nI_le (Nat.le_refl i) (by omega)) q⟩
    | succ d ih =>
      intro i hi
      unfold w_Flight_countOpen_L4
      rw [h1]
      obtain ⟨a1, a2, -⟩ := g5 i (by omega)
      refine ⟨fun q => absurd q (nI_ge (by omega) (by omega)), fun _ => ?_⟩
      rw [g2, nI_clamp (by omega), a1, g4]
      refine ⟨g3, vp_in_nI (by omega) (by omega), a2, fun z v5 e5 => ?_, fun z v6 e6 v7 e7 => ?_⟩
      · subst e5
        have := ih (i + 1) (by omega)
        unfold cnt at this
        rw [if_pos z, Nat.add_zero] at this
        rw [nI_1]; exact this
      · subst e6; subst e7
        have := ih (i + 1) (by omega)
        unfold cnt at this
        rw [if_neg z] at this
        rw [nI_1, nI_1]; exact this
  exact lp f 0 (by omega)
theorem i12 {a s k : Nat} : (nI a) * nI s + nI k = nI (a * s + k) := by rw [pk_mul, nI_add]
theorem wm_openOf (hM : LM T2 R2) (hs : s ≤ 1) (hf : f ≤ 12) (h1 : M2 21 s = nI f) {Q : Int32 → Prop} (hq : Q (nI (cnt (fun k => M2 24 (12 * s + k)) f))) : w_Mo_openOf 34 T2 R2 M2 1 (nI s) Q := by
  refine ⟨hM.ok1, f + 1, ?_⟩
  have lp : ∀ d i, i + d = f → w_Mo_openOf_L4 34 T2 R2 M2 Q 1 (nI s) (d + 1) (nI (cnt (fun k => M2 24 (12 * s + k)) i)) (nI i) := by
    intro d
    induction d with
    | zero =>
      intro i hi
      unfold w_Mo_openOf_L4
      simp only [hM.r_30, hM.l_21]
      rw [nI_clamp (by omega), h1]
      have : i = f := by omega
      subst this
      exact ⟨hM.o_21, vp_in_nI (by omega) (by decide), fun _ => hq, fun q => absurd (nI_le (Nat.le_refl i) (by omega)) q⟩
    | succ d ih =>
      intro i hi
      unfold w_Mo_openOf_L4
      simp only [hM.r_30, hM.l_21, hM.r_33, hM.l_24]
      rw [nI_clamp (by omega), h1, show (12 : Int32) = nI 12 from rfl, i12, nI_clamp (by omega)]
      refine ⟨hM.o_21, vp_in_nI (by omega) (by decide), fun q => absurd q (nI_ge (by omega) (by omega)), fun _ => ⟨hM.o_24, vp_in_nI (by omega) (by decide), fun z v6 e6 v7 e7 => ?_, fun z v6 e6 v7 e7 => ?_⟩⟩
      · subst e6; subst e7
        have := ih (i + 1) (by omega)
        unfold cnt at this
        rw [if_pos z] at this
        rw [show (0 : Int32) = nI 0 from rfl, nI_add, nI_1]; exact this
      · subst e6; subst e7
        have := ih (i + 1) (by omega)
        unfold cnt at this
        rw [if_neg z] at this
        rw [nI_1, nI_1]; exact this
  exact lp f 0 (by omega)
end OPN
section OP2
variable {sd : Int32} {mt c k s nf cb w : Nat} {M M2 : mM}
theorem open_eq (hw : 12 + 3 * nf ≤ w) (hnf : nf ≤ 9) (h : SideRel sd mt c s nf k (uw M cb w) (vw M2 s)) : ∃ f : Nat, f ≤ nf ∧ M (cb + 6) 1 = nI f ∧ M2 21 s = nI f ∧ cnt (fun k => M (cb + (8 + 3 * k)) 7) f = cnt (fun k => M2 24 (12 * s + k)) f := by
  obtain ⟨-, -, -, -, -, -, -, f, h1, h2, h3, h4⟩ := h
  rw [uw_at (by omega)] at h2
  rw [vw_at (by decide)] at h3
  refine ⟨f, h1, h2, by rw [← h3]; show M2 21 s = M2 21 (1 * s + 0); congr 1; omega, cnt_congr (fun i hi => ?_)⟩
  obtain ⟨ag, tm, ww, -, -, -, -, -, -, -, -, -, -, g⟩ := h4 (by omega)
  obtain ⟨p, q, z, sn, -, -, -, -, -, -, -, -, b, -⟩ := g i hi
  rw [uw_at (by omega), vw_at (by show i < 12; omega)] at b
  show M (cb + (8 + 3 * i)) 7 = 0 ↔ M2 24 (12 * s + i) = 0
  rw [b]
  exact Iff.rfl
end OP2
theorem sim_open : ∀ (c : Nat) (T : mT) (R : mR) (M : mM) (T2 : mT) (R2 : mR) (M2 : mM) (u1 : Int32), c < 512 → Sim c T R M T2 R2 M2 → w_X_open 200 T R M 1 u1 (fun r  => w_Mo_open 34 T2 R2 M2 1 u1 (fun r2  => r = r2 ∧ Sim (c + 1) T R M T2 R2 M2)) := by
  intro c T R M T2 R2 M2 u1 hc h
  have hn := h.next hc
  obtain ⟨h0, sd, mt, k, hk, hL, hM, hP⟩ := h
  obtain ⟨-, -, -, -, hs0, hs1, -⟩ := hP
  obtain ⟨f0, a1, a2, a3, a4⟩ := open_eq (by decide) (by decide) hs0
  obtain ⟨f1, b1, b2, b3, b4⟩ := open_eq (by decide) (by decide) hs1
  refine ⟨hL.o_1, side_w (fun hu => ⟨fun _ => ⟨hM.ok1, noside_w (fun _ => ⟨fun q => absurd q (by decide), fun _ => ⟨rfl, hn⟩⟩) (fun q => (q.elim hu.1 hu.2).elim)⟩, fun q => absurd rfl q⟩) (fun hu => ⟨fun q => absurd q (by decide), fun _ => ⟨hL.o_1, fun e => ?_, fun e => ?_⟩⟩)⟩
  · subst e
    simp only [hL.r_1_1, hL.r_128_3]
    exact ⟨hL.o_128, Or.inl hL.o_128, hL.o_134, wc_countOpen hL.sC a1 a2 ⟨hM.ok1, noside_w (fun q => absurd rfl q.1) (fun _ => ⟨fun _ => wm_openOf (s := 0) hM (by decide) (by omega) a3 ⟨by rw [a4], hn⟩, fun q => absurd rfl q⟩)⟩⟩
  · have e : u1 = 1 := hu.resolve_left e
    subst e
    simp only [hL.r_1_2, hL.r_152_3]
    exact ⟨hL.o_152, Or.inr hL.o_152, hL.o_158, wc_countOpen hL.sS b1 b2 ⟨hM.ok1, noside_w (fun q => absurd rfl q.2) (fun _ => ⟨fun _ => wm_openOf (s := 1) hM (by decide) (by omega) b3 ⟨by rw [b4], hn⟩, fun q => absurd rfl q⟩)⟩⟩
theorem sim_value : ∀ (c : Nat) (T : mT) (R : mR) (M : mM) (T2 : mT) (R2 : mR) (M2 : mM) (u1 : Int32) (u2 : Int32), c < 512 → Sim c T R M T2 R2 M2 → w_X_value 200 T R M 1 u1 u2 (fun r  => w_Mo_value 34 T2 R2 M2 1 u1 u2 (fun r2  => r = r2 ∧ Sim (c + 1) T R M T2 R2 M2)) := by
  intro c T R M T2 R2 M2 u1 u2 hc h
  have hn := h.next hc
  obtain ⟨h0, sd, mt, k, hk, hL, hM, hP⟩ := h
  obtain ⟨v0, v1, b0, b1, e1, e2, e3, e4, e5, e6⟩ := val_at hP
  have mo : ∀ (s v : Nat), s ≤ 1 → v ≤ 60 → M2 34 s = nI v → ∀ r : Int32, (u2 < 0 → r = 0) → (¬ u2 < 0 → ¬ u2 < nI v → r = 0) → (∀ i, i < v → u2 = nI i → r = M2 33 (60 * s + i)) → w_Mo_value 34 T2 R2 M2 1 (nI s) u2 (fun r2 => r = r2 ∧ Sim (c + 1) T R M T2 R2 M2) := by
    intro s v hs hv hr r g0 g1 g2
    refine ⟨hM.ok1, noside_w (fun q => ?_) (fun _ => ⟨fun _ => ⟨fun q => ⟨g0 q, hn⟩, fun q => ?_⟩, fun q => absurd rfl q⟩)⟩
    · rcases (show s = 0 ∨ s = 1 by omega) with rfl | rfl
      · exact absurd rfl q.1
      · exact absurd rfl q.2
    · simp only [hM.r_43, hM.l_34, hM.r_42, hM.l_33]
      rw [nI_clamp (by omega), hr]
      refine ⟨hM.o_34, vp_in_nI (by omega) (by decide), fun z => ?_, fun z => ⟨g1 q z, hn⟩⟩
      obtain ⟨j, hj, rfl⟩ := nI_of q
      have hjv : j < v := (nI_ltI hj (by omega)).mp z
      rw [show (60 : Int32) = nI 60 from rfl, i12, nI_clamp (by omega)]
      exact ⟨hM.o_33, vp_in_nI (by omega) (by decide), g2 j hjv rfl, hn⟩
  refine ⟨hL.o_1, side_w (fun hu => ⟨fun _ => ⟨hM.ok1, noside_w (fun _ => ⟨fun q => absurd q (by decide), fun _ => ⟨rfl, hn⟩⟩) (fun q => (q.elim hu.1 hu.2).elim)⟩, fun q => absurd rfl q⟩) (fun hu => ⟨fun q => absurd q (by decide), fun _ => ⟨hL.o_1, fun e => ?_, fun e => ?_⟩⟩)⟩
  · subst e
    rw [hL.r_1_1]
    refine ⟨hL.o_128, Or.inl hL.o_128, Or.inl hL.o_128, fun q => mo 0 v0 (by decide) b0 e2 _ (fun _ => rfl) (fun q' => absurd q q') (fun i hi hq => ?_), fun q => ⟨fun z => mo 0 v0 (by decide) b0 e2 _ (fun _ => rfl) (fun _ _ => rfl) (fun i hi hq => ?_), fun z => ?_⟩⟩
    · subst hq; exact absurd q (nI_pos (by omega))
    · subst hq; rw [e1] at z; exact absurd z (nI_ge hi (by omega))
    · rw [e1] at z
      obtain ⟨j, hj, rfl⟩ := nI_of q
      have hjv : j < v0 := Nat.not_le.mp fun w => z (nI_le w hj)
      rw [hL.r_128_7, hL.l_133, nI_clamp hj]
      refine ⟨hL.o_133, vp_in_nI (by omega) (by decide), mo 0 v0 (by decide) b0 e2 _ (fun q' => absurd q' q) (fun _ z' => absurd (nI_lt hjv (by omega)) z') (fun i hi hq => ?_)⟩
      have : j = i := (nI_eq hj (by omega)).mp hq
      subst this
      rw [e5 j hjv]; congr 1; omega
  · have e : u1 = 1 := hu.resolve_left e
    subst e
    rw [hL.r_1_2]
    refine ⟨hL.o_152, Or.inr hL.o_152, Or.inr hL.o_152, fun q => mo 1 v1 (by decide) b1 e4 _ (fun _ => rfl) (fun q' => absurd q q') (fun i hi hq => ?_), fun q => ⟨fun z => mo 1 v1 (by decide) b1 e4 _ (fun _ => rfl) (fun _ _ => rfl) (fun i hi hq => ?_), fun z => ?_⟩⟩
    · subst hq; exact absurd q (nI_pos (by omega))
    · subst hq; rw [e3] at z; exact absurd z (nI_ge hi (by omega))
    · rw [e3] at z
      obtain ⟨j, hj, rfl⟩ := nI_of q
      have hjv : j < v1 := Nat.not_le.mp fun w => z (nI_le w hj)
      rw [hL.r_152_7, hL.l_157, nI_clamp hj]
      refine ⟨hL.o_157, vp_in_nI (by omega) (by decide), mo 1 v1 (by decide) b1 e4 _ (fun q' => absurd q' q) (fun _ z' => absurd (nI_lt hjv (by omega)) z') (fun i hi hq => ?_)⟩
      have : j = i := (nI_eq hj (by omega)).mp hq
      subst this
      rw [e6 j hjv]
