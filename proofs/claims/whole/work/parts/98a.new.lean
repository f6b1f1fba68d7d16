/-! the constructors: what they leave -/
def ms (x y : Int32) (j : Nat) : Int32 := if j = 0 then x else if j = 1 then y else 0
def RC0 (k j : Nat) : Nat := if k = 3 then (if j < 60 then 8 + 2 * j else 0) else if k = 2 ∧ j = 1 then 4 else RC k j
def MC (sd : Int32) (mt k j : Nat) : Int32 :=
  if k = 128 then (if j = 14 then rS sd else ms 0 (nI mt) j) else if k = 152 then (if j = 14 then sS sd else ms 1 (nI mt) j)
  else if 139 ≤ k ∧ k ≤ 142 then ms (-1) 0 j else if 187 ≤ k ∧ k ≤ 190 then ms (-1) 0 j
  else if k = 143 then ms 0 0 j else if k = 145 then ms 1 0 j else if k = 147 then ms 2 2 j
  else if k = 191 then ms 0 0 j else if k = 193 then ms 1 0 j else if k = 195 then ms 2 2 j else if k = 197 then ms 4 2 j else if k = 199 then ms 3 2 j
  else if k = 149 then (if j = 2 then 1 else 0) else if k = 150 then (if j < 6 then nI (asmS sd j) else 0) else if k = 151 then (if j < 14 + plS sd then -1 else 0) else 0
def tI (sd : Int32) (n : Nat) (T : mT) : Prop := ∀ k, 0 < k → k ≤ n → T k = TC (plS sd) k
/-- what a constructor of the cell lo leaves, cells lo to hi made -/
def Stm (sd : Int32) (mt lo hi : Nat) (R : mR) (M : mM) (T' : mT) (R' : mR) (M' : mM) : Prop := tI sd hi T' ∧ (∀ k, k < lo → R' k = R k ∧ M' k = M k) ∧ ∀ k, lo ≤ k → k ≤ hi → R' k = RC0 k ∧ M' k = MC sd mt k
section NW
variable {sd : Int32} {mt n k lo hi : Nat} {T : mT} {R : mR} {M : mM}
theorem tI.s (h : tI sd n T) {v : Nat × Nat} (hv : TC (plS sd) (n + 1) = v) : tI sd (n + 1) (sT T (n + 1) v) := fun k h1 h2 => by
  show (if k = n + 1 then v else T k) = _
  by_cases y : k = n + 1
  · rw [if_pos y, y, hv]
  · rw [if_neg y]; exact h k h1 (by omega)
theorem tI.o (h : tI sd n T) {tg : Nat} (h1 : 0 < k) (h2 : k ≤ n) (ht : (TC (plS sd) k).1 = tg) : ok T n k tg := ⟨h1, h2, by rw [h k h1 h2]; exact ht⟩
theorem zR_k {a : Nat} (h : a ≠ k) : zR R k a = R a := by funext j; exact if_neg h
theorem zR_e : zR R k k = fun _ => 0 := by funext j; exact if_pos rfl
theorem zM_k {a : Nat} (h : a ≠ k) : zM M k a = M a := by funext j; exact if_neg h
theorem zM_e : zM M k k = fun _ => 0 := by funext j; exact if_pos rfl
theorem sRk {j v a : Nat} (h : a ≠ k) : sR R k j v a = R a := by funext i; exact if_neg (fun q => h q.1)
theorem sR_t {j v : Nat} (i : Nat) : sR R k j v k i = if i = j then v else R k i := by
  show (if k = k ∧ i = j then v else R k i) = _
  by_cases y : i = j
  · rw [if_pos ⟨rfl, y⟩, if_pos y]
  · rw [if_neg (fun q => y q.2), if_neg y]
theorem sM_t {j : Nat} {v : Int32} (i : Nat) : sM M k j v k i = if i = j then v else M k i := by
  show (if k = k ∧ i = j then v else M k i) = _
  by_cases y : i = j
  · rw [if_pos ⟨rfl, y⟩, if_pos y]
  · rw [if_neg (fun q => y q.2), if_neg y]
theorem TC_pl (sd : Int32) : ∀ k, k < 200 → k ≠ 151 → TC (plS sd) k = TC 0 k := by
  have z : ∀ pl, pl < 44 → ∀ k, k < 200 → k ≠ 151 → TC pl k = TC 0 k := by decide +kernel
  have pl := plS_b sd
  exact z _ (by omega)
theorem MC_0 (h1 : k ≠ 128) (h2 : k ≠ 152) (h3 : ¬ (139 ≤ k ∧ k ≤ 151)) (h4 : ¬ (187 ≤ k ∧ k ≤ 200)) : MC sd mt k = fun _ => 0 := by
  funext j
  unfold MC
  rw [if_neg h1, if_neg h2, if_neg (by omega), if_neg (by omega), if_neg (by omega), if_neg (by omega), if_neg (by omega), if_neg (by omega), if_neg (by omega), if_neg (by omega), if_neg (by omega), if_neg (by omega), if_neg (by omega), if_neg (by omega), if_neg (by omega)]
theorem RC_d (k j : Nat) (hk : k ∉ [1, 2, 128, 129, 131, 134, 135, 136, 143, 145, 147, 149, 152, 153, 155, 158, 159, 191, 193, 195, 197, 199]) : RC k j = if k < 128 then (if k % 2 = 0 ∧ j = 0 then k + 1 else 0) else if 160 ≤ k ∧ k < 187 ∧ k % 3 = 1 ∧ j < 2 then k + 1 + j else 0 := by
  simp only [List.mem_cons, List.not_mem_nil, or_false, not_or] at hk
  unfold RC
  split <;> first | (exfalso; omega) | rfl
theorem RC0_rec {r : Nat} (hr : isRec r) : RC0 r = (fun j => if j = 0 then r + 1 else 0) ∧ RC0 (r + 1) = fun _ => 0 := by
  obtain ⟨h1, h2, h3⟩ := hr
  constructor
  · funext j
    unfold RC0
    rw [if_neg (by omega), if_neg (by omega), RC_d r j (by simp only [List.mem_cons, List.not_mem_nil, or_false, not_or]; omega), if_pos (by omega)]
    by_cases y : j = 0
    · rw [if_pos ⟨h1, y⟩, if_pos y]
    · rw [if_neg (fun q => y q.2), if_neg y]
  · funext j
    unfold RC0
    by_cases y : r + 1 = 3
    · omega
    · rw [if_neg y, if_neg (by omega)]
      by_cases y2 : r + 1 < 128
      · rw [RC_d (r + 1) j (by simp only [List.mem_cons, List.not_mem_nil, or_false, not_or]; omega), if_pos y2, if_neg (by omega)]
      · omega
theorem TC_rec {r : Nat} (hr : isRec r) : TC (plS sd) r = (3, 0) ∧ TC (plS sd) (r + 1) = (100, 24) := by
  obtain ⟨h1, h2, h3⟩ := hr
  rw [TC_pl sd r (by omega) (by omega), TC_pl sd (r + 1) (by omega) (by omega)]
  have z : ∀ r, r < 127 → r % 2 = 0 → 4 ≤ r → TC 0 r = (3, 0) ∧ TC 0 (r + 1) = (100, 24) := by decide +kernel
  exact z r (by omega) h1 h2
theorem wc_recI {r : Nat} (hr : isRec r) (hT : tI sd r T) (hR : R r = fun _ => 0) (hM : M r = fun _ => 0) {Q : Nat → mT → mR → mM → Prop} (hq : ∀ T' R' M', Stm sd mt r (r + 1) R M T' R' M' → Q (r + 1) T' R' M') : w_Rec_init r T R M r Q := by
  have ⟨t1, t2⟩ := TC_rec (sd := sd) hr
  have ⟨c1, c2⟩ := RC0_rec hr
  obtain ⟨h1, h2, h3⟩ := hr
  refine ⟨hT.o (by omega) (Nat.le_refl r) (by rw [t1]), fun T1 R2 M3 y1 y2 y3 R5 y5 => hq T1 R5 M3 ⟨by rw [y1]; exact hT.s t2, fun k hk => ⟨by rw [y5, sRk (by omega), y2, zR_k (by omega)], by rw [y3, zM_k (by omega)]⟩, fun k h1 h2 => ?_⟩⟩
  rcases (show k = r ∨ k = r + 1 by omega) with rfl | rfl
  · refine ⟨?_, by rw [y3, zM_k (by omega), hM, MC_0 (by omega) (by omega) (by omega) (by omega)]⟩
    rw [c1]
    funext j
    rw [y5, sR_t, y2, zR_k (by omega), hR]
  · exact ⟨by rw [y5, sRk (by omega), y2, zR_e, c2], by rw [y3, zM_e, MC_0 (by omega) (by omega) (by omega) (by omega)]⟩
/-- a fragment's cells -/
def isFr (f : Nat) : Prop := f = 136 ∨ (160 ≤ f ∧ f ≤ 184 ∧ f % 3 = 1)
theorem wc_fragI {f : Nat} (hf : isFr f) (hT : tI sd f T) (hR : R f = fun _ => 0) (hM : M f = fun _ => 0) {Q : Nat → mT → mR → mM → Prop} (hq : ∀ T' R' M', Stm sd mt f (f + 2) R M T' R' M' → Q (f + 2) T' R' M') : w_Frag_init f T R M f Q := by
  have ht : TC (plS sd) f = (1, 0) ∧ TC (plS sd) (f + 1) = (100, 24) ∧ TC (plS sd) (f + 1 + 1) = (100, 7) := by
    have hb : 136 ≤ f ∧ f ≤ 184 ∧ f ≠ 149 ∧ f ≠ 150 ∧ f ≠ 151 := by unfold isFr at hf; omega
    rw [TC_pl sd f (by omega) (by omega), TC_pl sd (f + 1) (by omega) (by omega), TC_pl sd (f + 1 + 1) (by omega) (by omega)]
    have z : ∀ f, f < 185 → (f = 136 ∨ (160 ≤ f ∧ f % 3 = 1)) → TC 0 f = (1, 0) ∧ TC 0 (f + 1) = (100, 24) ∧ TC 0 (f + 1 + 1) = (100, 7) := by decide +kernel
    exact z f (by omega) (by unfold isFr at hf; omega)
  have hc : RC0 f = (fun j => if j = 1 then f + 2 else if j = 0 then f + 1 else 0) ∧ RC0 (f + 1) = (fun _ => 0) ∧ RC0 (f + 2) = fun _ => 0 := by
    rcases hf with rfl | ⟨f1, f2, f3⟩
    · refine ⟨?_, ?_, ?_⟩
      · funext j
        show (if j = 0 then 137 else if j = 1 then 138 else 0) = if j = 1 then 138 else if j = 0 then 137 else 0
        (repeat' split) <;> omega
      · funext j; rfl
      · funext j; rfl
    · refine ⟨?_, ?_, ?_⟩
      · funext j
        unfold RC0
        rw [if_neg (by omega), if_neg (by omega), RC_d f j (by simp only [List.mem_cons, List.not_mem_nil, or_false, not_or]; omega)]
        (repeat' split) <;> omega
      · funext j
        unfold RC0
        rw [if_neg (by omega), if_neg (by omega), RC_d (f + 1) j (by simp only [List.mem_cons, List.not_mem_nil, or_false, not_or]; omega)]
        (repeat' split) <;> omega
      · funext j
        unfold RC0
        rw [if_neg (by omega), if_neg (by omega), RC_d (f + 2) j (by simp only [List.mem_cons, List.not_mem_nil, or_false, not_or]; omega)]
        (repeat' split) <;> omega
  have hm : ∀ k, f ≤ k → k ≤ f + 2 → MC sd mt k = fun _ => 0 := fun k h1 h2 => by
    unfold isFr at hf
    exact MC_0 (by omega) (by omega) (by omega) (by omega)
  obtain ⟨t1, t2, t3⟩ := ht
  obtain ⟨c1, c2, c3⟩ := hc
  have hf0 : 0 < f := by unfold isFr at hf; omega
  refine ⟨hT.o hf0 (Nat.le_refl f) (by rw [t1]), fun T1 R2 M3 y1 y2 y3 R5 y5 T6 R7 M8 y6 y7 y8 R10 y10 => hq T6 R10 M8 ⟨by rw [y6, y1]; exact (hT.s t2).s t3, fun k hk => ⟨by rw [y10, sRk (by omega), y7, zR_k (by omega), y5, sRk (by omega), y2, zR_k (by omega)], by rw [y8, zM_k (by omega), y3, zM_k (by omega)]⟩, fun k h1 h2 => ?_⟩⟩
  rw [hm k h1 h2]
  rcases (show k = f ∨ k = f + 1 ∨ k = f + 2 by omega) with rfl | rfl | rfl
  · refine ⟨?_, by rw [y8, zM_k (by omega), y3, zM_k (by omega), hM]⟩
    rw [c1]
    funext j
    rw [y10, sR_t, y7, zR_k (by omega), y5, sR_t, y2, zR_k (by omega), hR]
  · exact ⟨by rw [y10, sRk (by omega), y7, zR_k (by omega), y5, sRk (by omega), y2, zR_e, c2], by rw [y8, zM_k (by omega), y3, zM_e]⟩
  · exact ⟨by rw [y10, sRk (by omega), y7, zR_e, c3], by rw [y8, zM_e]⟩
theorem wc_notedI (h0 : 0 < lo) (t0 : TC (plS sd) lo = (6, 0)) (t1 : TC (plS sd) (lo + 1) = (100, 8)) (c0 : RC0 lo = fun j => if j = 0 then lo + 1 else 0) (c1 : RC0 (lo + 1) = fun _ => 0) (m0 : MC sd mt lo = fun _ => 0) (m1 : MC sd mt (lo + 1) = fun _ => 0) (hT : tI sd lo T) (hR : R lo = fun _ => 0) (hM : M lo = fun _ => 0) {Q : Nat → mT → mR → mM → Prop} (hq : ∀ T' R' M', Stm sd mt lo (lo + 1) R M T' R' M' → Q (lo + 1) T' R' M') : w_Noted_init lo T R M lo Q := by
  refine ⟨hT.o h0 (Nat.le_refl lo) (by rw [t0]), fun T1 R2 M3 y1 y2 y3 R5 y5 => hq T1 R5 M3 ⟨by rw [y1]; exact hT.s t1, fun k hk => ⟨by rw [y5, sRk (by omega), y2, zR_k (by omega)], by rw [y3, zM_k (by omega)]⟩, fun k h1 h2 => ?_⟩⟩
  rcases (show k = lo ∨ k = lo + 1 by omega) with rfl | rfl
  · refine ⟨?_, by rw [y3, zM_k (by omega), hM, m0]⟩
    rw [c0]
    funext j
    rw [y5, sR_t, y2, zR_k (by omega), hR]
  · exact ⟨by rw [y5, sRk (by omega), y2, zR_e, c1], by rw [y3, zM_e, m1]⟩
theorem wc_msgI {x y : Int32} {L : Nat} (h0 : 0 < lo) (hL : L ≤ 64) (t0 : TC (plS sd) lo = (0, 0)) (t1 : TC (plS sd) (lo + 1) = (100, L)) (c0 : RC0 lo = fun j => if j = 2 then lo + 1 else 0) (c1 : RC0 (lo + 1) = fun _ => 0) (m0 : MC sd mt lo = ms x y) (m1 : MC sd mt (lo + 1) = fun _ => 0) (hT : tI sd lo T) (hR : R lo = fun _ => 0) (hM : M lo = fun _ => 0) {Q : Nat → mT → mR → mM → Prop} (hq : ∀ T' R' M', Stm sd mt lo (lo + 1) R M T' R' M' → Q (lo + 1) T' R' M') : w_Msg_init lo T R M lo x y (nI L) Q := by
  refine ⟨hT.o h0 (Nat.le_refl lo) (by rw [t0]), fun M1 z1 M2 z2 => ⟨⟨nI_pos (by omega), by rw [nI_clamp (by omega)]; exact hL⟩, fun T1 R2 M3 y1 y2 y3 R5 y5 => hq T1 R5 M3 ⟨by rw [y1, nI_clamp (by omega)]; exact hT.s t1, fun k hk => ⟨by rw [y5, sRk (by omega), y2, zR_k (by omega)], by rw [y3, zM_k (by omega), z2, sM_k k (by omega), z1, sM_k k (by omega)]⟩, fun k h1 h2 => ?_⟩⟩⟩
  rcases (show k = lo ∨ k = lo + 1 by omega) with rfl | rfl
  · constructor
    · rw [c0]
      funext j
      rw [y5, sR_t, y2, zR_k (by omega), hR]
    · rw [m0]
      funext j
      rw [y3, zM_k (by omega), z2, sM_t, z1, sM_t, hM]
      unfold ms
      (repeat' split) <;> first | rfl | omega
  · exact ⟨by rw [y5, sRk (by omega), y2, zR_e, c1], by rw [y3, zM_e, m1]⟩
end NW
