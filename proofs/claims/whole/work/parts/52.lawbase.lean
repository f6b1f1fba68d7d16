def R_law : String := "LossyHandshakeLaw"
set_option maxRecDepth 100000 in
/-- what the tables say of the classes and array classes, all at once -/
theorem env_known {args : Array Value} {s : State} (hts0 : ∀ w ∈ lw_tbl, w.before args s = true) : ∃ (D : va_G) (dA : Nat → ClassId), Ev D dA s := by
  have hts : ∀ w ∈ tW, w.before args s = true := fun w hw => hts0 w (List.mem_filter.mp hw).1
  have hcl : ∀ c : Nat, ∃ (cC : ClassId) (iS : Nat → Nat), ∀ q : vw_C, classes[c]? = some q → u_Kn s q.1 q.2.1 q.2.2 cC iS := by
    intro c
    match c with

    | 0 => obtain ⟨cC, iS, h⟩ := u_known hts hin_Msg (hts _ mw_39); exact ⟨cC, iS, fun q hq => by cases hq; exact h⟩
    | 1 => obtain ⟨cC, iS, h⟩ := u_known hts hin_Frag (hts _ mw_14); exact ⟨cC, iS, fun q hq => by cases hq; exact h⟩
    | 2 => obtain ⟨cC, iS, h⟩ := u_known hts hin_Flight (hts _ mw_25); exact ⟨cC, iS, fun q hq => by cases hq; exact h⟩
    | 3 => obtain ⟨cC, iS, h⟩ := u_known hts hin_Rec (hts _ mw_182); exact ⟨cC, iS, fun q hq => by cases hq; exact h⟩
    | 4 => obtain ⟨cC, iS, h⟩ := u_known hts hin_Net (hts _ mw_289); exact ⟨cC, iS, fun q hq => by cases hq; exact h⟩
    | 5 => obtain ⟨cC, iS, h⟩ := u_known hts hin_Win (hts _ mw_29); exact ⟨cC, iS, fun q hq => by cases hq; exact h⟩
    | 6 => obtain ⟨cC, iS, h⟩ := u_known hts hin_Noted (hts _ mw_20); exact ⟨cC, iS, fun q hq => by cases hq; exact h⟩
    | 7 => obtain ⟨cC, iS, h⟩ := u_known hts hin_Asm (hts _ mw_45); exact ⟨cC, iS, fun q hq => by cases hq; exact h⟩
    | 8 => obtain ⟨cC, iS, h⟩ := u_known hts hin_Client (hts _ mw_294); exact ⟨cC, iS, fun q hq => by cases hq; exact h⟩
    | 9 => obtain ⟨cC, iS, h⟩ := u_known hts hin_Server (hts _ mw_299); exact ⟨cC, iS, fun q hq => by cases hq; exact h⟩
    | 10 => obtain ⟨cC, iS, h⟩ := u_known hts hin_X (hts _ mv_0); exact ⟨cC, iS, fun q hq => by cases hq; exact h⟩
    | 11 => obtain ⟨cC, iS, h⟩ := u_known hts hin_Mo (hts _ mv_1); exact ⟨cC, iS, fun q hq => by cases hq; exact h⟩
    | n + 12 => exact ⟨0, fun _ => 0, fun q hq => by simp [classes] at hq⟩
  have hI : ∃ cA : ClassId, ArrOfT s cA .int ∧ va_RA s cA .int := by
    obtain ⟨cA, kA, comp, h1, h2, h3⟩ := Cond.arrayClass_spec (hts _ mw_3)
    exact ⟨cA, fun n z => ⟨fun k h => (by cases h), kA, h2, comp, h3⟩, h1⟩
  have hZ : ∃ cA : ClassId, ArrOfT s cA .boolean ∧ va_RA s cA .boolean := by
    obtain ⟨cA, kA, comp, h1, h2, h3⟩ := Cond.arrayClass_spec (hts _ mw_368)
    exact ⟨cA, fun n z => ⟨fun k h => (by cases h), kA, h2, comp, h3⟩, h1⟩
  have hO : ∀ C : String, (Cond.arrayOver (.object C)).before args s = true → ∃ cA : ClassId, ArrOfT s cA (.object C) ∧ va_RA s cA (.object C) := by
    intro C h
    obtain ⟨comp, cA, kA, f1, f2, f3, f4, f5⟩ := Cond.arrayOver_spec h
    exact ⟨cA, fun n z => ⟨fun k h => (by cases h), kA, f3, comp, f4⟩, kA, comp, f3, f4, f1, f5⟩
  have o2 : (Cond.arrayOver (.object aoC2)).before args s = true := hts0 _ (List.mem_append_right _ (List.mem_of_getElem? (i := 36) rfl))
  have o3 : (Cond.arrayOver (.object aoC3)).before args s = true := hts0 _ (List.mem_append_right _ (List.mem_of_getElem? (i := 147) rfl))
  have o4 : (Cond.arrayOver (.object aoC4)).before args s = true := hts0 _ (List.mem_append_right _ (List.mem_of_getElem? (i := 139) rfl))
  obtain ⟨c0, g0⟩ := hI
  obtain ⟨c1, g1⟩ := hZ
  obtain ⟨c2, g2⟩ := hO _ o2
  obtain ⟨c3, g3⟩ := hO _ o3
  obtain ⟨c4, g4⟩ := hO _ o4
  refine ⟨(fun c => (hcl c).choose, fun c => (hcl c).choose_spec.choose), fun t => match t with | 0 => c0 | 1 => c1 | 2 => c2 | 3 => c3 | _ => c4, ⟨fun c q hq => (hcl c).choose_spec.choose_spec q hq, ?_⟩, ?_, ?_, ?_⟩
  · intro k q hk
    match k with
    | 0 => cases hk; exact g0
    | 1 => cases hk; exact g1
    | 2 => cases hk; exact g2
    | 3 => cases hk; exact g3
    | 4 => cases hk; exact g4
    | n + 5 => simp [tysOf] at hk
  · intro q hq
    have h : ∀ q ∈ nestW, (Cond.methodLinkNest q.1 q.2.1 q.2.2.1 q.2.2.2) ∈ lw_tbl := by
      show ∀ q ∈ ([("LossyHandshake$Net", 17, ⟨"LossyHandshake$NetRecord", "<init>", "()V"⟩, "LossyHandshake"), ("LossyHandshake$Side", 11, ⟨"LossyHandshake$Noted", "<init>", "()V"⟩, "LossyHandshake"), ("LossyHandshake$Flight", 17, ⟨"LossyHandshake$Fragment", "<init>", "()V"⟩, "LossyHandshake"), ("LossyHandshake$Side", 57, ⟨"LossyHandshake$Window", "<init>", "()V"⟩, "LossyHandshake"), ("LossyHandshake$Client", 26, ⟨"LossyHandshake", "clientNumber", "(I)I"⟩, "LossyHandshake"), ("LossyHandshake$Client", 36, ⟨"LossyHandshake", "proofLength", "(I)I"⟩, "LossyHandshake"), ("LossyHandshake$Server", 29, ⟨"LossyHandshake", "serverSecret", "(I)I"⟩, "LossyHandshake"), ("LossyHandshake$Server", 37, ⟨"LossyHandshake", "proofLength", "(I)I"⟩, "LossyHandshake"), ("LossyHandshake$Fragment", 51, ⟨"LossyHandshake", "nameOf", "(II)I"⟩, "LossyHandshake"), ("LossyHandshake$NetRecord", 59, ⟨"LossyHandshake", "nameOf", "(II)I"⟩, "LossyHandshake"), ("LossyHandshake$Client", 183, ⟨"LossyHandshake", "mix", "(II)I"⟩, "LossyHandshake"), ("LossyHandshake$Server", 90, ⟨"LossyHandshake", "mix", "(II)I"⟩, "LossyHandshake"), ("LossyHandshake$Message", 22, ⟨"LossyHandshake", "mix", "(II)I"⟩, "LossyHandshake")] : List (String × Nat × MethodName × String)), _
      exact List.forall_mem_cons.mpr ⟨(List.mem_append_right _ (List.mem_of_getElem? (i := 38) rfl)), List.forall_mem_cons.mpr ⟨(List.mem_append_right _ (List.mem_of_getElem? (i := 125) rfl)), List.forall_mem_cons.mpr ⟨(List.mem_append_right _ (List.mem_of_getElem? (i := 149) rfl)), List.forall_mem_cons.mpr ⟨(List.mem_append_right _ (List.mem_of_getElem? (i := 205) rfl)), List.forall_mem_cons.mpr ⟨(List.mem_append_right _ (List.mem_of_getElem? (i := 238) rfl)), List.forall_mem_cons.mpr ⟨(List.mem_append_right _ (List.mem_of_getElem? (i := 247) rfl)), List.forall_mem_cons.mpr ⟨(List.mem_append_right _ (List.mem_of_getElem? (i := 374) rfl)), List.forall_mem_cons.mpr ⟨(List.mem_append_right _ (List.mem_of_getElem? (i := 377) rfl)), List.forall_mem_cons.mpr ⟨(List.mem_append_right _ (List.mem_of_getElem? (i := 478) rfl)), List.forall_mem_cons.mpr ⟨(List.mem_append_right _ (List.mem_of_getElem? (i := 661) rfl)), List.forall_mem_cons.mpr ⟨(List.mem_append_right _ (List.mem_of_getElem? (i := 684) rfl)), List.forall_mem_cons.mpr ⟨(List.mem_append_right _ (List.mem_of_getElem? (i := 700) rfl)), List.forall_mem_cons.mpr ⟨(List.mem_append_right _ (List.mem_of_getElem? (i := 733) rfl)), fun _ h => absurd h List.not_mem_nil⟩⟩⟩⟩⟩⟩⟩⟩⟩⟩⟩⟩⟩
    exact va_Nw.of rfl (hts0 _ (h q hq))
  · intro x hx
    have h : ∀ x ∈ declW, (Cond.declares x) ∈ lw_tbl := by
      show ∀ x ∈ ([⟨"LossyHandshake$Side", "accept", "(LLossyHandshake$NetRecord;)Z"⟩] : List MethodName), _
      exact List.forall_mem_cons.mpr ⟨(List.mem_append_right _ (List.mem_of_getElem? (i := 582) rfl)), fun _ h => absurd h List.not_mem_nil⟩
    exact va_Nw.of rfl (hts0 _ (h x hx))
  · intro C hC
    have h : ∀ C ∈ aoW, (Cond.arrayOver (.object C)).before args s = true := by
      show ∀ C ∈ ([aoC2, aoC3, aoC4] : List String), _
      exact List.forall_mem_cons.mpr ⟨o2, List.forall_mem_cons.mpr ⟨o3, List.forall_mem_cons.mpr ⟨o4, fun _ h => absurd h List.not_mem_nil⟩⟩⟩
    exact va_AO.of (h C hC)
/-- both worlds at the law: the class's cells, the reference's behind them -/
def LW (D : va_G) (dA : Nat → ClassId) (b sz : Nat) (T : mT) (R : mR) (M : mM) (T2 : mT) (R2 : mR) (M2 : mM) (H0 H : Heap) : Prop := Wd D dA b 200 T R M sz H ∧ Wd D dA (b + 200) 34 T2 R2 M2 sz H ∧ va_S (Ab b) H0 H [] ∧ H0.size = b + 1
theorem Wd.other {D : va_G} {dA : Nat → ClassId} {b n sz sz1 : Nat} {T : mT} {R : mR} {M : mM} {H H1 : Heap} {A1 : Nat → Prop} (h : Wd D dA b n T R M sz H) (hz : H1.size = sz1) (hk : ∀ q : Nat, q < H.size → ¬ A1 q → H1[q]? = H[q]?) (hd : ∀ k : Nat, 0 < k → k ≤ n → ¬ A1 (b + k)) : Wd D dA b n T R M sz1 H1 := by
  refine ⟨fun j q hj => ?_, hz⟩
  have h1 := h.1 j q hj
  obtain ⟨hjn, rfl⟩ := wL_inv hj
  exact h1.kept (hk _ h1.lt (hd _ (Nat.succ_pos j) hjn))
section LR
variable {p : Program} {l : Launch} {e : Env} {Z : Room} {s : State} {m : MethodId} {args : Array Value} {below : List Frame} {meth : Method} {c : Code} {H : Heap} {cells slots : Nat} {QW : State → Prop}
variable {cc : ByteArray} {pc nL : Nat} {ls : Array Slot} {rest st : List Value} {D : va_G} {dA : Nat → ClassId} {b sz : Nat} {T T2 : mT} {R R2 : mR} {M M2 : mM}
theorem LW.cw (h : LW D dA b sz T R M T2 R2 M2 s.heap H) : St D dA (Ab b) b 200 T R M sz s.heap H [] := ⟨h.1, h.2.2.1, fun k h0 _ => show b < b + k by omega⟩
theorem LW.mw (h : LW D dA b sz T R M T2 R2 M2 s.heap H) : St D dA (Ab b) (b + 200) 34 T2 R2 M2 sz s.heap H [] := ⟨h.2.1, h.2.2.1, fun k h0 _ => show b < b + 200 + k by omega⟩
theorem lx_ip {Q0 : Int32 → Prop} {a : Array Value} (h : LW D dA b sz T R M T2 R2 M2 s.heap H) (hr : va_Run p l e Z s m args below meth c H [] cells slots 0 0 (F0 m pc ls st) rest ((Qip D dA (An b 200) b 200 T R M sz Q0) a) (An b 200))
    (kk : ∀ (r : Int32)  (H1 : Heap), Q0 r  → LW D dA b sz T R M T2 R2 M2 s.heap H1 → W p l e Z s m args below meth c H1 [] cells slots QW (F0 m (pc + 3) ls (.int r :: rest))) : W p l e Z s m args below meth c H [] cells slots QW (F0 m pc ls st) := by
  refine va_calli (A0 := Ab b) hr h.2.2.1 (fun q _ h => h.1) (fun q h => h.1) (fun r u t H1 locs1 ht _ hp hB _ hk hS => ?_)
  have hz : H1.size = sz := by rw [← ht]; exact hB.2
  refine va_forget (fun q hq => ?_) (kk r  H1 hp ?_)
  · have h1 : b < q.base := hS.2.2 q hq
    rw [h.2.2.2]; omega
  · rw [← ht] at hk hS hz ⊢
    exact ⟨hB, h.2.1.other hz hk (fun k h0 h1 q => by have := q.2; omega), ⟨hS.1, hS.2.1, fun _ hh => by cases hh⟩, h.2.2.2⟩
theorem lx_im {Q0 : Int32 → mM → Prop} {a : Array Value} (h : LW D dA b sz T R M T2 R2 M2 s.heap H) (hr : va_Run p l e Z s m args below meth c H [] cells slots 0 0 (F0 m pc ls st) rest ((Qim D dA (An b 200) b 200 T R sz Q0) a) (An b 200))
    (kk : ∀ (r : Int32) (M1 : mM) (H1 : Heap), Q0 r M1 → LW D dA b sz T R M1 T2 R2 M2 s.heap H1 → W p l e Z s m args below meth c H1 [] cells slots QW (F0 m (pc + 3) ls (.int r :: rest))) : W p l e Z s m args below meth c H [] cells slots QW (F0 m pc ls st) := by
  refine va_calli (A0 := Ab b) hr h.2.2.1 (fun q _ h => h.1) (fun q h => h.1) (fun r u t H1 locs1 ht _ hp hB _ hk hS => ?_)
  have hz : H1.size = sz := by rw [← ht]; exact hB.2
  refine va_forget (fun q hq => ?_) (kk r u H1 hp ?_)
  · have h1 : b < q.base := hS.2.2 q hq
    rw [h.2.2.2]; omega
  · rw [← ht] at hk hS hz ⊢
    exact ⟨hB, h.2.1.other hz hk (fun k h0 h1 q => by have := q.2; omega), ⟨hS.1, hS.2.1, fun _ hh => by cases hh⟩, h.2.2.2⟩
theorem lx_zm {Q0 : Int32 → mM → Prop} {a : Array Value} (h : LW D dA b sz T R M T2 R2 M2 s.heap H) (hr : va_Run p l e Z s m args below meth c H [] cells slots 0 0 (F0 m pc ls st) rest ((Qzm D dA (An b 200) b 200 T R sz Q0) a) (An b 200))
    (kk : ∀ (r : Int32) (M1 : mM) (H1 : Heap), Q0 r M1 → LW D dA b sz T R M1 T2 R2 M2 s.heap H1 → W p l e Z s m args below meth c H1 [] cells slots QW (F0 m (pc + 3) ls (.int r :: rest))) : W p l e Z s m args below meth c H [] cells slots QW (F0 m pc ls st) := by
  refine va_calli (A0 := Ab b) hr h.2.2.1 (fun q _ h => h.1) (fun q h => h.1) (fun r u t H1 locs1 ht _ hp hB _ hk hS => ?_)
  have hz : H1.size = sz := by rw [← ht]; exact hB.2
  refine va_forget (fun q hq => ?_) (kk r u H1 hp.2 ?_)
  · have h1 : b < q.base := hS.2.2 q hq
    rw [h.2.2.2]; omega
  · rw [← ht] at hk hS hz ⊢
    exact ⟨hB, h.2.1.other hz hk (fun k h0 h1 q => by have := q.2; omega), ⟨hS.1, hS.2.1, fun _ hh => by cases hh⟩, h.2.2.2⟩
theorem lx_ir {Q0 : Int32 → mR → mM → Prop} {a : Array Value} (h : LW D dA b sz T R M T2 R2 M2 s.heap H) (hr : va_Run p l e Z s m args below meth c H [] cells slots 0 0 (F0 m pc ls st) rest ((Qir D dA (An b 200) b 200 T sz Q0) a) (An b 200))
    (kk : ∀ (r : Int32) (R1 : mR) (M1 : mM) (H1 : Heap), Q0 r R1 M1 → LW D dA b sz T R1 M1 T2 R2 M2 s.heap H1 → W p l e Z s m args below meth c H1 [] cells slots QW (F0 m (pc + 3) ls (.int r :: rest))) : W p l e Z s m args below meth c H [] cells slots QW (F0 m pc ls st) := by
  refine va_calli (A0 := Ab b) hr h.2.2.1 (fun q _ h => h.1) (fun q h => h.1) (fun r u t H1 locs1 ht _ hp hB _ hk hS => ?_)
  have hz : H1.size = sz := by rw [← ht]; exact hB.2
  refine va_forget (fun q hq => ?_) (kk r u.1 u.2 H1 hp ?_)
  · have h1 : b < q.base := hS.2.2 q hq
    rw [h.2.2.2]; omega
  · rw [← ht] at hk hS hz ⊢
    exact ⟨hB, h.2.1.other hz hk (fun k h0 h1 q => by have := q.2; omega), ⟨hS.1, hS.2.1, fun _ hh => by cases hh⟩, h.2.2.2⟩
theorem lx_zr {Q0 : Int32 → mR → mM → Prop} {a : Array Value} (h : LW D dA b sz T R M T2 R2 M2 s.heap H) (hr : va_Run p l e Z s m args below meth c H [] cells slots 0 0 (F0 m pc ls st) rest ((Qzr D dA (An b 200) b 200 T sz Q0) a) (An b 200))
    (kk : ∀ (r : Int32) (R1 : mR) (M1 : mM) (H1 : Heap), Q0 r R1 M1 → LW D dA b sz T R1 M1 T2 R2 M2 s.heap H1 → W p l e Z s m args below meth c H1 [] cells slots QW (F0 m (pc + 3) ls (.int r :: rest))) : W p l e Z s m args below meth c H [] cells slots QW (F0 m pc ls st) := by
  refine va_calli (A0 := Ab b) hr h.2.2.1 (fun q _ h => h.1) (fun q h => h.1) (fun r u t H1 locs1 ht _ hp hB _ hk hS => ?_)
  have hz : H1.size = sz := by rw [← ht]; exact hB.2
  refine va_forget (fun q hq => ?_) (kk r u.1 u.2 H1 hp.2 ?_)
  · have h1 : b < q.base := hS.2.2 q hq
    rw [h.2.2.2]; omega
  · rw [← ht] at hk hS hz ⊢
    exact ⟨hB, h.2.1.other hz hk (fun k h0 h1 q => by have := q.2; omega), ⟨hS.1, hS.2.1, fun _ hh => by cases hh⟩, h.2.2.2⟩
theorem lm_ip {Q0 : Int32 → Prop} {a : Array Value} (h : LW D dA b sz T R M T2 R2 M2 s.heap H) (hr : va_Run p l e Z s m args below meth c H [] cells slots 0 0 (F0 m pc ls st) rest ((Qip D dA (An (b + 200) 34) (b + 200) 34 T2 R2 M2 sz Q0) a) (An (b + 200) 34))
    (kk : ∀ (r : Int32)  (H1 : Heap), Q0 r  → LW D dA b sz T R M T2 R2 M2 s.heap H1 → W p l e Z s m args below meth c H1 [] cells slots QW (F0 m (pc + 3) ls (.int r :: rest))) : W p l e Z s m args below meth c H [] cells slots QW (F0 m pc ls st) := by
  refine va_calli (A0 := Ab b) hr h.2.2.1 (fun q _ h => show b < q from by have := h.1; omega) (fun q h => show b < q from by have := h.1; omega) (fun r u t H1 locs1 ht _ hp hB _ hk hS => ?_)
  have hz : H1.size = sz := by rw [← ht]; exact hB.2
  refine va_forget (fun q hq => ?_) (kk r  H1 hp ?_)
  · have h1 : b < q.base := hS.2.2 q hq
    rw [h.2.2.2]; omega
  · rw [← ht] at hk hS hz ⊢
    exact ⟨h.1.other hz hk (fun k h0 h1 q => by have := q.1; omega), hB, ⟨hS.1, hS.2.1, fun _ hh => by cases hh⟩, h.2.2.2⟩
theorem lm_im {Q0 : Int32 → mM → Prop} {a : Array Value} (h : LW D dA b sz T R M T2 R2 M2 s.heap H) (hr : va_Run p l e Z s m args below meth c H [] cells slots 0 0 (F0 m pc ls st) rest ((Qim D dA (An (b + 200) 34) (b + 200) 34 T2 R2 sz Q0) a) (An (b + 200) 34))
    (kk : ∀ (r : Int32) (M1 : mM) (H1 : Heap), Q0 r M1 → LW D dA b sz T R M T2 R2 M1 s.heap H1 → W p l e Z s m args below meth c H1 [] cells slots QW (F0 m (pc + 3) ls (.int r :: rest))) : W p l e Z s m args below meth c H [] cells slots QW (F0 m pc ls st) := by
  refine va_calli (A0 := Ab b) hr h.2.2.1 (fun q _ h => show b < q from by have := h.1; omega) (fun q h => show b < q from by have := h.1; omega) (fun r u t H1 locs1 ht _ hp hB _ hk hS => ?_)
  have hz : H1.size = sz := by rw [← ht]; exact hB.2
  refine va_forget (fun q hq => ?_) (kk r u H1 hp ?_)
  · have h1 : b < q.base := hS.2.2 q hq
    rw [h.2.2.2]; omega
  · rw [← ht] at hk hS hz ⊢
    exact ⟨h.1.other hz hk (fun k h0 h1 q => by have := q.1; omega), hB, ⟨hS.1, hS.2.1, fun _ hh => by cases hh⟩, h.2.2.2⟩
theorem lm_zm {Q0 : Int32 → mM → Prop} {a : Array Value} (h : LW D dA b sz T R M T2 R2 M2 s.heap H) (hr : va_Run p l e Z s m args below meth c H [] cells slots 0 0 (F0 m pc ls st) rest ((Qzm D dA (An (b + 200) 34) (b + 200) 34 T2 R2 sz Q0) a) (An (b + 200) 34))
    (kk : ∀ (r : Int32) (M1 : mM) (H1 : Heap), Q0 r M1 → LW D dA b sz T R M T2 R2 M1 s.heap H1 → W p l e Z s m args below meth c H1 [] cells slots QW (F0 m (pc + 3) ls (.int r :: rest))) : W p l e Z s m args below meth c H [] cells slots QW (F0 m pc ls st) := by
  refine va_calli (A0 := Ab b) hr h.2.2.1 (fun q _ h => show b < q from by have := h.1; omega) (fun q h => show b < q from by have := h.1; omega) (fun r u t H1 locs1 ht _ hp hB _ hk hS => ?_)
  have hz : H1.size = sz := by rw [← ht]; exact hB.2
  refine va_forget (fun q hq => ?_) (kk r u H1 hp.2 ?_)
  · have h1 : b < q.base := hS.2.2 q hq
    rw [h.2.2.2]; omega
  · rw [← ht] at hk hS hz ⊢
    exact ⟨h.1.other hz hk (fun k h0 h1 q => by have := q.1; omega), hB, ⟨hS.1, hS.2.1, fun _ hh => by cases hh⟩, h.2.2.2⟩
theorem fm_newF {own : String} {locs : List Loc} {Q : State → Prop} {n : Nat} (hC : Cx p m c cc nL s args own D dA) (hw : St D dA (Ab b) b n T R M (b + n + 1) s.heap H locs) {C : String} {F : u_T} {N ci index : Nat} (hin : ∀ w ∈ u_ws C F N, w ∈ tW) (ty : Nat → FieldType) (hty : ∀ k, k < N → parseFieldDescriptor (F k).2.2.1 = some (ty k)) (hcl : Cond.classLink own index C ∈ tW) (hinst : Cond.instantiable C N ∈ tW) (hini : Cond.initialized C ∈ tW) (hc : classes[ci]? = some (C, F, N)) (hci : ci < 100) (hN : N ≤ 64) (hdef : ∀ j, j < N → defaultValue (ty j) = if fk ci j = true then .null else .int 0) (hcells : cells + 1 ≤ Z.cells) (hslots : slots + N ≤ Z.slots) (hdg : decode cc pc = .ok (.new index, 3))
    (kk : ∀ (T1 : mT) (R1 : mR) (M1 : mM) (H1 : Heap), T1 = sT T (n + 1) (ci, 0) → R1 = zR R (n + 1) → M1 = zM M (n + 1) → (∀ q, q < H.size → H1[q]? = H[q]?) → St D dA (Ab b) b (n + 1) T1 R1 M1 (b + (n + 1) + 1) s.heap H1 locs → W p l e Z s m args below meth c H1 locs (cells + 1) (slots + N) Q (F0 m (pc + 3) ls (.ref (b + (n + 1)) :: rest))) : W p l e Z s m args below meth c H locs cells slots Q (F0 m pc ls rest) := by
  obtain ⟨⟨hx, hb, hml, hown, hts⟩, hK, -⟩ := hC
  have hz := hw.1.2
  have hKn := hK.1 ci _ hc
  refine W.newcK hx hb hown (hts _ hcl) (hts _ hinst) (hts _ hini) rfl hdg hcells hslots hKn.2.1 (hz.trans (Nat.add_assoc b n 1)) fun H1 kC hkC e1 z1 o1 => ?_
  refine kk _ _ _ H1 rfl rfl rfl (fun q hq => o1 q (by omega)) (hw.push (fun j hj => by simp [sT]; omega) (fun j hj => by funext q; simp [zR]; omega) (fun j hj => by funext q; simp [zM]; omega) ?_ (by rw [z1, hz]; omega) (fun q hq => o1 q (by omega)))
  rw [cE_obj (ci := ci) (by simp [sT]) hci]
  refine ⟨_, hc, (u_born ty hts hin hKn hkC e1 hty).to (fun j hj => ?_)⟩
  have hj : j < N := hj
  rw [hdef j hj, fE_V (Nat.lt_of_lt_of_le hj hN)]
  simp [zR, zM, rv]
theorem lm_va {mc ms : Nat} {Q0 : Nat → mT → mR → mM → Prop} {a : Array Value} (hS0 : va_S (Ab b) s.heap H []) (hH0 : s.heap.size = b + 1) (hW1 : Wd D dA b 200 T R M sz H) (hr : va_Run p l e Z s m args below meth c H [] cells slots mc ms (F0 m pc ls st) rest ((Qva D dA (b + 200) Q0) a) (Ab (b + 200)))
    (kk : ∀ (n1 : Nat) (T1 : mT) (R1 : mR) (M1 : mM) (H1 : Heap), Q0 n1 T1 R1 M1 → Wd D dA (b + 200) n1 T1 R1 M1 (b + 200 + n1 + 1) H1 → Wd D dA b 200 T R M (b + 200 + n1 + 1) H1 → va_S (Ab b) s.heap H1 [] → W p l e Z s m args below meth c H1 [] (cells + mc) (slots + ms) QW (F0 m (pc + 3) ls rest)) : W p l e Z s m args below meth c H [] cells slots QW (F0 m pc ls st) := by
  refine va_callv (A0 := Ab b) hr hS0 (fun q _ h => show b < q from by have h : b + 200 < q := h; omega) (fun q h => show b < q from by have h : b + 200 < q := h; omega) (fun u t H1 locs1 ht _ hp hB _ hk hS => ?_)
  refine va_forget (fun q hq => ?_) ?_
  · have h1 : b < q.base := hS.2.2 q hq
    omega
  · rw [← ht] at hk hS ⊢
    exact kk u.1 u.2.1 u.2.2.1 u.2.2.2 t.heap hp hB (hW1.other hB.2 hk (fun k h0 h1 q => by have q : b + 200 < b + k := q; omega)) ⟨hS.1, hS.2.1, fun _ hh => by cases hh⟩
end LR
set_option maxHeartbeats 4000000 in
/-- cell(script, k), for a place k that is not negative: the script's int there, or 0 -/
theorem c_Law_cell (l : Launch) (b L : Nat) (xs : Nat → Int32) (hL : L < 2 ^ 31) (k : Nat) (hk : k < 2 ^ 31) : Met l y_Law_cell (Cond.code y_Law_cell b_Law_cell 2 (some .int) :: tW) ({ frames := 0, cells := 0, slots := 0, locals := 0 }) (va_Pc [.ref b, .int (nI k)] (fun U => va_X b L xs U U.heap)) (QcRead (if k < L then xs k else 0)) 0 0 (fun _ => False) := by
  refine Met.ofW (cc := b_Law_cell) (maxL := 2) (ret := some .int) (by decide) rfl ?_
  intro p e s m args below meth c s₁ B hml hv
  obtain ⟨rfl, hX⟩ := hv
  have hx := B.exec
  have hb := B.bytes
  have hr := B.returns
  have hlk := B.notSynchronized
  have hbl : b < s.heap.size := by obtain ⟨scr, h1, -⟩ := hX; exact (Array.getElem?_eq_some_iff.mp h1).1
  have hS : va_S (fun _ => False) s.heap s.heap [] := va_S.rf
  have hl := lv_entry ([.ref b, .int (nI k)]) (n := 2) (Nat.le_of_ble_eq_true rfl)
  rw [lg_entry_eq]
  generalize (lg_sl ([.ref b, .int (nI k)]) ++ List.replicate (2 - (lg_sl ([.ref b, .int (nI k)])).length) Slot.unset).toArray = ls at hl ⊢
  have hl : lv_has ls 2 [(0, .ref b), (1, .int (nI k))] := hl
  refine lv_iload_n (pc := 0) hx hb d_Law_cell_0 rfl (lv_at hl 1 rfl) ?_
  refine lv_aload_n (pc := 1) hx hb d_Law_cell_1 rfl (lv_at hl 0 rfl) ?_
  refine va_slen (pc := 2) hx hb hX hbl (fun h => h) hS d_Law_cell_2 ?_
  refine lv_icmp_ge (pc := 3) (tgt := 12) hx hb d_Law_cell_3 rfl (fun hc => ?_) (fun hc => ?_)
  · have hkL : ¬ k < L := fun h => nI_ge h hL hc
    rw [if_neg hkL]
    refine lv_iconst (v := 0) (pc := 12) hx hb d_Law_cell_12 (by decide) ?_
    exact W.iret hx hb hr (fun t ht _ => ⟨rfl, ht⟩) (fun q h => by cases h) d_Law_cell_13 hlk
  · have hkL : k < L := Nat.not_le.mp fun h => hc (nI_le h hk)
    rw [if_pos hkL]
    refine lv_aload_n (pc := 6) hx hb d_Law_cell_6 rfl (lv_at hl 0 rfl) ?_
    refine lv_iload_n (pc := 7) hx hb d_Law_cell_7 rfl (lv_at hl 1 rfl) ?_
    refine va_sld (pc := 8) hx hb hX hbl (fun h => h) hS (vp_in_nI hkL hL) d_Law_cell_8 ?_
    rw [nI_clamp hk]
    refine lv_goto (pc := 9) (tgt := 13) hx hb d_Law_cell_9 rfl ?_
    exact W.iret hx hb hr (fun t ht _ => ⟨rfl, ht⟩) (fun q h => by cases h) d_Law_cell_13 hlk
