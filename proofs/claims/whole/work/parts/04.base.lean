/-! A flat memory over the kit's worlds: cells 1..n at the addresses b+1..b+n; T: tag and length of a cell, R: its reference slots (0 is null), M: its int slots. A tag below 100 is an object of that class of 'classes'; 100 int[], 101 boolean[], 102.. arrays of references. -/
abbrev mT : Type := Nat → Nat × Nat
abbrev mR : Type := Nat → Nat → Nat
abbrev mM : Type := Nat → Nat → Int32
def sM (M : mM) (k j : Nat) (v : Int32) : mM := fun k' j' => if k' = k ∧ j' = j then v else M k' j'
def sR (R : mR) (k j : Nat) (v : Nat) : mR := fun k' j' => if k' = k ∧ j' = j then v else R k' j'
def sT (T : mT) (k : Nat) (v : Nat × Nat) : mT := fun k' => if k' = k then v else T k'
def zM (M : mM) (k : Nat) : mM := fun k' j => if k' = k then 0 else M k' j
def zR (R : mR) (k : Nat) : mR := fun k' j => if k' = k then 0 else R k' j
def rv (b r : Nat) : Value := if r = 0 then .null else .ref (b + r)
def ro (b r : Nat) : Option Nat := if r = 0 then none else some (b + r)
theorem rv_ne {b r : Nat} (h : r ≠ 0) : rv b r = .ref (b + r) := if_neg h
theorem ro_ne {b r : Nat} (h : r ≠ 0) : ro b r = some (b + r) := if_neg h
def fE (ci b : Nat) (R : Nat → Nat) (M : Nat → Int32) : List Value := (List.range 64).map (fun j => if fk ci j = true then rv b (R j) else .int (M j))
def cE (dA : Nat → ClassId) (b : Nat) (T : Nat × Nat) (R : Nat → Nat) (M : Nat → Int32) : va_E :=
  if T.1 < 100 then .inr (T.1, fE T.1 b R M)
  else if T.1 < 102 then .inl (dA (T.1 - 100), T.2, .inl M)
  else .inl (dA (T.1 - 100), T.2, .inr (.inr (.inr (.inr (fun j => ro b (R j))))))
def wL (dA : Nat → ClassId) (b n : Nat) (T : mT) (R : mR) (M : mM) : va_W := (List.range n).map (fun k => (b + (k + 1), cE dA b (T (k + 1)) (R (k + 1)) (M (k + 1))))
def Ab (b : Nat) : Nat → Prop := fun q => b < q
def An (b n : Nat) : Nat → Prop := fun q => b < q ∧ q ≤ b + n
def tysOf (dA : Nat → ClassId) : List (ClassId × FieldType) := [(dA 0, .int), (dA 1, .boolean), (dA 2, .object aoC2), (dA 3, .object aoC3), (dA 4, .object aoC4)]
def Wd (D : va_G) (dA : Nat → ClassId) (b n : Nat) (T : mT) (R : mR) (M : mM) (sz : Nat) (H : Heap) : Prop := va_P D classes (wL dA b n T R M) H ∧ H.size = sz
def St (D : va_G) (dA : Nat → ClassId) (A : Nat → Prop) (b n : Nat) (T : mT) (R : mR) (M : mM) (sz : Nat) (H0 H : Heap) (locs : List Loc) : Prop := Wd D dA b n T R M sz H ∧ va_S A H0 H locs ∧ ∀ k : Nat, 0 < k → k ≤ n → A (b + k)
def Ev (D : va_G) (dA : Nat → ClassId) (U : State) : Prop := va_K D classes (tysOf dA) U ∧ (∀ q ∈ nestW, va_Nw (.methodLinkNest q.1 q.2.1 q.2.2.1 q.2.2.2) U) ∧ (∀ x ∈ declW, va_Nw (.declares x) U) ∧ ∀ C ∈ aoW, va_AO C U
def ok (T : mT) (n r tg : Nat) : Prop := 0 < r ∧ r ≤ n ∧ (T r).1 = tg
def Cx (p : Program) (m : MethodId) (c : Code) (cc : ByteArray) (nL : Nat) (s : State) (args : Array Value) (own : String) (D : va_G) (dA : Nat → ClassId) : Prop := CallFix p m c cc nL s args tW own ∧ Ev D dA s
theorem Ev.warm {D : va_G} {dA : Nat → ClassId} {s U : State} (hW : s.WarmedH U.vm) (h : Ev D dA s) : Ev D dA U :=
  ⟨va_K.moved hW.alike h.1, fun q hq => va_Nw.warmM hW (h.2.1 q hq), fun x hx => va_Nw.warmD hW (h.2.2.1 x hx), fun C hC => va_AO.moved hW.alike (h.2.2.2 C hC)⟩
theorem Ev.calling {D : va_G} {dA : Nat → ClassId} {U : State} (g : JFrame) (mk : MethodId) (a : Array Value) (h : Ev D dA U) : Ev D dA (U.calling g mk a) :=
  ⟨va_K.moved (Vm.Alike.refl U.vm) h.1, fun q hq => va_Nw.same rfl rfl (h.2.1 q hq), fun x hx => va_Nw.same rfl rfl (h.2.2.1 x hx), fun C hC => va_AO.moved (Vm.Alike.refl U.vm) (h.2.2.2 C hC)⟩
theorem wL_get {dA : Nat → ClassId} {b n : Nat} {T : mT} {R : mR} {M : mM} {k : Nat} (h0 : 0 < k) (h : k ≤ n) : (wL dA b n T R M)[k - 1]? = some (b + k, cE dA b (T k) (R k) (M k)) := by
  have h1 : k - 1 < n := by omega
  have h2 : k - 1 + 1 = k := by omega
  simp [wL, List.getElem?_map, List.getElem?_range h1, h2]
theorem wL_len {dA : Nat → ClassId} {b n : Nat} {T : mT} {R : mR} {M : mM} : (wL dA b n T R M).length = n := by simp [wL]
theorem wL_inv {dA : Nat → ClassId} {b n : Nat} {T : mT} {R : mR} {M : mM} {k : Nat} {q : Nat × va_E} (h : (wL dA b n T R M)[k]? = some q) : k < n ∧ q = (b + (k + 1), cE dA b (T (k + 1)) (R (k + 1)) (M (k + 1))) := by
  have hk : k < n := by
    have := (List.getElem?_eq_some_iff.mp h).1
    rwa [wL_len] at this
  have h2 := wL_get (dA := dA) (b := b) (T := T) (R := R) (M := M) (k := k + 1) (n := n) (by omega) (by omega)
  rw [Nat.add_sub_cancel] at h2
  exact ⟨hk, Option.some.inj (h.symm.trans h2)⟩
theorem cE_obj {dA : Nat → ClassId} {b : Nat} {T : Nat × Nat} {R : Nat → Nat} {M : Nat → Int32} {ci : Nat} (h : T.1 = ci) (hci : ci < 100) : cE dA b T R M = .inr (ci, fE ci b R M) := by
  unfold cE
  rw [h, if_pos hci]
theorem cE_int {dA : Nat → ClassId} {b : Nat} {T : Nat × Nat} {R : Nat → Nat} {M : Nat → Int32} (h : T.1 = 100) : cE dA b T R M = .inl (dA 0, T.2, .inl M) := by
  unfold cE
  rw [h, if_neg (by decide), if_pos (by decide)]
theorem cE_bool {dA : Nat → ClassId} {b : Nat} {T : Nat × Nat} {R : Nat → Nat} {M : Nat → Int32} (h : T.1 = 101) : cE dA b T R M = .inl (dA 1, T.2, .inl M) := by
  unfold cE
  rw [h, if_neg (by decide), if_pos (by decide)]
theorem cE_ref {dA : Nat → ClassId} {b : Nat} {T : Nat × Nat} {R : Nat → Nat} {M : Nat → Int32} (t : Nat) (ht : 2 ≤ t) (h : T.1 = 100 + t) : cE dA b T R M = .inl (dA t, T.2, .inr (.inr (.inr (.inr (fun j => ro b (R j)))))) := by
  unfold cE
  rw [h, if_neg (by omega), if_neg (by omega), Nat.add_sub_cancel_left]
theorem fE_get {ci b : Nat} {R : Nat → Nat} {M : Nat → Int32} {k : Nat} (hk : k < 64) : (fE ci b R M)[k]? = some (if fk ci k = true then rv b (R k) else .int (M k)) := by
  simp [fE, List.getElem?_map, List.getElem?_range hk]
theorem fE_V {ci b : Nat} {R : Nat → Nat} {M : Nat → Int32} {k : Nat} (hk : k < 64) : vp_V (fE ci b R M) k = if fk ci k = true then rv b (R k) else .int (M k) := by
  show (fE ci b R M).getD k .null = _
  rw [List.getD_eq_getElem?_getD, fE_get hk]
  rfl
theorem sM_k {M : mM} {k j : Nat} {v : Int32} : ∀ i, i ≠ k → sM M k j v i = M i := fun i hi => by funext q; simp [sM, hi]
theorem sM_s {M : mM} {k j : Nat} {v : Int32} : sM M k j v k = upd (M k) j v := by funext q; simp [sM, upd]
theorem sR_k {R : mR} {k j : Nat} {v : Nat} : ∀ i, i ≠ k → sR R k j v i = R i := fun i hi => by funext q; simp [sR, hi]
theorem sM_j {M : mM} {k j : Nat} {v : Int32} : ∀ i, i ≠ j → sM M k j v k i = M k i := fun i hi => by simp [sM, hi]
theorem sR_j {R : mR} {k j : Nat} {v : Nat} : ∀ i, i ≠ j → sR R k j v k i = R k i := fun i hi => by simp [sR, hi]
theorem sM_e {M : mM} {k j : Nat} {v : Int32} : sM M k j v k j = v := by simp [sM]
theorem sR_e {R : mR} {k j : Nat} {v : Nat} : sR R k j v k j = v := by simp [sR]
theorem nzb {x : Int32} (h : x = 0 ∨ x = 1) : narrow .boolean (.int x) = .int x := by rcases h with rfl | rfl <;> rfl
theorem fzb {x : Int32} (h : x = 0 ∨ x = 1) : fits .boolean (.int x) = true := by rcases h with rfl | rfl <;> rfl
section FM
variable {p : Program} {l : Launch} {e : Env} {Z : Room} {s : State} {m : MethodId} {args : Array Value} {below : List Frame} {meth : Method} {c : Code} {H : Heap} {locs : List Loc} {cells slots : Nat} {Q : State → Prop}
variable {cc : ByteArray} {pc nL : Nat} {ls : Array Slot} {rest : List Value} {D : va_G} {dA : Nat → ClassId} {A : Nat → Prop} {b n sz : Nat} {T : mT} {R : mR} {M : mM} {own : String}
theorem fm_geti (hC : Cx p m c cc nL s args own D dA) (hw : St D dA A b n T R M sz s.heap H locs) {C ref : String} {F : u_T} {N ci index h : Nat} (hin : ∀ w ∈ u_ws C F N, w ∈ tW) (hc : classes[ci]? = some (C, F, N)) (hci : ci < 100) (k : Nat) (hk : k < N) (hk6 : k < 64) (hf : fk ci k = false) (hlink : Cond.fieldLink own index ref (F k).2.1 (F k).2.2.1 ∈ tW) (hsame : ref = (F k).1 ∨ Cond.sameField ref (F k).1 (F k).2.1 (F k).2.2.1 ∈ tW) (ht : ok T n h ci) (hdg : decode cc pc = .ok (.getfield index, 3))
    (kk : W p l e Z s m args below meth c H locs cells slots Q (F0 m (pc + 3) ls (.int (M h k) :: rest))) : W p l e Z s m args below meth c H locs cells slots Q (F0 m pc ls (.ref (b + h) :: rest)) := by
  obtain ⟨⟨hx, hb, hml, hown, hts⟩, hK, -⟩ := hC
  refine va_get (D := D) (ci := ci) (v := .int (M h k)) hx hb hts hin hown hK hw.1.1 (h - 1) ((wL_get ht.1 ht.2.1).trans (by rw [cE_obj ht.2.2 hci])) hc k hk (hts _ hlink) (fun x9 h9 => ?_) (by rw [fE_get hk6, hf]; rfl) hdg kk
  rcases hsame with h | h
  · rw [h]; exact h9
  · exact u_same (hts _ h) x9 h9
theorem fm_getr (hC : Cx p m c cc nL s args own D dA) (hw : St D dA A b n T R M sz s.heap H locs) {C ref : String} {F : u_T} {N ci index h : Nat} (hin : ∀ w ∈ u_ws C F N, w ∈ tW) (hc : classes[ci]? = some (C, F, N)) (hci : ci < 100) (k : Nat) (hk : k < N) (hk6 : k < 64) (hf : fk ci k = true) (hlink : Cond.fieldLink own index ref (F k).2.1 (F k).2.2.1 ∈ tW) (hsame : ref = (F k).1 ∨ Cond.sameField ref (F k).1 (F k).2.1 (F k).2.2.1 ∈ tW) (ht : ok T n h ci) (hr : R h k ≠ 0) (hdg : decode cc pc = .ok (.getfield index, 3))
    (kk : W p l e Z s m args below meth c H locs cells slots Q (F0 m (pc + 3) ls (.ref (b + R h k) :: rest))) : W p l e Z s m args below meth c H locs cells slots Q (F0 m pc ls (.ref (b + h) :: rest)) := by
  obtain ⟨⟨hx, hb, hml, hown, hts⟩, hK, -⟩ := hC
  refine va_get (D := D) (ci := ci) (v := .ref (b + R h k)) hx hb hts hin hown hK hw.1.1 (h - 1) ((wL_get ht.1 ht.2.1).trans (by rw [cE_obj ht.2.2 hci])) hc k hk (hts _ hlink) (fun x9 h9 => ?_) (by rw [fE_get hk6, hf, if_pos rfl, rv_ne hr]) hdg kk
  rcases hsame with h | h
  · rw [h]; exact h9
  · exact u_same (hts _ h) x9 h9
end FM
theorem Wd.upd {D : va_G} {dA : Nat → ClassId} {b n sz : Nat} {T : mT} {R R' : mR} {M M' : mM} {H H1 : Heap} {k : Nat} (hw : Wd D dA b n T R M sz H) (h0 : 0 < k) (hR : ∀ j, j ≠ k → R' j = R j) (hM : ∀ j, j ≠ k → M' j = M j) (hat : va_at D classes (b + k, cE dA b (T k) (R' k) (M' k)) H1) (hz : H1.size = H.size) (ho : ∀ q : Nat, q ≠ b + k → H1[q]? = H[q]?) : Wd D dA b n T R' M' sz H1 := by
  refine ⟨fun j q hj => ?_, hz.trans hw.2⟩
  obtain ⟨hjn, rfl⟩ := wL_inv hj
  by_cases hk : j + 1 = k
  · subst hk
    exact hat
  · rw [hR _ hk, hM _ hk]
    have h1 := hw.1 j _ (show (wL dA b n T R M)[j]? = some (b + (j + 1), cE dA b (T (j + 1)) (R (j + 1)) (M (j + 1))) from wL_get (k := j + 1) (Nat.succ_pos j) hjn)
    exact h1.kept (ho _ (fun q => hk (Nat.add_left_cancel q)))
theorem Wd.push {D : va_G} {dA : Nat → ClassId} {b n : Nat} {T T' : mT} {R R' : mR} {M M' : mM} {H H1 : Heap} (hw : Wd D dA b n T R M (b + n + 1) H) (hT : ∀ j, j ≤ n → T' j = T j) (hR : ∀ j, j ≤ n → R' j = R j) (hM : ∀ j, j ≤ n → M' j = M j) (hat : va_at D classes (b + (n + 1), cE dA b (T' (n + 1)) (R' (n + 1)) (M' (n + 1))) H1) (hz : H1.size = H.size + 1) (ho : ∀ q : Nat, q < H.size → H1[q]? = H[q]?) : Wd D dA b (n + 1) T' R' M' (b + (n + 1) + 1) H1 := by
  refine ⟨fun j q hj => ?_, by rw [hz, hw.2]; omega⟩
  obtain ⟨hjn, rfl⟩ := wL_inv hj
  by_cases hk : j = n
  · subst hk
    exact hat
  · have hl : j + 1 ≤ n := by omega
    rw [hT _ hl, hR _ hl, hM _ hl]
    have h1 := hw.1 j _ (show (wL dA b n T R M)[j]? = some (b + (j + 1), cE dA b (T (j + 1)) (R (j + 1)) (M (j + 1))) from wL_get (k := j + 1) (Nat.succ_pos j) hl)
    exact h1.kept (ho _ h1.lt)
theorem St.upd {D : va_G} {dA : Nat → ClassId} {A : Nat → Prop} {b n sz : Nat} {T : mT} {R R' : mR} {M M' : mM} {H0 H H1 : Heap} {locs : List Loc} {k i : Nat} (hw : St D dA A b n T R M sz H0 H locs) (h0 : 0 < k) (hn : k ≤ n) (hR : ∀ j, j ≠ k → R' j = R j) (hM : ∀ j, j ≠ k → M' j = M j) (hat : va_at D classes (b + k, cE dA b (T k) (R' k) (M' k)) H1) (hz : H1.size = H.size) (ho : ∀ q : Nat, q ≠ b + k → H1[q]? = H[q]?) : St D dA A b n T R' M' sz H0 H1 (locs ++ [⟨b + k, i⟩]) :=
  ⟨hw.1.upd h0 hR hM hat hz ho, hw.2.1.put hz ho (hw.2.2 k h0 hn), hw.2.2⟩
theorem St.push {D : va_G} {dA : Nat → ClassId} {b n : Nat} {T T' : mT} {R R' : mR} {M M' : mM} {H0 H H1 : Heap} {locs : List Loc} (hw : St D dA (Ab b) b n T R M (b + n + 1) H0 H locs) (hT : ∀ j, j ≤ n → T' j = T j) (hR : ∀ j, j ≤ n → R' j = R j) (hM : ∀ j, j ≤ n → M' j = M j) (hat : va_at D classes (b + (n + 1), cE dA b (T' (n + 1)) (R' (n + 1)) (M' (n + 1))) H1) (hz : H1.size = H.size + 1) (ho : ∀ q : Nat, q < H.size → H1[q]? = H[q]?) : St D dA (Ab b) b (n + 1) T' R' M' (b + (n + 1) + 1) H0 H1 locs :=
  ⟨hw.1.push hT hR hM hat hz ho, ⟨Nat.le_trans hw.2.1.1 (by omega), fun q h1 h2 => (ho q (Nat.lt_of_lt_of_le h1 hw.2.1.1)).trans (hw.2.1.2.1 q h1 h2), hw.2.1.2.2⟩, fun k h0 _ => show b < b + k by omega⟩
section FN
variable {p : Program} {l : Launch} {e : Env} {Z : Room} {s : State} {m : MethodId} {args : Array Value} {below : List Frame} {meth : Method} {c : Code} {H : Heap} {locs : List Loc} {cells slots : Nat} {Q : State → Prop}
variable {cc : ByteArray} {pc nL : Nat} {ls : Array Slot} {rest : List Value} {D : va_G} {dA : Nat → ClassId} {A : Nat → Prop} {b n sz : Nat} {T : mT} {R : mR} {M : mM} {own : String}
/-- a field is written: v is what the new memory holds there; final fields in their class's constructor -/
theorem fm_put (hC : Cx p m c cc nL s args own D dA) (hw : St D dA A b n T R M sz s.heap H locs) {C ref : String} {F : u_T} {N ci index h : Nat} (hin : ∀ w ∈ u_ws C F N, w ∈ tW) (ty0 : Nat → FieldType) (hty : ∀ k, k < N → parseFieldDescriptor (F k).2.2.1 = some (ty0 k)) (hnm : ∀ a, a < N → ∀ b, b < N → a ≠ b → (F a).2.1 ≠ (F b).2.1) (hc : classes[ci]? = some (C, F, N)) (hci : ci < 100) (hN : N ≤ 64) (k : Nat) (hk : k < N) (hlink : Cond.fieldLink own index ref (F k).2.1 (F k).2.2.1 ∈ tW) (hsame : ref = (F k).1 ∨ Cond.sameField ref (F k).1 (F k).2.1 (F k).2.2.1 ∈ tW)
    (hfin : (F k).2.2.2 = false ∨ ((F k).2.2.2 = true ∧ meth.name = "<init>" ∧ (F k).1 = own)) {v : Value} {R' : mR} {M' : mM} (hn : narrow (ty0 k) v = v) (hfit : fits (ty0 k) v = true) (hv : v = if fk ci k = true then rv b (R' h k) else .int (M' h k)) (hRk : ∀ j, j ≠ h → R' j = R j) (hMk : ∀ j, j ≠ h → M' j = M j) (hRj : ∀ j, j ≠ k → R' h j = R h j) (hMj : ∀ j, j ≠ k → M' h j = M h j) (ht : ok T n h ci) (hdg : decode cc pc = .ok (.putfield index, 3))
    (kk : ∀ (H1 : Heap) (locs1 : List Loc), St D dA A b n T R' M' sz s.heap H1 locs1 → W p l e Z s m args below meth c H1 locs1 cells slots Q (F0 m (pc + 3) ls rest)) : W p l e Z s m args below meth c H locs cells slots Q (F0 m pc ls (v :: .ref (b + h) :: rest)) := by
  obtain ⟨⟨hx, hb, hml, hown, hts⟩, hK, -⟩ := hC
  have hap := va_apart (own := own) hts hin ty0 hty hnm hK hc
  have he : (wL dA b n T R M)[h - 1]? = some (b + h, .inr (ci, fE ci b (R h) (M h))) := (wL_get ht.1 ht.2.1).trans (by rw [cE_obj ht.2.2 hci])
  obtain ⟨r, h1, cell, q1, q2, q3, q4⟩ := hw.1.1 (h - 1) _ he
  have hr : r = (C, F, N) := Option.some.inj (h1.symm.trans hc)
  subst hr
  obtain ⟨hS, hfc, kC, hkC, hkind⟩ := hK.1 ci _ hc
  obtain ⟨cf, kf, fi, f, hi, hsl⟩ := hS k hk
  have hlay := hts _ (hin _ (u_in_lay hk))
  have hst := (u_facts hfc hkC (u_lays hts hin hk) hi).1
  have hi' : s.fieldFound? ref (F k).2.1 (F k).2.2.1 = some (cf, kf, fi, f) := by
    rcases hsame with h | h
    · rw [h]; exact hi
    · exact u_same (hts _ h) _ hi
  have go : ∀ (H1 : Heap), H1[b + h]? = some (cell.setSlot f.slot v) → H1.size = H.size → (∀ q, q ≠ b + h → H1[q]? = H[q]?) → W p l e Z s m args below meth c H1 (locs ++ [⟨b + h, f.slot⟩]) cells slots Q (F0 m (pc + 3) ls rest) := by
    intro H1 e1 e2 e3
    rw [hsl] at e1
    refine kk H1 _ (hw.upd ht.1 ht.2.1 hRk hMk ?_ e2 e3)
    rw [cE_obj ht.2.2 hci]
    refine ⟨_, hc, t_OB.to (V := updV (vp_V (fE ci b (R h) (M h))) k v) ⟨_, e1, q2, q3, t_set q4 hap hk v⟩ (fun j hj => ?_)⟩
    have hj : j < N := hj
    have hj6 : j < 64 := Nat.lt_of_lt_of_le hj hN
    show updV (vp_V (fE ci b (R h) (M h))) k v j = vp_V (fE ci b (R' h) (M' h)) j
    rw [fE_V hj6]
    by_cases hjk : j = k
    · subst hjk
      simp [updV, hv]
    · simp only [updV, hjk, if_false]
      rw [fE_V hj6, hRj j hjk, hMj j hjk]
  rcases hfin with hfin | ⟨hfin, hin2, hdecl⟩
  · unfold u_lay at hlay
    rw [if_neg (by rw [hfin]; decide)] at hlay
    have h6 := u_store hfc hkC hkind hlay hi (hty k hk) hn hfit
    exact W.putK hx hb (f := f) ⟨hown, hts _ hlink, ⟨_, _, _, hi'⟩, hst⟩ (by rw [q2]; exact h6) q1 q3 (by rw [hsl]; exact k2_hasslot (q4 k hk)) rfl rfl hdg go
  · unfold u_lay at hlay
    rw [if_pos hfin] at hlay
    have hcf : m.cls = cf := by
      obtain ⟨_, _, c', _, _, _, -, -, hf', -, -, -, hown2, -⟩ := Cond.laysFinal_spec hlay
      have e1 : c' = cf := by have := hi.symm.trans hf'; simp at this; exact this.1.symm
      rw [hdecl] at hown2
      rw [← e1]; exact Option.some.inj (hown.symm.trans hown2)
    have h6 := u_fits hfc hkC hkind (Or.inr hlay) hi (hty k hk) hn hfit
    exact W.putFinK hx hb hown (hts _ hlink) hi' hst hcf hin2 (by rw [q2]; exact h6) q1 q3 (by rw [hsl]; exact k2_hasslot (q4 k hk)) rfl rfl hdg go
theorem fm_alen (hC : Cx p m c cc nL s args own D dA) (hw : St D dA A b n T R M sz s.heap H locs) {h tg t0 : Nat} (ht : ok T n h tg) (htg : tg = 100 + t0) (ht0 : t0 < 5) (hdg : decode cc pc = .ok (.arraylength, 1))
    (kk : W p l e Z s m args below meth c H locs cells slots Q (F0 m (pc + 1) ls (.int (nI (T h).2) :: rest))) : W p l e Z s m args below meth c H locs cells slots Q (F0 m pc ls (.ref (b + h) :: rest)) := by
  obtain ⟨⟨hx, hb, hml, hown, hts⟩, hK, -⟩ := hC
  have h0 := wL_get (dA := dA) (b := b) (T := T) (R := R) (M := M) ht.1 ht.2.1
  have hty : ∃ ty, (tysOf dA)[t0]? = some (dA t0, ty) := by
    rcases (show t0 = 0 ∨ t0 = 1 ∨ t0 = 2 ∨ t0 = 3 ∨ t0 = 4 by omega) with rfl | rfl | rfl | rfl | rfl <;> exact ⟨_, rfl⟩
  obtain ⟨ty, hty⟩ := hty
  have htt := ht.2.2
  by_cases h2 : t0 < 2
  · rcases (show t0 = 0 ∨ t0 = 1 by omega) with rfl | rfl
    · rw [cE_int (by rw [htt, htg])] at h0
      exact va_alen hx hb hK hw.1.1 (h - 1) 0 h0 hty rfl hdg kk
    · rw [cE_bool (by rw [htt, htg])] at h0
      exact va_alen hx hb hK hw.1.1 (h - 1) 1 h0 hty rfl hdg kk
  · rw [cE_ref t0 (by omega) (by rw [htt, htg])] at h0
    exact va_alen hx hb hK hw.1.1 (h - 1) t0 h0 hty rfl hdg kk
theorem fm_iald (hC : Cx p m c cc nL s args own D dA) (hw : St D dA A b n T R M sz s.heap H locs) {h : Nat} {i : Int32} (ht : ok T n h 100) (hin : vp_in i (T h).2) {j : Nat} (hj : i.toNatClampNeg = j) (hdg : decode cc pc = .ok (.iaload, 1))
    (kk : W p l e Z s m args below meth c H locs cells slots Q (F0 m (pc + 1) ls (.int (M h j) :: rest))) : W p l e Z s m args below meth c H locs cells slots Q (F0 m pc ls (.int i :: .ref (b + h) :: rest)) := by
  subst hj
  obtain ⟨⟨hx, hb, hml, hown, hts⟩, hK, -⟩ := hC
  have h0 := wL_get (dA := dA) (b := b) (T := T) (R := R) (M := M) ht.1 ht.2.1
  rw [cE_int ht.2.2] at h0
  exact va_iald hx hb hK hw.1.1 (h - 1) 0 h0 rfl hin hdg kk
theorem fm_zald (hC : Cx p m c cc nL s args own D dA) (hw : St D dA A b n T R M sz s.heap H locs) {h : Nat} {i : Int32} (ht : ok T n h 101) (hin : vp_in i (T h).2) {j : Nat} (hj : i.toNatClampNeg = j) (hdg : decode cc pc = .ok (.baload, 1))
    (kk : W p l e Z s m args below meth c H locs cells slots Q (F0 m (pc + 1) ls (.int (M h j) :: rest))) : W p l e Z s m args below meth c H locs cells slots Q (F0 m pc ls (.int i :: .ref (b + h) :: rest)) := by
  subst hj
  obtain ⟨⟨hx, hb, hml, hown, hts⟩, hK, -⟩ := hC
  have h0 := wL_get (dA := dA) (b := b) (T := T) (R := R) (M := M) ht.1 ht.2.1
  rw [cE_bool ht.2.2] at h0
  exact va_zald hx hb hK hw.1.1 (h - 1) 1 h0 rfl hin hdg kk
theorem fm_aald (hC : Cx p m c cc nL s args own D dA) (hw : St D dA A b n T R M sz s.heap H locs) {h : Nat} {i : Int32} {C : String} (t0 : Nat) (hty : (tysOf dA)[t0]? = some (dA t0, .object C)) (ht2 : 2 ≤ t0) (ht : ok T n h (100 + t0)) (hin : vp_in i (T h).2) {j : Nat} (hj : i.toNatClampNeg = j) (hr : R h j ≠ 0) (hdg : decode cc pc = .ok (.aaload, 1))
    (kk : W p l e Z s m args below meth c H locs cells slots Q (F0 m (pc + 1) ls (.ref (b + R h j) :: rest))) : W p l e Z s m args below meth c H locs cells slots Q (F0 m pc ls (.int i :: .ref (b + h) :: rest)) := by
  subst hj
  obtain ⟨⟨hx, hb, hml, hown, hts⟩, hK, -⟩ := hC
  have h0 := wL_get (dA := dA) (b := b) (T := T) (R := R) (M := M) ht.1 ht.2.1
  rw [cE_ref t0 ht2 ht.2.2] at h0
  refine va_aldq hx hb hK hw.1.1 (h - 1) t0 h0 hty hin hdg ?_
  show W p l e Z s m args below meth c H locs cells slots Q (F0 m (pc + 1) ls (va_rf (ro b (R h i.toNatClampNeg)) :: rest))
  rw [ro_ne hr]
  exact kk
theorem fm_iast (hC : Cx p m c cc nL s args own D dA) (hw : St D dA A b n T R M sz s.heap H locs) {h : Nat} {i x : Int32} (ht : ok T n h 100) (hin : vp_in i (T h).2) {j : Nat} (hj : i.toNatClampNeg = j) (hdg : decode cc pc = .ok (.iastore, 1))
    (kk : ∀ (M1 : mM) (H1 : Heap) (locs1 : List Loc), M1 = sM M h j x → St D dA A b n T R M1 sz s.heap H1 locs1 → W p l e Z s m args below meth c H1 locs1 cells slots Q (F0 m (pc + 1) ls rest)) : W p l e Z s m args below meth c H locs cells slots Q (F0 m pc ls (.int x :: .int i :: .ref (b + h) :: rest)) := by
  subst hj
  obtain ⟨⟨hx, hb, hml, hown, hts⟩, hK, -⟩ := hC
  have h0 := wL_get (dA := dA) (b := b) (T := T) (R := R) (M := M) ht.1 ht.2.1
  rw [cE_int ht.2.2] at h0
  refine W.iast hx hb (hw.1.1 (h - 1) _ h0) ((hK.2 0 _ rfl).1 (T h).2 (fun j => .int (M h j))) (fun q => by cases q) (by show ¬ (i < 0 ∨ (arrV _ _ _).slots.size ≤ _); rw [arrV_size]; exact hin) rfl rfl hdg fun H1 e1 z oq => ?_
  refine kk _ H1 _ rfl (hw.upd ht.1 ht.2.1 (fun _ _ => rfl) sM_k ?_ z oq)
  rw [cE_int ht.2.2]
  show H1[b + h]? = some (vp_cell _ _)
  rw [e1]
  rw [vp_cell_i, vp_cell_i, arrV_store, sM_s]
  congr 2
  funext q
  by_cases hq : q = i.toNatClampNeg
  · subst hq
    simp [updV, upd]
  · simp [updV, upd, hq]
theorem fm_zast (hC : Cx p m c cc nL s args own D dA) (hw : St D dA A b n T R M sz s.heap H locs) {h : Nat} {i x : Int32} (hz : x = 0 ∨ x = 1) (ht : ok T n h 101) (hin : vp_in i (T h).2) {j : Nat} (hj : i.toNatClampNeg = j) (hdg : decode cc pc = .ok (.bastore, 1))
    (kk : ∀ (M1 : mM) (H1 : Heap) (locs1 : List Loc), M1 = sM M h j x → St D dA A b n T R M1 sz s.heap H1 locs1 → W p l e Z s m args below meth c H1 locs1 cells slots Q (F0 m (pc + 1) ls rest)) : W p l e Z s m args below meth c H locs cells slots Q (F0 m pc ls (.int x :: .int i :: .ref (b + h) :: rest)) := by
  subst hj
  obtain ⟨⟨hx, hb, hml, hown, hts⟩, hK, -⟩ := hC
  have h0 := wL_get (dA := dA) (b := b) (T := T) (R := R) (M := M) ht.1 ht.2.1
  rw [cE_bool ht.2.2] at h0
  refine W.zast hx hb (hw.1.1 (h - 1) _ h0) ((hK.2 1 _ rfl).1 (T h).2 (fun j => .int (M h j))) (fun q => by cases q) (by show ¬ (i < 0 ∨ (arrV _ _ _).slots.size ≤ _); rw [arrV_size]; exact hin) rfl rfl hdg fun H1 e1 z oq => ?_
  refine kk _ H1 _ rfl (hw.upd ht.1 ht.2.1 (fun _ _ => rfl) sM_k ?_ z oq)
  rw [cE_bool ht.2.2]
  show H1[b + h]? = some (vp_cell _ _)
  rw [e1, nzb hz]
  rw [vp_cell_i, vp_cell_i, arrV_store, sM_s]
  congr 2
  funext q
  by_cases hq : q = i.toNatClampNeg
  · subst hq
    simp [updV, upd]
  · simp [updV, upd, hq]
theorem fm_aast (hC : Cx p m c cc nL s args own D dA) (hw : St D dA A b n T R M sz s.heap H locs) {h v ci : Nat} {i : Int32} {q0 : vw_C} (t0 : Nat) (hty : (tysOf dA)[t0]? = some (dA t0, .object q0.1)) (ht2 : 2 ≤ t0) (hc : classes[ci]? = some q0) (hci : ci < 100) (ht : ok T n h (100 + t0)) (hin : vp_in i (T h).2) {j : Nat} (hj : i.toNatClampNeg = j) (hv : ok T n v ci) (hdg : decode cc pc = .ok (.aastore, 1))
    (kk : ∀ (R1 : mR) (H1 : Heap) (locs1 : List Loc), R1 = sR R h j v → St D dA A b n T R1 M sz s.heap H1 locs1 → W p l e Z s m args below meth c H1 locs1 cells slots Q (F0 m (pc + 1) ls rest)) : W p l e Z s m args below meth c H locs cells slots Q (F0 m pc ls (.ref (b + v) :: .int i :: .ref (b + h) :: rest)) := by
  subst hj
  obtain ⟨⟨hx, hb, hml, hown, hts⟩, hK, -⟩ := hC
  have h0 := wL_get (dA := dA) (b := b) (T := T) (R := R) (M := M) ht.1 ht.2.1
  rw [cE_ref t0 ht2 ht.2.2] at h0
  have h3 := wL_get (dA := dA) (b := b) (T := T) (R := R) (M := M) hv.1 hv.2.1
  rw [cE_obj hv.2.2 hci] at h3
  have hlt : i.toNatClampNeg < (T h).2 := Nat.not_le.mp fun q => hin (Or.inr q)
  have hi0 : ¬ i < 0 := fun q => hin (Or.inl q)
  obtain ⟨r', hr', cellV, g1, g2, g3, -⟩ := hw.1.1 (v - 1) _ h3
  have hcls := (hK.1 ci q0 hc).2
  obtain ⟨kA, comp, k1, k2, k3, -⟩ := (hK.2 t0 _ hty).2
  have hcomp : comp = D.1 ci := Option.some.inj (k3.symm.trans hcls.1)
  subst hcomp
  have has := va_assign hcls
  obtain ⟨kC, hkC, -⟩ := hcls.2
  refine W.aast hx hb (hw.1.1 (h - 1) _ h0) (fun q h => by cases h) (fun h => by cases h) k1 k2 rfl hkC ⟨hi0, by show _ < (arrV _ _ _).slots.size; rw [arrV_size]; exact hlt⟩ g1 (fun q h => by rw [g3] at h; cases h) (by rw [g2]; exact hkC) (by rw [g2]; exact has) rfl rfl hdg fun H1 e1 z oq => ?_
  refine kk _ H1 _ rfl (hw.upd ht.1 ht.2.1 sR_k (fun _ _ => rfl) ?_ z oq)
  rw [cE_ref t0 ht2 ht.2.2]
  show H1[b + h]? = some (vp_cell _ _)
  rw [e1]
  rw [vp_cell_q, vp_cell_q, arrV_store]
  congr 2
  funext q
  by_cases hq : q = i.toNatClampNeg
  · subst hq
    simp [updV, sR, ro_ne (Nat.ne_of_gt hv.1), va_rf]
  · simp [updV, sR, hq]
theorem fm_newi (hC : Cx p m c cc nL s args own D dA) (hw : St D dA (Ab b) b n T R M (b + n + 1) s.heap H locs) {x : Int32} {N' : Nat} (harr : Cond.arrayClass .int ∈ tW) (hn : ¬ x < 0) (hN : x.toNatClampNeg = N') (hbytes : N' * 4 ≤ 536870912) (hcells : cells + 1 ≤ Z.cells) (hslots : slots + N' ≤ Z.slots) (hdg : decode cc pc = .ok (.newarray .int, 2))
    (kk : ∀ (T1 : mT) (R1 : mR) (M1 : mM) (H1 : Heap), T1 = sT T (n + 1) (100, N') → R1 = zR R (n + 1) → M1 = zM M (n + 1) → St D dA (Ab b) b (n + 1) T1 R1 M1 (b + (n + 1) + 1) s.heap H1 locs → W p l e Z s m args below meth c H1 locs (cells + 1) (slots + N') Q (F0 m (pc + 2) ls (.ref (b + (n + 1)) :: rest))) : W p l e Z s m args below meth c H locs cells slots Q (F0 m pc ls (.int x :: rest)) := by
  obtain ⟨⟨hx, hb, hml, hown, hts⟩, hK, -⟩ := hC
  have hz := hw.1.2
  refine va_newaK (atype := .int) hx hb (hts _ harr) rfl hdg rfl hn hN hbytes hcells hslots (hz.trans (Nat.add_assoc b n 1)) fun H1 cA e1 z1 o1 hAr hNm => ?_
  have hcA : cA = dA 0 := Option.some.inj (hNm.symm.trans (hK.2 0 _ rfl).2)
  subst hcA
  refine kk _ _ _ H1 rfl rfl rfl (hw.push (fun j hj => by simp [sT]; omega) (fun j hj => by funext q; simp [zR]; omega) (fun j hj => by funext q; simp [zM]; omega) ?_ (by rw [z1, hz]; omega) (fun q hq => o1 q (by omega)))
  rw [cE_int (by simp [sT])]
  show H1[b + (n + 1)]? = some (vp_cell _ _)
  rw [vp_cell_i, e1]
  simp [sT, zM]
  rfl
theorem fm_newz (hC : Cx p m c cc nL s args own D dA) (hw : St D dA (Ab b) b n T R M (b + n + 1) s.heap H locs) {x : Int32} {N' : Nat} (harr : Cond.arrayClass .boolean ∈ tW) (hn : ¬ x < 0) (hN : x.toNatClampNeg = N') (hbytes : N' * 1 ≤ 536870912) (hcells : cells + 1 ≤ Z.cells) (hslots : slots + N' ≤ Z.slots) (hdg : decode cc pc = .ok (.newarray .boolean, 2))
    (kk : ∀ (T1 : mT) (R1 : mR) (M1 : mM) (H1 : Heap), T1 = sT T (n + 1) (101, N') → R1 = zR R (n + 1) → M1 = zM M (n + 1) → St D dA (Ab b) b (n + 1) T1 R1 M1 (b + (n + 1) + 1) s.heap H1 locs → W p l e Z s m args below meth c H1 locs (cells + 1) (slots + N') Q (F0 m (pc + 2) ls (.ref (b + (n + 1)) :: rest))) : W p l e Z s m args below meth c H locs cells slots Q (F0 m pc ls (.int x :: rest)) := by
  obtain ⟨⟨hx, hb, hml, hown, hts⟩, hK, -⟩ := hC
  have hz := hw.1.2
  refine va_newaK (atype := .boolean) hx hb (hts _ harr) rfl hdg rfl hn hN hbytes hcells hslots (hz.trans (Nat.add_assoc b n 1)) fun H1 cA e1 z1 o1 hAr hNm => ?_
  have hcA : cA = dA 1 := Option.some.inj (hNm.symm.trans (hK.2 1 _ rfl).2)
  subst hcA
  refine kk _ _ _ H1 rfl rfl rfl (hw.push (fun j hj => by simp [sT]; omega) (fun j hj => by funext q; simp [zR]; omega) (fun j hj => by funext q; simp [zM]; omega) ?_ (by rw [z1, hz]; omega) (fun q hq => o1 q (by omega)))
  rw [cE_bool (by simp [sT])]
  show H1[b + (n + 1)]? = some (vp_cell _ _)
  rw [vp_cell_i, e1]
  simp [sT, zM]
  rfl
theorem fm_newq (hC : Cx p m c cc nL s args own D dA) (hw : St D dA (Ab b) b n T R M (b + n + 1) s.heap H locs) {x : Int32} {N' index : Nat} {C : String} (t0 : Nat) (hty : (tysOf dA)[t0]? = some (dA t0, .object C)) (ht2 : 2 ≤ t0) (hao : C ∈ aoW) (hcl : Cond.classLink own index C ∈ tW) (hn : ¬ x < 0) (hN : x.toNatClampNeg = N') (hbytes : N' * 4 ≤ 536870912) (hcells : cells + 1 ≤ Z.cells) (hslots : slots + N' ≤ Z.slots) (hdg : decode cc pc = .ok (.anewarray index, 3))
    (kk : ∀ (T1 : mT) (R1 : mR) (M1 : mM) (H1 : Heap), T1 = sT T (n + 1) (100 + t0, N') → R1 = zR R (n + 1) → M1 = zM M (n + 1) → St D dA (Ab b) b (n + 1) T1 R1 M1 (b + (n + 1) + 1) s.heap H1 locs → W p l e Z s m args below meth c H1 locs (cells + 1) (slots + N') Q (F0 m (pc + 3) ls (.ref (b + (n + 1)) :: rest))) : W p l e Z s m args below meth c H locs cells slots Q (F0 m pc ls (.int x :: rest)) := by
  obtain ⟨⟨hx, hb, hml, hown, hts⟩, hK, -, -, hAO⟩ := hC
  have hz := hw.1.2
  subst hN
  refine W.anew hx hb hown (hts _ hcl) (va_AO.use (hAO C hao)) rfl hdg rfl hn hbytes hcells hslots fun cA kA comp f1 f2 f3 f4 => ?_
  obtain ⟨kA', comp', -, -, -, g4⟩ := (hK.2 t0 _ hty).2
  have hcA : cA = dA t0 := Option.some.inj (f1.symm.trans g4)
  subst hcA
  generalize hH1 : H.push ({ cls := dA t0, slots := Array.replicate x.toNatClampNeg .null, vm := .none } : Cell) = H1
  have z1 : H1.size = H.size + 1 := by rw [← hH1, Array.size_push]
  have e1 : H1[H.size]? = some (arrV (dA t0) x.toNatClampNeg (fun _ => .null)) := by rw [← hH1, Array.getElem?_push_size, ← arrV_new]
  have o1 : ∀ q : Nat, q < H.size → H1[q]? = H[q]? := fun q hq => by rw [← hH1, Array.getElem?_push, if_neg (Nat.ne_of_lt hq)]
  have hz' : H.size = b + (n + 1) := by omega
  rw [hz'] at e1
  rw [hz']
  refine kk _ _ _ H1 rfl rfl rfl (hw.push (fun j hj => by simp [sT]; omega) (fun j hj => by funext q; simp [zR]; omega) (fun j hj => by funext q; simp [zM]; omega) ?_ z1 o1)
  rw [cE_ref t0 ht2 (by simp [sT])]
  show H1[b + (n + 1)]? = some (vp_cell _ _)
  rw [vp_cell_q, e1]
  simp [sT, zR, ro, va_rf]
theorem fm_new (hC : Cx p m c cc nL s args own D dA) (hw : St D dA (Ab b) b n T R M (b + n + 1) s.heap H locs) {C : String} {F : u_T} {N ci index : Nat} (hin : ∀ w ∈ u_ws C F N, w ∈ tW) (ty : Nat → FieldType) (hty : ∀ k, k < N → parseFieldDescriptor (F k).2.2.1 = some (ty k)) (hcl : Cond.classLink own index C ∈ tW) (hinst : Cond.instantiable C N ∈ tW) (hini : Cond.initialized C ∈ tW) (hc : classes[ci]? = some (C, F, N)) (hci : ci < 100) (hN : N ≤ 64) (hdef : ∀ j, j < N → defaultValue (ty j) = if fk ci j = true then .null else .int 0) (hcells : cells + 1 ≤ Z.cells) (hslots : slots + N ≤ Z.slots) (hdg : decode cc pc = .ok (.new index, 3))
    (kk : ∀ (T1 : mT) (R1 : mR) (M1 : mM) (H1 : Heap), T1 = sT T (n + 1) (ci, 0) → R1 = zR R (n + 1) → M1 = zM M (n + 1) → St D dA (Ab b) b (n + 1) T1 R1 M1 (b + (n + 1) + 1) s.heap H1 locs → W p l e Z s m args below meth c H1 locs (cells + 1) (slots + N) Q (F0 m (pc + 3) ls (.ref (b + (n + 1)) :: rest))) : W p l e Z s m args below meth c H locs cells slots Q (F0 m pc ls rest) := by
  obtain ⟨⟨hx, hb, hml, hown, hts⟩, hK, -⟩ := hC
  have hz := hw.1.2
  have hKn := hK.1 ci _ hc
  refine W.newcK hx hb hown (hts _ hcl) (hts _ hinst) (hts _ hini) rfl hdg hcells hslots hKn.2.1 (hz.trans (Nat.add_assoc b n 1)) fun H1 kC hkC e1 z1 o1 => ?_
  refine kk _ _ _ H1 rfl rfl rfl (hw.push (fun j hj => by simp [sT]; omega) (fun j hj => by funext q; simp [zR]; omega) (fun j hj => by funext q; simp [zM]; omega) ?_ (by rw [z1, hz]; omega) (fun q hq => o1 q (by omega)))
  rw [cE_obj (ci := ci) (by simp [sT]) hci]
  refine ⟨_, hc, (u_born ty hts hin hKn hkC e1 hty).to (fun j hj => ?_)⟩
  have hj : j < N := hj
  rw [hdef j hj, fE_V (Nat.lt_of_lt_of_le hj hN)]
  simp [zR, zM, rv]
theorem fm_puti (hC : Cx p m c cc nL s args own D dA) (hw : St D dA A b n T R M sz s.heap H locs) {C ref : String} {F : u_T} {N ci index h : Nat} (hin : ∀ w ∈ u_ws C F N, w ∈ tW) (ty0 : Nat → FieldType) (hty : ∀ k, k < N → parseFieldDescriptor (F k).2.2.1 = some (ty0 k)) (hnm : ∀ a, a < N → ∀ b, b < N → a ≠ b → (F a).2.1 ≠ (F b).2.1) (hc : classes[ci]? = some (C, F, N)) (hci : ci < 100) (hN : N ≤ 64) (k : Nat) (hk : k < N) (hf : fk ci k = false) (hlink : Cond.fieldLink own index ref (F k).2.1 (F k).2.2.1 ∈ tW) (hsame : ref = (F k).1 ∨ Cond.sameField ref (F k).1 (F k).2.1 (F k).2.2.1 ∈ tW)
    (hfin : (F k).2.2.2 = false ∨ ((F k).2.2.2 = true ∧ meth.name = "<init>" ∧ (F k).1 = own)) {x : Int32} (hn : narrow (ty0 k) (.int x) = .int x) (hfit : fits (ty0 k) (.int x) = true) (ht : ok T n h ci) (hdg : decode cc pc = .ok (.putfield index, 3))
    (kk : ∀ (M1 : mM) (H1 : Heap) (locs1 : List Loc), M1 = sM M h k x → St D dA A b n T R M1 sz s.heap H1 locs1 → W p l e Z s m args below meth c H1 locs1 cells slots Q (F0 m (pc + 3) ls rest)) : W p l e Z s m args below meth c H locs cells slots Q (F0 m pc ls (.int x :: .ref (b + h) :: rest)) :=
  fm_put hC hw hin ty0 hty hnm hc hci hN k hk hlink hsame hfin hn hfit (by rw [hf, if_neg (by decide), sM_e]) (fun _ _ => rfl) sM_k (fun _ _ => rfl) sM_j ht hdg (fun H1 locs1 hw1 => kk _ H1 locs1 rfl hw1)
theorem fm_putr (hC : Cx p m c cc nL s args own D dA) (hw : St D dA A b n T R M sz s.heap H locs) {C ref : String} {F : u_T} {N ci index h : Nat} (hin : ∀ w ∈ u_ws C F N, w ∈ tW) (ty0 : Nat → FieldType) (hty : ∀ k, k < N → parseFieldDescriptor (F k).2.2.1 = some (ty0 k)) (hnm : ∀ a, a < N → ∀ b, b < N → a ≠ b → (F a).2.1 ≠ (F b).2.1) (hc : classes[ci]? = some (C, F, N)) (hci : ci < 100) (hN : N ≤ 64) (k : Nat) (hk : k < N) (hf : fk ci k = true) (hlink : Cond.fieldLink own index ref (F k).2.1 (F k).2.2.1 ∈ tW) (hsame : ref = (F k).1 ∨ Cond.sameField ref (F k).1 (F k).2.1 (F k).2.2.1 ∈ tW)
    (hfin : (F k).2.2.2 = false ∨ ((F k).2.2.2 = true ∧ meth.name = "<init>" ∧ (F k).1 = own)) {r : Nat} (hr0 : r ≠ 0) (hn : narrow (ty0 k) (.ref (b + r)) = .ref (b + r)) (hfit : fits (ty0 k) (.ref (b + r)) = true) (ht : ok T n h ci) (hdg : decode cc pc = .ok (.putfield index, 3))
    (kk : ∀ (R1 : mR) (H1 : Heap) (locs1 : List Loc), R1 = sR R h k r → St D dA A b n T R1 M sz s.heap H1 locs1 → W p l e Z s m args below meth c H1 locs1 cells slots Q (F0 m (pc + 3) ls rest)) : W p l e Z s m args below meth c H locs cells slots Q (F0 m pc ls (.ref (b + r) :: .ref (b + h) :: rest)) :=
  fm_put hC hw hin ty0 hty hnm hc hci hN k hk hlink hsame hfin hn hfit (by rw [hf, if_pos rfl, sR_e, rv_ne hr0]) sR_k (fun _ _ => rfl) sR_j (fun _ _ => rfl) ht hdg (fun H1 locs1 hw1 => kk _ H1 locs1 rfl hw1)
end FN
/-! calls, entries, returns -/
abbrev jmin (x y : Int32) : Int32 := if y < x then y else x
abbrev jmax (x y : Int32) : Int32 := if x < y then y else x
abbrev jushr (x y : Int32) : Int32 := (x.toUInt32 >>> (y.toUInt32 &&& Int32.toUInt32 31)).toInt32
def Cy (y : MethodName) (bytes : ByteArray) (maxL : Nat) (ret : Option FieldType) (na : Nat) : Prop := Cond.code y bytes maxL ret ∈ tW ∧ Cond.initialized y.cls ∈ tW ∧ (y.cls ≠ "java/lang/invoke/MethodHandle" ∧ y.cls ≠ "java/lang/invoke/VarHandle") ∧ (parseMethodDescriptor y.desc).map (fun d => d.parameters.length) = some na
abbrev Pm (D : va_G) (dA : Nat → ClassId) (b n : Nat) (T : mT) (R : mR) (M : mM) (sz : Nat) (av : List Value) (wp : Prop) : Array Value → State → Prop := va_Pc av (fun U => Wd D dA b n T R M sz U.heap ∧ Ev D dA U ∧ wp)
theorem tW_good {y : MethodName} {bytes : ByteArray} {maxL : Nat} {ret : Option FieldType} (h : Cond.code y bytes maxL ret ∈ tW) : GoodIn tW (Cond.code y bytes maxL ret :: tW) := by
  intro w hw
  rcases List.mem_cons.mp hw with rfl | hw
  · exact ⟨h, good_of_word (List.mem_filter.mp h).2⟩
  · exact ⟨hw, good_of_word (List.mem_filter.mp hw).2⟩
theorem fm_body {l : Launch} {D : va_G} {dA : Nat → ClassId} (A : Nat → Prop) {b n sz : Nat} {T : mT} {R : mR} {M : mM} {y : MethodName} {bytes : ByteArray} {maxL : Nat} {ret : Option FieldType} {rm : Room} {av : List Value} {wp : Prop} {Qc : Array Value → State → Outcome → State → Prop} {mc ms : Nat} {free : Addr → Prop} (hy : plainName y.cls = true) (hlen : (lg_sl av).length ≤ maxL) (hA : ∀ k : Nat, 0 < k → k ≤ n → A (b + k))
    (body : ∀ (p : Program) (e : Env) (s : State) (m : MethodId) (below : List Frame) (meth : Method) (c : Code) (ls : Array Slot), Cx p m c bytes maxL s av.toArray y.cls D dA → meth.sig.returnType = ret → meth.locks = false → meth.name = y.name → lv_has ls maxL (lv_args 0 av) → St D dA A b n T R M sz s.heap s.heap [] → wp → W p l e rm s m av.toArray below meth c s.heap [] 0 0 (MQ below Qc av.toArray s mc ms free) (F0 m 0 ls [])) : Met l y (Cond.code y bytes maxL ret :: tW) rm (Pm D dA b n T R M sz av wp) Qc mc ms free := by
  refine Met.ofW (cc := bytes) (maxL := maxL) (ret := ret) hy rfl ?_
  intro p e s m args below meth c s₁ B hml hv
  obtain ⟨rfl, hW, hE, hp⟩ := hv
  have hts := atoms_spec (ws := Cond.code y bytes maxL ret :: tW) B.pre
  rw [lg_entry_eq]
  exact body p e s m below meth c _ ⟨⟨B.exec, B.bytes, hml, findClass_of_methodNamed B.named, fun w hw => hts w (List.mem_cons_of_mem _ hw)⟩, hE⟩ B.returns B.notSynchronized (name_of_methodNamed B.named B.method).1 (lv_entry av hlen) ⟨hW, va_S.rf, hA⟩ hp
section FC
variable {p : Program} {l : Launch} {e : Env} {Z : Room} {s : State} {m : MethodId} {args : Array Value} {below : List Frame} {meth : Method} {c : Code} {H : Heap} {locs : List Loc} {cells slots : Nat} {Q : State → Prop}
variable {cc : ByteArray} {pc nL : Nat} {ls : Array Slot} {rest st : List Value} {D : va_G} {dA : Nat → ClassId} {A : Nat → Prop} {b n sz : Nat} {T : mT} {R : mR} {M : mM} {own : String}
variable {y : MethodName} {bytes : ByteArray} {maxL na mc ms index : Nat} {ret : Option FieldType} {rm : Room} {As : List Value} {wp : Prop} {Qc : Array Value → State → Outcome → State → Prop} {free : Addr → Prop}
theorem fm_pre (hC : Cx p m c cc nL s args own D dA) (hw : St D dA A b n T R M sz s.heap H locs) (hp : wp) : PreS s H (Pm D dA b n T R M sz As wp) As :=
  ⟨fun a U g mk q => ⟨q.1, q.2.1, q.2.2.1.calling g mk a, q.2.2.2⟩, fun U hU hW => ⟨rfl, hU ▸ hw.1, hC.2.warm hW, hp⟩⟩
theorem fm_B (hC : Cx p m c cc nL s args own D dA) (hy : Cy y bytes maxL ret na) (hrc : rm.cells = mc) (hrs : rm.slots = ms) (hl : Cond.methodLink own index y ∈ tW) (hR : rm.frames + 1 ≤ Z.frames ∧ 8 + (maxL + 11) + rm.locals ≤ Z.locals) : CallB Z s args own index y bytes maxL ret (Cond.code y bytes maxL ret :: tW) rm mc ms na :=
  callB_of na hC.1.2.2.2.2 (tW_good hy.1) rfl hrc hrs (hC.1.2.2.2.2 _ hy.2.1) (hC.1.2.2.2.2 _ hl) ⟨hy.2.2.1.1, hy.2.2.1.2, hy.2.2.2⟩ hR
theorem fm_recv (hC : Cx p m c cc nL s args own D dA) (hw : St D dA A b n T R M sz s.heap H locs) {C : String} {F : u_T} {N ci h : Nat} (hc : classes[ci]? = some (C, F, N)) (hci : ci < 100) (ht : ok T n h ci) : ∃ cell : Cell, H[b + h]? = some cell ∧ cell.vm.isStatics = false ∧ s.vm.findClass C = some cell.cls :=
  va_recv hC.2.1 hw.1.1 hc ((wL_get ht.1 ht.2.1).trans (by rw [cE_obj ht.2.2 hci]))
theorem fm_runV (hC : Cx p m c cc nL s args own D dA) (hw : St D dA A b n T R M sz s.heap H locs) {C : String} {F : u_T} {N ci h : Nat} (hM : Met l y (Cond.code y bytes maxL ret :: tW) rm (Pm D dA b n T R M sz (.ref (b + h) :: As) wp) Qc mc ms free) (hy : Cy y bytes maxL ret na) (hp : wp) (hrc : rm.cells = mc) (hrs : rm.slots = ms) (hl : Cond.methodLink own index y ∈ tW) (hin : Cond.instanceMethod y ∈ tW) (hsel : Cond.selects C y y ∈ tW) (hc : classes[ci]? = some (C, F, N)) (hci : ci < 100) (ht : ok T n h ci) (hR : rm.frames + 1 ≤ Z.frames ∧ 8 + (maxL + 11) + rm.locals ≤ Z.locals) (hn : As.length = na) (hls : ls.size = nL) (hst : st = As.reverse ++ .ref (b + h) :: rest) (hsum : (rest.map fun v => v.category).sum ≤ 8) (hdg : decode cc pc = .ok (.invokevirtual index, 3)) (hf : cells + mc ≤ Z.cells ∧ slots + ms ≤ Z.slots) :
    va_Run p l e Z s m args below meth c H locs cells slots mc ms (F0 m pc ls st) rest (Qc (Value.ref (b + h) :: As).toArray) free :=
  va_runV hC.1 hM ⟨fm_B hC hy hrc hrs hl hR, hC.1.2.2.2.2 _ hin, hC.1.2.2.2.2 _ hsel⟩ ⟨(fm_pre hC hw hp).1, fm_recv hC hw hc hci ht, (fm_pre hC hw hp).2⟩ rfl hn hls hst (lv_room hsum) hdg hf
theorem fm_runU (hC : Cx p m c cc nL s args own D dA) (hw : St D dA A b n T R M sz s.heap H locs) {C : String} {F : u_T} {N ci h : Nat} {x : MethodName} (hM : Met l y (Cond.code y bytes maxL ret :: tW) rm (Pm D dA b n T R M sz (.ref (b + h) :: As) wp) Qc mc ms free) (hy : Cy y bytes maxL ret na) (hp : wp) (hrc : rm.cells = mc) (hrs : rm.slots = ms) (hxy : y = ⟨y.cls, x.name, x.desc⟩) (hl : Cond.methodLink own index x ∈ tW) (hsm : Cond.sameMethod x.cls y.cls x.name x.desc ∈ tW) (hin : Cond.instanceMethod y ∈ tW) (hsel : Cond.selects C x y ∈ tW) (hc : classes[ci]? = some (C, F, N)) (hci : ci < 100) (ht : ok T n h ci) (hR : rm.frames + 1 ≤ Z.frames ∧ 8 + (maxL + 11) + rm.locals ≤ Z.locals) (hn : As.length = na) (hls : ls.size = nL) (hst : st = As.reverse ++ .ref (b + h) :: rest) (hsum : (rest.map fun v => v.category).sum ≤ 8) (hdg : decode cc pc = .ok (.invokevirtual index, 3)) (hf : cells + mc ≤ Z.cells ∧ slots + ms ≤ Z.slots) :
    va_Run p l e Z s m args below meth c H locs cells slots mc ms (F0 m pc ls st) rest (Qc (Value.ref (b + h) :: As).toArray) free := by
  have hts := hC.1.2.2.2.2
  have hG := tW_good hy.1
  have hd : x.desc = y.desc := by rw [hxy]
  have hG2 : GoodIn tW (va_wsU own index C y.cls x y (Cond.code y bytes maxL ret :: tW)) := by
    intro w hw
    rcases List.mem_append.mp hw with hw | hw
    · have hm : w ∈ tW := by
        simp only [List.mem_cons, List.not_mem_nil, or_false] at hw
        rcases hw with rfl | rfl | rfl | rfl | rfl
        · exact hl
        · exact hsm
        · exact hsel
        · exact hin
        · exact hy.2.1
      exact ⟨hm, good_of_word (List.mem_filter.mp hm).2⟩
    · exact hG w hw
  exact va_runU hC.1 hM (va_cwU na hts hG2 rfl hrc hrs hxy ⟨hy.2.2.1.1, hy.2.2.1.2, by rw [hd]; exact hy.2.2.2⟩ hR) ⟨(fm_pre hC hw hp).1, fm_recv hC hw hc hci ht, (fm_pre hC hw hp).2⟩ rfl hn hls hst (lv_room hsum) hdg hf
theorem fm_runA (hC : Cx p m c cc nL s args own D dA) (hw : St D dA A b n T R M sz s.heap H locs) {C : String} {F : u_T} {N ci h : Nat} {x : MethodName} (hM : Met l y (Cond.code y bytes maxL ret :: tW) rm (Pm D dA b n T R M sz (.ref (b + h) :: As) wp) Qc mc ms free) (hy : Cy y bytes maxL ret na) (hp : wp) (hrc : rm.cells = mc) (hrs : rm.slots = ms) (hxd : x.desc = y.desc) (hdw : x ∈ declW) (hxc : x.cls ≠ "java/lang/invoke/MethodHandle" ∧ x.cls ≠ "java/lang/invoke/VarHandle") (hl : Cond.methodLink own index x ∈ tW) (hsm : Cond.sameMethod x.cls x.cls x.name x.desc ∈ tW) (hin : Cond.instanceMethod y ∈ tW) (hsel : Cond.selects C x y ∈ tW) (hc : classes[ci]? = some (C, F, N)) (hci : ci < 100) (ht : ok T n h ci) (hR : rm.frames + 1 ≤ Z.frames ∧ 8 + (maxL + 11) + rm.locals ≤ Z.locals) (hn : As.length = na) (hls : ls.size = nL) (hst : st = As.reverse ++ .ref (b + h) :: rest) (hsum : (rest.map fun v => v.category).sum ≤ 8) (hdg : decode cc pc = .ok (.invokevirtual index, 3)) (hf : cells + mc ≤ Z.cells ∧ slots + ms ≤ Z.slots) :
    va_Run p l e Z s m args below meth c H locs cells slots mc ms (F0 m pc ls st) rest (Qc (Value.ref (b + h) :: As).toArray) free := by
  have hts := hC.1.2.2.2.2
  have hG := tW_good hy.1
  have hG2 : GoodIn tW (va_wsU own index C x.cls x y (Cond.code y bytes maxL ret :: tW)) := by
    intro w hw
    rcases List.mem_append.mp hw with hw | hw
    · have hm : w ∈ tW := by
        simp only [List.mem_cons, List.not_mem_nil, or_false] at hw
        rcases hw with rfl | rfl | rfl | rfl | rfl
        · exact hl
        · exact hsm
        · exact hsel
        · exact hin
        · exact hy.2.1
      exact ⟨hm, good_of_word (List.mem_filter.mp hm).2⟩
    · exact hG w hw
  exact va_runU hC.1 hM (va_cwA na hts hG2 rfl hrc hrs (hC.2.2.2.1 x hdw) ⟨hxc.1, hxc.2, by rw [hxd]; exact hy.2.2.2⟩ hR) ⟨(fm_pre hC hw hp).1, fm_recv hC hw hc hci ht, (fm_pre hC hw hp).2⟩ rfl hn hls hst (lv_room hsum) hdg hf
theorem fm_runS (hC : Cx p m c cc nL s args own D dA) (hw : St D dA A b n T R M sz s.heap H locs) (hM : Met l y (Cond.code y bytes maxL ret :: tW) rm (Pm D dA b n T R M sz As wp) Qc mc ms free) (hy : Cy y bytes maxL ret na) (hp : wp) (hrc : rm.cells = mc) (hrs : rm.slots = ms) (hl : Cond.methodLink own index y ∈ tW) (hst1 : Cond.static y ∈ tW) (hR : rm.frames + 1 ≤ Z.frames ∧ 8 + (maxL + 11) + rm.locals ≤ Z.locals) (hn : As.length = na) (hls : ls.size = nL) (hst : st = As.reverse ++ rest) (hsum : (rest.map fun v => v.category).sum ≤ 8) (hdg : decode cc pc = .ok (.invokestatic index, 3)) (hf : cells + mc ≤ Z.cells ∧ slots + ms ≤ Z.slots) :
    va_Run p l e Z s m args below meth c H locs cells slots mc ms (F0 m pc ls st) rest (Qc As.toArray) free :=
  va_runS hC.1 hM ⟨fm_B hC hy hrc hrs hl hR, hC.1.2.2.2.2 _ hst1⟩ (fm_pre hC hw hp) rfl hn hls hst (lv_room hsum) hdg hf
theorem fm_runSN (hC : Cx p m c cc nL s args own D dA) (hw : St D dA A b n T R M sz s.heap H locs) {host : String} (hM : Met l y (Cond.code y bytes maxL ret :: tW) rm (Pm D dA b n T R M sz As wp) Qc mc ms free) (hy : Cy y bytes maxL ret na) (hp : wp) (hrc : rm.cells = mc) (hrs : rm.slots = ms) (hl : (own, index, y, host) ∈ nestW) (hst1 : Cond.static y ∈ tW) (hR : rm.frames + 1 ≤ Z.frames ∧ 8 + (maxL + 11) + rm.locals ≤ Z.locals) (hn : As.length = na) (hls : ls.size = nL) (hst : st = As.reverse ++ rest) (hsum : (rest.map fun v => v.category).sum ≤ 8) (hdg : decode cc pc = .ok (.invokestatic index, 3)) (hf : cells + mc ≤ Z.cells ∧ slots + ms ≤ Z.slots) :
    va_Run p l e Z s m args below meth c H locs cells slots mc ms (F0 m pc ls st) rest (Qc As.toArray) free :=
  va_runSN hC.1 hM ⟨va_cnB na hC.1.2.2.2.2 (tW_good hy.1) rfl hrc hrs (hC.2.2.1 (own, index, y, host) hl) (hC.1.2.2.2.2 _ hy.2.1) ⟨hy.2.2.1.1, hy.2.2.1.2, hy.2.2.2⟩ hR, hC.1.2.2.2.2 _ hst1, trivial⟩ (fm_pre hC hw hp) rfl hn hls hst (lv_room hsum) hdg hf
theorem fm_runIN (hC : Cx p m c cc nL s args own D dA) (hw : St D dA A b n T R M sz s.heap H locs) {h : Nat} {host : String} (hM : Met l y (Cond.code y bytes maxL none :: tW) rm (Pm D dA b n T R M sz (.ref (b + h) :: As) wp) Qc mc ms free) (hy : Cy y bytes maxL none na) (hp : wp) (hrc : rm.cells = mc) (hrs : rm.slots = ms) (hl : (own, index, y, host) ∈ nestW) (hin : Cond.instanceMethod y ∈ tW) (hy1 : y.name = "<init>") (hR : rm.frames + 1 ≤ Z.frames ∧ 8 + (maxL + 11) + rm.locals ≤ Z.locals) (hn : As.length = na) (hls : ls.size = nL) (hst : st = As.reverse ++ .ref (b + h) :: rest) (hsum : (rest.map fun v => v.category).sum ≤ 8) (hdg : decode cc pc = .ok (.invokespecial index, 3)) (hf : cells + mc ≤ Z.cells ∧ slots + ms ≤ Z.slots) :
    va_Run p l e Z s m args below meth c H locs cells slots mc ms (F0 m pc ls st) rest (Qc (Value.ref (b + h) :: As).toArray) free :=
  va_runIN hC.1 hM ⟨va_cnB na hC.1.2.2.2.2 (tW_good hy.1) rfl hrc hrs (hC.2.2.1 (own, index, y, host) hl) (hC.1.2.2.2.2 _ hy.2.1) ⟨hy.2.2.1.1, hy.2.2.1.2, hy.2.2.2⟩ hR, hy1, hC.1.2.2.2.2 _ hin⟩ (fm_pre hC hw hp) rfl hn hls hst (lv_room hsum) hdg hf
theorem fm_runI (hC : Cx p m c cc nL s args own D dA) (hw : St D dA A b n T R M sz s.heap H locs) {h : Nat} (hM : Met l y (Cond.code y bytes maxL none :: tW) rm (Pm D dA b n T R M sz (.ref (b + h) :: As) wp) Qc mc ms free) (hy : Cy y bytes maxL none na) (hp : wp) (hrc : rm.cells = mc) (hrs : rm.slots = ms) (hl : Cond.methodLink own index y ∈ tW) (hin : Cond.instanceMethod y ∈ tW) (hy1 : y.name = "<init>") (hR : rm.frames + 1 ≤ Z.frames ∧ 8 + (maxL + 11) + rm.locals ≤ Z.locals) (hn : As.length = na) (hls : ls.size = nL) (hst : st = As.reverse ++ .ref (b + h) :: rest) (hsum : (rest.map fun v => v.category).sum ≤ 8) (hdg : decode cc pc = .ok (.invokespecial index, 3)) (hf : cells + mc ≤ Z.cells ∧ slots + ms ≤ Z.slots) :
    va_Run p l e Z s m args below meth c H locs cells slots mc ms (F0 m pc ls st) rest (Qc (Value.ref (b + h) :: As).toArray) free :=
  va_runI hC.1 hM ⟨fm_B hC hy hrc hrs hl hR, hy1, hC.1.2.2.2.2 _ hin⟩ (fm_pre hC hw hp) rfl hn hls hst (lv_room hsum) hdg hf
theorem fm_ci {S : Type} {post : Int32 → S → Prop} {B : S → Heap → Prop} {a : Array Value} (hw : St D dA A b n T R M sz s.heap H locs) {A1 : Nat → Prop} (hAA : ∀ q, A1 q → A q) (hr : va_Run p l e Z s m args below meth c H locs cells slots mc ms (F0 m pc ls st) rest (va_Qi post (fun u t => B u t.heap) A1 a) A1)
    (kk : ∀ (r : Int32) (u : S) (H1 : Heap) (locs1 : List Loc), post r u → B u H1 → va_S A s.heap H1 locs1 → W p l e Z s m args below meth c H1 locs1 (cells + mc) (slots + ms) Q (F0 m (pc + 3) ls (.int r :: rest))) : W p l e Z s m args below meth c H locs cells slots Q (F0 m pc ls st) :=
  va_calli hr hw.2.1 (fun q _ h => hAA q h) hAA (fun r u t H1 locs1 ht _ hp hB _ _ hS => kk r u H1 locs1 hp (ht ▸ hB) hS)
theorem fm_cv {S : Type} {post : S → Prop} {B : S → Heap → Prop} {a : Array Value} (hw : St D dA A b n T R M sz s.heap H locs) {A1 : Nat → Prop} (hAA : ∀ q, A1 q → A q) (hr : va_Run p l e Z s m args below meth c H locs cells slots mc ms (F0 m pc ls st) rest (va_Qv post (fun u t => B u t.heap) A1 a) A1)
    (kk : ∀ (u : S) (H1 : Heap) (locs1 : List Loc), post u → B u H1 → va_S A s.heap H1 locs1 → W p l e Z s m args below meth c H1 locs1 (cells + mc) (slots + ms) Q (F0 m (pc + 3) ls rest)) : W p l e Z s m args below meth c H locs cells slots Q (F0 m pc ls st) :=
  va_callv hr hw.2.1 (fun q _ h => hAA q h) hAA (fun u t H1 locs1 ht _ hp hB _ _ hS => kk u H1 locs1 hp (ht ▸ hB) hS)
theorem fm_cr {S : Type} {post : S → Prop} {B : S → Nat → Heap → Prop} {a : Array Value} (hw : St D dA A b n T R M sz s.heap H locs) {A1 : Nat → Prop} (hAA : ∀ q, A1 q → A q) (hr : va_Run p l e Z s m args below meth c H locs cells slots mc ms (F0 m pc ls st) rest (va_Qr post (fun u q t => B u q t.heap) A1 a) A1)
    (kk : ∀ (u : S) (q : Nat) (H1 : Heap) (locs1 : List Loc), post u → B u q H1 → va_S A s.heap H1 locs1 → W p l e Z s m args below meth c H1 locs1 (cells + mc) (slots + ms) Q (F0 m (pc + 3) ls (.ref q :: rest))) : W p l e Z s m args below meth c H locs cells slots Q (F0 m pc ls st) :=
  va_callr hr hw.2.1 (fun q _ h => hAA q h) hAA (fun u q t H1 locs1 ht _ hp hB _ _ hS => kk u q H1 locs1 hp (ht ▸ hB) hS)
theorem fm_iret {S : Type} {post : Int32 → S → Prop} {B : S → Heap → Prop} {v : Int32} (hC : Cx p m c cc nL s args own D dA) (hr : meth.sig.returnType = some .int) (hlk : meth.locks = false) (hw : St D dA A b n T R M sz s.heap H locs) (u : S) (hB : B u H) (hpost : post v u) (hdg : decode cc pc = .ok (.ireturn, 1)) : W p l e Z s m args below meth c H locs cells slots (MQ below (va_Qi post (fun u t => B u t.heap) A) args s cells slots A) (F0 m pc ls [.int v]) :=
  W.iret hC.1.1 hC.1.2.1 hr (fun t ht _ => ⟨⟨v, u, rfl, hpost, by show B u t.heap; rw [ht]; exact hB⟩, hw.2.1.F ht⟩) hw.2.1.2.2 hdg hlk
theorem fm_zret {S : Type} {post : Int32 → S → Prop} {B : S → Heap → Prop} {v : Int32} (hC : Cx p m c cc nL s args own D dA) (hr : meth.sig.returnType = some .boolean) (hlk : meth.locks = false) (hw : St D dA A b n T R M sz s.heap H locs) (hz : v = 0 ∨ v = 1) (u : S) (hB : B u H) (hpost : post v u) (hdg : decode cc pc = .ok (.ireturn, 1)) : W p l e Z s m args below meth c H locs cells slots (MQ below (va_Qi post (fun u t => B u t.heap) A) args s cells slots A) (F0 m pc ls [.int v]) :=
  W.zret hC.1.1 hC.1.2.1 hr (nzb hz) (fun t ht _ => ⟨⟨v, u, rfl, hpost, by show B u t.heap; rw [ht]; exact hB⟩, hw.2.1.F ht⟩) hw.2.1.2.2 hdg hlk
theorem fm_vret {S : Type} {post : S → Prop} {B : S → Heap → Prop} (hC : Cx p m c cc nL s args own D dA) (hr : meth.sig.returnType = none) (hlk : meth.locks = false) (hw : St D dA A b n T R M sz s.heap H locs) (u : S) (hB : B u H) (hpost : post u) (hdg : decode cc pc = .ok (.return_, 1)) : W p l e Z s m args below meth c H locs cells slots (MQ below (va_Qv post (fun u t => B u t.heap) A) args s cells slots A) (F0 m pc ls []) :=
  W.vret hC.1.1 hC.1.2.1 hr (fun t ht _ => ⟨⟨u, rfl, hpost, by show B u t.heap; rw [ht]; exact hB⟩, hw.2.1.F ht⟩) hw.2.1.2.2 hdg hlk
theorem fm_aret {S : Type} {post : S → Prop} {B : S → Nat → Heap → Prop} {q : Nat} {C : String} (hC : Cx p m c cc nL s args own D dA) (hr : meth.sig.returnType = some (.object C)) (hlk : meth.locks = false) (hw : St D dA A b n T R M sz s.heap H locs) (u : S) (hB : B u q H) (hpost : post u) (hdg : decode cc pc = .ok (.areturn, 1)) : W p l e Z s m args below meth c H locs cells slots (MQ below (va_Qr post (fun u q t => B u q t.heap) A) args s cells slots A) (F0 m pc ls [.ref q]) :=
  W.aret hC.1.1 hC.1.2.1 hr (Or.inl ⟨C, rfl⟩) (Or.inr ⟨q, rfl⟩) (fun t ht _ => ⟨⟨u, q, rfl, hpost, by show B u q t.heap; rw [ht]; exact hB⟩, hw.2.1.F ht⟩) hw.2.1.2.2 hdg hlk
theorem ok_push {T1 : mT} {tg r : Nat} {v : Nat × Nat} (e1 : T1 = sT T (n + 1) v) (h : ok T n r tg) : ok T1 (n + 1) r tg := by
  subst e1
  refine ⟨h.1, Nat.le_succ_of_le h.2.1, ?_⟩
  have h1 : r ≠ n + 1 := Nat.ne_of_lt (Nat.lt_succ_of_le h.2.1)
  simp only [sT, h1, if_false]
  exact h.2.2
theorem ok_new {T1 : mT} {tg q : Nat} (e1 : T1 = sT T (n + 1) (tg, q)) : ok T1 (n + 1) (n + 1) tg := by
  subst e1
  exact ⟨Nat.succ_pos n, Nat.le_refl _, by simp [sT]⟩
def okS (T : mT) (n r : Nat) : Prop := ok T n r 8 ∨ ok T n r 9
theorem okS_ne {r : Nat} (h : okS T n r) : r ≠ 0 := by
  rcases h with h | h <;> exact Nat.ne_of_gt h.1
theorem okS_push {T1 : mT} {r : Nat} {v : Nat × Nat} (e1 : T1 = sT T (n + 1) v) (h : okS T n r) : okS T1 (n + 1) r := by
  rcases h with h | h
  · exact Or.inl (ok_push e1 h)
  · exact Or.inr (ok_push e1 h)
end FC
abbrev Qip (D : va_G) (dA : Nat → ClassId) (A : Nat → Prop) (b : Nat) (n : Nat) (T : mT) (R : mR) (M : mM) (sz : Nat) (Q : Int32 → Prop) : Array Value → State → Outcome → State → Prop := va_Qi (fun r (u : Unit) => Q r ) (fun u t => Wd D dA b n T R M sz t.heap) A
abbrev Qzp (D : va_G) (dA : Nat → ClassId) (A : Nat → Prop) (b : Nat) (n : Nat) (T : mT) (R : mR) (M : mM) (sz : Nat) (Q : Int32 → Prop) : Array Value → State → Outcome → State → Prop := va_Qi (fun r (u : Unit) => (r = 0 ∨ r = 1) ∧ Q r ) (fun u t => Wd D dA b n T R M sz t.heap) A
abbrev Qvp (D : va_G) (dA : Nat → ClassId) (A : Nat → Prop) (b : Nat) (n : Nat) (T : mT) (R : mR) (M : mM) (sz : Nat) (Q : Prop) : Array Value → State → Outcome → State → Prop := va_Qv (fun (u : Unit) => Q ) (fun u t => Wd D dA b n T R M sz t.heap) A
abbrev Qrp (D : va_G) (dA : Nat → ClassId) (A : Nat → Prop) (b : Nat) (n : Nat) (T : mT) (R : mR) (M : mM) (sz : Nat) (Q : Nat → Prop) : Array Value → State → Outcome → State → Prop := va_Qr (fun (u : Nat × (Unit)) => Q u.1 ) (fun u q t => (q = b + u.1 ∧ u.1 ≠ 0) ∧ Wd D dA b n T R M sz t.heap) A
abbrev Qim (D : va_G) (dA : Nat → ClassId) (A : Nat → Prop) (b : Nat) (n : Nat) (T : mT) (R : mR) (sz : Nat) (Q : Int32 → mM → Prop) : Array Value → State → Outcome → State → Prop := va_Qi (fun r (u : mM) => Q r u) (fun u t => Wd D dA b n T R u sz t.heap) A
abbrev Qzm (D : va_G) (dA : Nat → ClassId) (A : Nat → Prop) (b : Nat) (n : Nat) (T : mT) (R : mR) (sz : Nat) (Q : Int32 → mM → Prop) : Array Value → State → Outcome → State → Prop := va_Qi (fun r (u : mM) => (r = 0 ∨ r = 1) ∧ Q r u) (fun u t => Wd D dA b n T R u sz t.heap) A
abbrev Qvm (D : va_G) (dA : Nat → ClassId) (A : Nat → Prop) (b : Nat) (n : Nat) (T : mT) (R : mR) (sz : Nat) (Q : mM → Prop) : Array Value → State → Outcome → State → Prop := va_Qv (fun (u : mM) => Q u) (fun u t => Wd D dA b n T R u sz t.heap) A
abbrev Qrm (D : va_G) (dA : Nat → ClassId) (A : Nat → Prop) (b : Nat) (n : Nat) (T : mT) (R : mR) (sz : Nat) (Q : Nat → mM → Prop) : Array Value → State → Outcome → State → Prop := va_Qr (fun (u : Nat × (mM)) => Q u.1 u.2) (fun u q t => (q = b + u.1 ∧ u.1 ≠ 0) ∧ Wd D dA b n T R u.2 sz t.heap) A
abbrev Qir (D : va_G) (dA : Nat → ClassId) (A : Nat → Prop) (b : Nat) (n : Nat) (T : mT) (sz : Nat) (Q : Int32 → mR → mM → Prop) : Array Value → State → Outcome → State → Prop := va_Qi (fun r (u : mR × mM) => Q r u.1 u.2) (fun u t => Wd D dA b n T u.1 u.2 sz t.heap) A
abbrev Qzr (D : va_G) (dA : Nat → ClassId) (A : Nat → Prop) (b : Nat) (n : Nat) (T : mT) (sz : Nat) (Q : Int32 → mR → mM → Prop) : Array Value → State → Outcome → State → Prop := va_Qi (fun r (u : mR × mM) => (r = 0 ∨ r = 1) ∧ Q r u.1 u.2) (fun u t => Wd D dA b n T u.1 u.2 sz t.heap) A
abbrev Qvr (D : va_G) (dA : Nat → ClassId) (A : Nat → Prop) (b : Nat) (n : Nat) (T : mT) (sz : Nat) (Q : mR → mM → Prop) : Array Value → State → Outcome → State → Prop := va_Qv (fun (u : mR × mM) => Q u.1 u.2) (fun u t => Wd D dA b n T u.1 u.2 sz t.heap) A
abbrev Qrr (D : va_G) (dA : Nat → ClassId) (A : Nat → Prop) (b : Nat) (n : Nat) (T : mT) (sz : Nat) (Q : Nat → mR → mM → Prop) : Array Value → State → Outcome → State → Prop := va_Qr (fun (u : Nat × (mR × mM)) => Q u.1 u.2.1 u.2.2) (fun u q t => (q = b + u.1 ∧ u.1 ≠ 0) ∧ Wd D dA b n T u.2.1 u.2.2 sz t.heap) A
abbrev Qia (D : va_G) (dA : Nat → ClassId) (b : Nat)  (Q : Int32 → Nat → mT → mR → mM → Prop) : Array Value → State → Outcome → State → Prop := va_Qi (fun r (u : Nat × mT × mR × mM) => Q r u.1 u.2.1 u.2.2.1 u.2.2.2) (fun u t => Wd D dA b u.1 u.2.1 u.2.2.1 u.2.2.2 (b + u.1 + 1) t.heap) (Ab b)
abbrev Qza (D : va_G) (dA : Nat → ClassId) (b : Nat)  (Q : Int32 → Nat → mT → mR → mM → Prop) : Array Value → State → Outcome → State → Prop := va_Qi (fun r (u : Nat × mT × mR × mM) => (r = 0 ∨ r = 1) ∧ Q r u.1 u.2.1 u.2.2.1 u.2.2.2) (fun u t => Wd D dA b u.1 u.2.1 u.2.2.1 u.2.2.2 (b + u.1 + 1) t.heap) (Ab b)
abbrev Qva (D : va_G) (dA : Nat → ClassId) (b : Nat)  (Q : Nat → mT → mR → mM → Prop) : Array Value → State → Outcome → State → Prop := va_Qv (fun (u : Nat × mT × mR × mM) => Q u.1 u.2.1 u.2.2.1 u.2.2.2) (fun u t => Wd D dA b u.1 u.2.1 u.2.2.1 u.2.2.2 (b + u.1 + 1) t.heap) (Ab b)
abbrev Qra (D : va_G) (dA : Nat → ClassId) (b : Nat)  (Q : Nat → Nat → mT → mR → mM → Prop) : Array Value → State → Outcome → State → Prop := va_Qr (fun (u : Nat × (Nat × mT × mR × mM)) => Q u.1 u.2.1 u.2.2.1 u.2.2.2.1 u.2.2.2.2) (fun u q t => (q = b + u.1 ∧ u.1 ≠ 0) ∧ Wd D dA b u.2.1 u.2.2.1 u.2.2.2.1 u.2.2.2.2 (b + u.2.1 + 1) t.heap) (Ab b)
section FQ
variable {p : Program} {l : Launch} {e : Env} {Z : Room} {s : State} {m : MethodId} {args : Array Value} {below : List Frame} {meth : Method} {c : Code} {H : Heap} {locs : List Loc} {cells slots : Nat} {QW : State → Prop}
variable {cc : ByteArray} {pc nL mc ms : Nat} {ls : Array Slot} {rest st : List Value} {D : va_G} {dA : Nat → ClassId} {A : Nat → Prop} {b n sz : Nat} {T : mT} {R : mR} {M : mM} {own : String}
theorem ret_ip {Q : Int32 → Prop} {v : Int32} (hC : Cx p m c cc nL s args own D dA) (hr : meth.sig.returnType = some .int) (hlk : meth.locks = false) (hw : St D dA A b n T R M sz s.heap H locs) (hp : Q v ) (hdg : decode cc pc = .ok (.ireturn, 1)) : W p l e Z s m args below meth c H locs cells slots (MQ below (Qip D dA A b n T R M sz Q) args s cells slots A) (F0 m pc ls [.int v]) :=
  fm_iret (B := fun (u : Unit) H => Wd D dA b n T R M sz H) hC hr hlk hw () hw.1 hp hdg
theorem call_ip {Q0 : Int32 → Prop} {a : Array Value} {A1 : Nat → Prop} (hAA : ∀ q, A1 q → A q) (hw : St D dA A b n T R M sz s.heap H locs) (hr : va_Run p l e Z s m args below meth c H locs cells slots mc ms (F0 m pc ls st) rest ((Qip D dA A1 b n T R M sz Q0) a) A1)
    (kk : ∀ (r : Int32)  (H1 : Heap) (locs1 : List Loc), Q0 r  → St D dA A b n T R M sz s.heap H1 locs1 → W p l e Z s m args below meth c H1 locs1 (cells + mc) (slots + ms) QW (F0 m (pc + 3) ls (.int r :: rest))) : W p l e Z s m args below meth c H locs cells slots QW (F0 m pc ls st) :=
  fm_ci (B := fun (u : Unit) H => Wd D dA b n T R M sz H) hw hAA hr (fun r u H1 locs1 hp hB hS => kk r  H1 locs1 hp ⟨hB, hS, hw.2.2⟩)
theorem ret_zp {Q : Int32 → Prop} {v : Int32} (hC : Cx p m c cc nL s args own D dA) (hr : meth.sig.returnType = some .boolean) (hlk : meth.locks = false) (hw : St D dA A b n T R M sz s.heap H locs) (hz : v = 0 ∨ v = 1) (hp : Q v ) (hdg : decode cc pc = .ok (.ireturn, 1)) : W p l e Z s m args below meth c H locs cells slots (MQ below (Qzp D dA A b n T R M sz Q) args s cells slots A) (F0 m pc ls [.int v]) :=
  fm_zret (B := fun (u : Unit) H => Wd D dA b n T R M sz H) hC hr hlk hw hz () hw.1 ⟨hz, hp⟩ hdg
theorem call_zp {Q0 : Int32 → Prop} {a : Array Value} {A1 : Nat → Prop} (hAA : ∀ q, A1 q → A q) (hw : St D dA A b n T R M sz s.heap H locs) (hr : va_Run p l e Z s m args below meth c H locs cells slots mc ms (F0 m pc ls st) rest ((Qzp D dA A1 b n T R M sz Q0) a) A1)
    (kk : ∀ (r : Int32)  (H1 : Heap) (locs1 : List Loc), Q0 r  → (r = 0 ∨ r = 1) → St D dA A b n T R M sz s.heap H1 locs1 → W p l e Z s m args below meth c H1 locs1 (cells + mc) (slots + ms) QW (F0 m (pc + 3) ls (.int r :: rest))) : W p l e Z s m args below meth c H locs cells slots QW (F0 m pc ls st) :=
  fm_ci (B := fun (u : Unit) H => Wd D dA b n T R M sz H) hw hAA hr (fun r u H1 locs1 hp hB hS => kk r  H1 locs1 hp.2 hp.1 ⟨hB, hS, hw.2.2⟩)
theorem ret_vp {Q : Prop} (hC : Cx p m c cc nL s args own D dA) (hr : meth.sig.returnType = none) (hlk : meth.locks = false) (hw : St D dA A b n T R M sz s.heap H locs) (hp : Q ) (hdg : decode cc pc = .ok (.return_, 1)) : W p l e Z s m args below meth c H locs cells slots (MQ below (Qvp D dA A b n T R M sz Q) args s cells slots A) (F0 m pc ls []) :=
  fm_vret (B := fun (u : Unit) H => Wd D dA b n T R M sz H) hC hr hlk hw () hw.1 hp hdg
theorem call_vp {Q0 : Prop} {a : Array Value} {A1 : Nat → Prop} (hAA : ∀ q, A1 q → A q) (hw : St D dA A b n T R M sz s.heap H locs) (hr : va_Run p l e Z s m args below meth c H locs cells slots mc ms (F0 m pc ls st) rest ((Qvp D dA A1 b n T R M sz Q0) a) A1)
    (kk : ∀  (H1 : Heap) (locs1 : List Loc), Q0  → St D dA A b n T R M sz s.heap H1 locs1 → W p l e Z s m args below meth c H1 locs1 (cells + mc) (slots + ms) QW (F0 m (pc + 3) ls rest)) : W p l e Z s m args below meth c H locs cells slots QW (F0 m pc ls st) :=
  fm_cv (B := fun (u : Unit) H => Wd D dA b n T R M sz H) hw hAA hr (fun u H1 locs1 hp hB hS => kk  H1 locs1 hp ⟨hB, hS, hw.2.2⟩)
theorem ret_rp {Q : Nat → Prop} {r : Nat} {C : String} (hC : Cx p m c cc nL s args own D dA) (hr : meth.sig.returnType = some (.object C)) (hlk : meth.locks = false) (hw : St D dA A b n T R M sz s.heap H locs) (hz : r ≠ 0) (hp : Q r ) (hdg : decode cc pc = .ok (.areturn, 1)) : W p l e Z s m args below meth c H locs cells slots (MQ below (Qrp D dA A b n T R M sz Q) args s cells slots A) (F0 m pc ls [.ref (b + r)]) :=
  fm_aret (B := fun (u : Nat × (Unit)) q H => (q = b + u.1 ∧ u.1 ≠ 0) ∧ Wd D dA b n T R M sz H) hC hr hlk hw (r, ()) ⟨⟨rfl, hz⟩, hw.1⟩ hp hdg
theorem call_rp {Q0 : Nat → Prop} {a : Array Value} {A1 : Nat → Prop} (hAA : ∀ q, A1 q → A q) (hw : St D dA A b n T R M sz s.heap H locs) (hr : va_Run p l e Z s m args below meth c H locs cells slots mc ms (F0 m pc ls st) rest ((Qrp D dA A1 b n T R M sz Q0) a) A1)
    (kk : ∀ (r : Nat)  (H1 : Heap) (locs1 : List Loc), Q0 r  → r ≠ 0 → St D dA A b n T R M sz s.heap H1 locs1 → W p l e Z s m args below meth c H1 locs1 (cells + mc) (slots + ms) QW (F0 m (pc + 3) ls (.ref (b + r) :: rest))) : W p l e Z s m args below meth c H locs cells slots QW (F0 m pc ls st) :=
  fm_cr (B := fun (u : Nat × (Unit)) q H => (q = b + u.1 ∧ u.1 ≠ 0) ∧ Wd D dA b n T R M sz H) hw hAA hr (fun u q H1 locs1 hp hB hS => by obtain ⟨⟨rfl, hz⟩, hB⟩ := hB; exact kk u.1  H1 locs1 hp hz ⟨hB, hS, hw.2.2⟩)
theorem ret_im {Q : Int32 → mM → Prop} {v : Int32} (hC : Cx p m c cc nL s args own D dA) (hr : meth.sig.returnType = some .int) (hlk : meth.locks = false) (hw : St D dA A b n T R M sz s.heap H locs) (hp : Q v M) (hdg : decode cc pc = .ok (.ireturn, 1)) : W p l e Z s m args below meth c H locs cells slots (MQ below (Qim D dA A b n T R sz Q) args s cells slots A) (F0 m pc ls [.int v]) :=
  fm_iret (B := fun (u : mM) H => Wd D dA b n T R u sz H) hC hr hlk hw M hw.1 hp hdg
theorem call_im {Q0 : Int32 → mM → Prop} {a : Array Value} {A1 : Nat → Prop} (hAA : ∀ q, A1 q → A q) (hw : St D dA A b n T R M sz s.heap H locs) (hr : va_Run p l e Z s m args below meth c H locs cells slots mc ms (F0 m pc ls st) rest ((Qim D dA A1 b n T R sz Q0) a) A1)
    (kk : ∀ (r : Int32) (M1 : mM) (H1 : Heap) (locs1 : List Loc), Q0 r M1 → St D dA A b n T R M1 sz s.heap H1 locs1 → W p l e Z s m args below meth c H1 locs1 (cells + mc) (slots + ms) QW (F0 m (pc + 3) ls (.int r :: rest))) : W p l e Z s m args below meth c H locs cells slots QW (F0 m pc ls st) :=
  fm_ci (B := fun (u : mM) H => Wd D dA b n T R u sz H) hw hAA hr (fun r u H1 locs1 hp hB hS => kk r u H1 locs1 hp ⟨hB, hS, hw.2.2⟩)
theorem ret_zm {Q : Int32 → mM → Prop} {v : Int32} (hC : Cx p m c cc nL s args own D dA) (hr : meth.sig.returnType = some .boolean) (hlk : meth.locks = false) (hw : St D dA A b n T R M sz s.heap H locs) (hz : v = 0 ∨ v = 1) (hp : Q v M) (hdg : decode cc pc = .ok (.ireturn, 1)) : W p l e Z s m args below meth c H locs cells slots (MQ below (Qzm D dA A b n T R sz Q) args s cells slots A) (F0 m pc ls [.int v]) :=
  fm_zret (B := fun (u : mM) H => Wd D dA b n T R u sz H) hC hr hlk hw hz M hw.1 ⟨hz, hp⟩ hdg
theorem call_zm {Q0 : Int32 → mM → Prop} {a : Array Value} {A1 : Nat → Prop} (hAA : ∀ q, A1 q → A q) (hw : St D dA A b n T R M sz s.heap H locs) (hr : va_Run p l e Z s m args below meth c H locs cells slots mc ms (F0 m pc ls st) rest ((Qzm D dA A1 b n T R sz Q0) a) A1)
    (kk : ∀ (r : Int32) (M1 : mM) (H1 : Heap) (locs1 : List Loc), Q0 r M1 → (r = 0 ∨ r = 1) → St D dA A b n T R M1 sz s.heap H1 locs1 → W p l e Z s m args below meth c H1 locs1 (cells + mc) (slots + ms) QW (F0 m (pc + 3) ls (.int r :: rest))) : W p l e Z s m args below meth c H locs cells slots QW (F0 m pc ls st) :=
  fm_ci (B := fun (u : mM) H => Wd D dA b n T R u sz H) hw hAA hr (fun r u H1 locs1 hp hB hS => kk r u H1 locs1 hp.2 hp.1 ⟨hB, hS, hw.2.2⟩)
theorem ret_vm {Q : mM → Prop} (hC : Cx p m c cc nL s args own D dA) (hr : meth.sig.returnType = none) (hlk : meth.locks = false) (hw : St D dA A b n T R M sz s.heap H locs) (hp : Q M) (hdg : decode cc pc = .ok (.return_, 1)) : W p l e Z s m args below meth c H locs cells slots (MQ below (Qvm D dA A b n T R sz Q) args s cells slots A) (F0 m pc ls []) :=
  fm_vret (B := fun (u : mM) H => Wd D dA b n T R u sz H) hC hr hlk hw M hw.1 hp hdg
theorem call_vm {Q0 : mM → Prop} {a : Array Value} {A1 : Nat → Prop} (hAA : ∀ q, A1 q → A q) (hw : St D dA A b n T R M sz s.heap H locs) (hr : va_Run p l e Z s m args below meth c H locs cells slots mc ms (F0 m pc ls st) rest ((Qvm D dA A1 b n T R sz Q0) a) A1)
    (kk : ∀ (M1 : mM) (H1 : Heap) (locs1 : List Loc), Q0 M1 → St D dA A b n T R M1 sz s.heap H1 locs1 → W p l e Z s m args below meth c H1 locs1 (cells + mc) (slots + ms) QW (F0 m (pc + 3) ls rest)) : W p l e Z s m args below meth c H locs cells slots QW (F0 m pc ls st) :=
  fm_cv (B := fun (u : mM) H => Wd D dA b n T R u sz H) hw hAA hr (fun u H1 locs1 hp hB hS => kk u H1 locs1 hp ⟨hB, hS, hw.2.2⟩)
theorem ret_rm {Q : Nat → mM → Prop} {r : Nat} {C : String} (hC : Cx p m c cc nL s args own D dA) (hr : meth.sig.returnType = some (.object C)) (hlk : meth.locks = false) (hw : St D dA A b n T R M sz s.heap H locs) (hz : r ≠ 0) (hp : Q r M) (hdg : decode cc pc = .ok (.areturn, 1)) : W p l e Z s m args below meth c H locs cells slots (MQ below (Qrm D dA A b n T R sz Q) args s cells slots A) (F0 m pc ls [.ref (b + r)]) :=
  fm_aret (B := fun (u : Nat × (mM)) q H => (q = b + u.1 ∧ u.1 ≠ 0) ∧ Wd D dA b n T R u.2 sz H) hC hr hlk hw (r, M) ⟨⟨rfl, hz⟩, hw.1⟩ hp hdg
theorem call_rm {Q0 : Nat → mM → Prop} {a : Array Value} {A1 : Nat → Prop} (hAA : ∀ q, A1 q → A q) (hw : St D dA A b n T R M sz s.heap H locs) (hr : va_Run p l e Z s m args below meth c H locs cells slots mc ms (F0 m pc ls st) rest ((Qrm D dA A1 b n T R sz Q0) a) A1)
    (kk : ∀ (r : Nat) (M1 : mM) (H1 : Heap) (locs1 : List Loc), Q0 r M1 → r ≠ 0 → St D dA A b n T R M1 sz s.heap H1 locs1 → W p l e Z s m args below meth c H1 locs1 (cells + mc) (slots + ms) QW (F0 m (pc + 3) ls (.ref (b + r) :: rest))) : W p l e Z s m args below meth c H locs cells slots QW (F0 m pc ls st) :=
  fm_cr (B := fun (u : Nat × (mM)) q H => (q = b + u.1 ∧ u.1 ≠ 0) ∧ Wd D dA b n T R u.2 sz H) hw hAA hr (fun u q H1 locs1 hp hB hS => by obtain ⟨⟨rfl, hz⟩, hB⟩ := hB; exact kk u.1 u.2 H1 locs1 hp hz ⟨hB, hS, hw.2.2⟩)
theorem ret_ir {Q : Int32 → mR → mM → Prop} {v : Int32} (hC : Cx p m c cc nL s args own D dA) (hr : meth.sig.returnType = some .int) (hlk : meth.locks = false) (hw : St D dA A b n T R M sz s.heap H locs) (hp : Q v R M) (hdg : decode cc pc = .ok (.ireturn, 1)) : W p l e Z s m args below meth c H locs cells slots (MQ below (Qir D dA A b n T sz Q) args s cells slots A) (F0 m pc ls [.int v]) :=
  fm_iret (B := fun (u : mR × mM) H => Wd D dA b n T u.1 u.2 sz H) hC hr hlk hw (R, M) hw.1 hp hdg
theorem call_ir {Q0 : Int32 → mR → mM → Prop} {a : Array Value} {A1 : Nat → Prop} (hAA : ∀ q, A1 q → A q) (hw : St D dA A b n T R M sz s.heap H locs) (hr : va_Run p l e Z s m args below meth c H locs cells slots mc ms (F0 m pc ls st) rest ((Qir D dA A1 b n T sz Q0) a) A1)
    (kk : ∀ (r : Int32) (R1 : mR) (M1 : mM) (H1 : Heap) (locs1 : List Loc), Q0 r R1 M1 → St D dA A b n T R1 M1 sz s.heap H1 locs1 → W p l e Z s m args below meth c H1 locs1 (cells + mc) (slots + ms) QW (F0 m (pc + 3) ls (.int r :: rest))) : W p l e Z s m args below meth c H locs cells slots QW (F0 m pc ls st) :=
  fm_ci (B := fun (u : mR × mM) H => Wd D dA b n T u.1 u.2 sz H) hw hAA hr (fun r u H1 locs1 hp hB hS => kk r u.1 u.2 H1 locs1 hp ⟨hB, hS, hw.2.2⟩)
theorem ret_zr {Q : Int32 → mR → mM → Prop} {v : Int32} (hC : Cx p m c cc nL s args own D dA) (hr : meth.sig.returnType = some .boolean) (hlk : meth.locks = false) (hw : St D dA A b n T R M sz s.heap H locs) (hz : v = 0 ∨ v = 1) (hp : Q v R M) (hdg : decode cc pc = .ok (.ireturn, 1)) : W p l e Z s m args below meth c H locs cells slots (MQ below (Qzr D dA A b n T sz Q) args s cells slots A) (F0 m pc ls [.int v]) :=
  fm_zret (B := fun (u : mR × mM) H => Wd D dA b n T u.1 u.2 sz H) hC hr hlk hw hz (R, M) hw.1 ⟨hz, hp⟩ hdg
theorem call_zr {Q0 : Int32 → mR → mM → Prop} {a : Array Value} {A1 : Nat → Prop} (hAA : ∀ q, A1 q → A q) (hw : St D dA A b n T R M sz s.heap H locs) (hr : va_Run p l e Z s m args below meth c H locs cells slots mc ms (F0 m pc ls st) rest ((Qzr D dA A1 b n T sz Q0) a) A1)
    (kk : ∀ (r : Int32) (R1 : mR) (M1 : mM) (H1 : Heap) (locs1 : List Loc), Q0 r R1 M1 → (r = 0 ∨ r = 1) → St D dA A b n T R1 M1 sz s.heap H1 locs1 → W p l e Z s m args below meth c H1 locs1 (cells + mc) (slots + ms) QW (F0 m (pc + 3) ls (.int r :: rest))) : W p l e Z s m args below meth c H locs cells slots QW (F0 m pc ls st) :=
  fm_ci (B := fun (u : mR × mM) H => Wd D dA b n T u.1 u.2 sz H) hw hAA hr (fun r u H1 locs1 hp hB hS => kk r u.1 u.2 H1 locs1 hp.2 hp.1 ⟨hB, hS, hw.2.2⟩)
theorem ret_vr {Q : mR → mM → Prop} (hC : Cx p m c cc nL s args own D dA) (hr : meth.sig.returnType = none) (hlk : meth.locks = false) (hw : St D dA A b n T R M sz s.heap H locs) (hp : Q R M) (hdg : decode cc pc = .ok (.return_, 1)) : W p l e Z s m args below meth c H locs cells slots (MQ below (Qvr D dA A b n T sz Q) args s cells slots A) (F0 m pc ls []) :=
  fm_vret (B := fun (u : mR × mM) H => Wd D dA b n T u.1 u.2 sz H) hC hr hlk hw (R, M) hw.1 hp hdg
theorem call_vr {Q0 : mR → mM → Prop} {a : Array Value} {A1 : Nat → Prop} (hAA : ∀ q, A1 q → A q) (hw : St D dA A b n T R M sz s.heap H locs) (hr : va_Run p l e Z s m args below meth c H locs cells slots mc ms (F0 m pc ls st) rest ((Qvr D dA A1 b n T sz Q0) a) A1)
    (kk : ∀ (R1 : mR) (M1 : mM) (H1 : Heap) (locs1 : List Loc), Q0 R1 M1 → St D dA A b n T R1 M1 sz s.heap H1 locs1 → W p l e Z s m args below meth c H1 locs1 (cells + mc) (slots + ms) QW (F0 m (pc + 3) ls rest)) : W p l e Z s m args below meth c H locs cells slots QW (F0 m pc ls st) :=
  fm_cv (B := fun (u : mR × mM) H => Wd D dA b n T u.1 u.2 sz H) hw hAA hr (fun u H1 locs1 hp hB hS => kk u.1 u.2 H1 locs1 hp ⟨hB, hS, hw.2.2⟩)
theorem ret_rr {Q : Nat → mR → mM → Prop} {r : Nat} {C : String} (hC : Cx p m c cc nL s args own D dA) (hr : meth.sig.returnType = some (.object C)) (hlk : meth.locks = false) (hw : St D dA A b n T R M sz s.heap H locs) (hz : r ≠ 0) (hp : Q r R M) (hdg : decode cc pc = .ok (.areturn, 1)) : W p l e Z s m args below meth c H locs cells slots (MQ below (Qrr D dA A b n T sz Q) args s cells slots A) (F0 m pc ls [.ref (b + r)]) :=
  fm_aret (B := fun (u : Nat × (mR × mM)) q H => (q = b + u.1 ∧ u.1 ≠ 0) ∧ Wd D dA b n T u.2.1 u.2.2 sz H) hC hr hlk hw (r, (R, M)) ⟨⟨rfl, hz⟩, hw.1⟩ hp hdg
theorem call_rr {Q0 : Nat → mR → mM → Prop} {a : Array Value} {A1 : Nat → Prop} (hAA : ∀ q, A1 q → A q) (hw : St D dA A b n T R M sz s.heap H locs) (hr : va_Run p l e Z s m args below meth c H locs cells slots mc ms (F0 m pc ls st) rest ((Qrr D dA A1 b n T sz Q0) a) A1)
    (kk : ∀ (r : Nat) (R1 : mR) (M1 : mM) (H1 : Heap) (locs1 : List Loc), Q0 r R1 M1 → r ≠ 0 → St D dA A b n T R1 M1 sz s.heap H1 locs1 → W p l e Z s m args below meth c H1 locs1 (cells + mc) (slots + ms) QW (F0 m (pc + 3) ls (.ref (b + r) :: rest))) : W p l e Z s m args below meth c H locs cells slots QW (F0 m pc ls st) :=
  fm_cr (B := fun (u : Nat × (mR × mM)) q H => (q = b + u.1 ∧ u.1 ≠ 0) ∧ Wd D dA b n T u.2.1 u.2.2 sz H) hw hAA hr (fun u q H1 locs1 hp hB hS => by obtain ⟨⟨rfl, hz⟩, hB⟩ := hB; exact kk u.1 u.2.1 u.2.2 H1 locs1 hp hz ⟨hB, hS, hw.2.2⟩)
theorem ret_ia {Q : Int32 → Nat → mT → mR → mM → Prop} {v : Int32} (hC : Cx p m c cc nL s args own D dA) (hr : meth.sig.returnType = some .int) (hlk : meth.locks = false) (hw : St D dA (Ab b) b n T R M (b + n + 1) s.heap H locs) (hp : Q v n T R M) (hdg : decode cc pc = .ok (.ireturn, 1)) : W p l e Z s m args below meth c H locs cells slots (MQ below (Qia D dA b  Q) args s cells slots (Ab b)) (F0 m pc ls [.int v]) :=
  fm_iret (B := fun (u : Nat × mT × mR × mM) H => Wd D dA b u.1 u.2.1 u.2.2.1 u.2.2.2 (b + u.1 + 1) H) hC hr hlk hw (n, T, R, M) hw.1 hp hdg
theorem call_ia {Q0 : Int32 → Nat → mT → mR → mM → Prop} {a : Array Value} (hAA : ∀ q, Ab b q → Ab b q) (hw : St D dA (Ab b) b n T R M (b + n + 1) s.heap H locs) (hr : va_Run p l e Z s m args below meth c H locs cells slots mc ms (F0 m pc ls st) rest ((Qia D dA b  Q0) a) (Ab b))
    (kk : ∀ (r : Int32) (n1 : Nat) (T1 : mT) (R1 : mR) (M1 : mM) (H1 : Heap) (locs1 : List Loc), Q0 r n1 T1 R1 M1 → St D dA (Ab b) b n1 T1 R1 M1 (b + n1 + 1) s.heap H1 locs1 → W p l e Z s m args below meth c H1 locs1 (cells + mc) (slots + ms) QW (F0 m (pc + 3) ls (.int r :: rest))) : W p l e Z s m args below meth c H locs cells slots QW (F0 m pc ls st) :=
  fm_ci (B := fun (u : Nat × mT × mR × mM) H => Wd D dA b u.1 u.2.1 u.2.2.1 u.2.2.2 (b + u.1 + 1) H) hw hAA hr (fun r u H1 locs1 hp hB hS => kk r u.1 u.2.1 u.2.2.1 u.2.2.2 H1 locs1 hp ⟨hB, hS, (fun k h0 _ => show b < b + k by omega)⟩)
theorem ret_za {Q : Int32 → Nat → mT → mR → mM → Prop} {v : Int32} (hC : Cx p m c cc nL s args own D dA) (hr : meth.sig.returnType = some .boolean) (hlk : meth.locks = false) (hw : St D dA (Ab b) b n T R M (b + n + 1) s.heap H locs) (hz : v = 0 ∨ v = 1) (hp : Q v n T R M) (hdg : decode cc pc = .ok (.ireturn, 1)) : W p l e Z s m args below meth c H locs cells slots (MQ below (Qza D dA b  Q) args s cells slots (Ab b)) (F0 m pc ls [.int v]) :=
  fm_zret (B := fun (u : Nat × mT × mR × mM) H => Wd D dA b u.1 u.2.1 u.2.2.1 u.2.2.2 (b + u.1 + 1) H) hC hr hlk hw hz (n, T, R, M) hw.1 ⟨hz, hp⟩ hdg
theorem call_za {Q0 : Int32 → Nat → mT → mR → mM → Prop} {a : Array Value} (hAA : ∀ q, Ab b q → Ab b q) (hw : St D dA (Ab b) b n T R M (b + n + 1) s.heap H locs) (hr : va_Run p l e Z s m args below meth c H locs cells slots mc ms (F0 m pc ls st) rest ((Qza D dA b  Q0) a) (Ab b))
    (kk : ∀ (r : Int32) (n1 : Nat) (T1 : mT) (R1 : mR) (M1 : mM) (H1 : Heap) (locs1 : List Loc), Q0 r n1 T1 R1 M1 → (r = 0 ∨ r = 1) → St D dA (Ab b) b n1 T1 R1 M1 (b + n1 + 1) s.heap H1 locs1 → W p l e Z s m args below meth c H1 locs1 (cells + mc) (slots + ms) QW (F0 m (pc + 3) ls (.int r :: rest))) : W p l e Z s m args below meth c H locs cells slots QW (F0 m pc ls st) :=
  fm_ci (B := fun (u : Nat × mT × mR × mM) H => Wd D dA b u.1 u.2.1 u.2.2.1 u.2.2.2 (b + u.1 + 1) H) hw hAA hr (fun r u H1 locs1 hp hB hS => kk r u.1 u.2.1 u.2.2.1 u.2.2.2 H1 locs1 hp.2 hp.1 ⟨hB, hS, (fun k h0 _ => show b < b + k by omega)⟩)
theorem ret_va {Q : Nat → mT → mR → mM → Prop} (hC : Cx p m c cc nL s args own D dA) (hr : meth.sig.returnType = none) (hlk : meth.locks = false) (hw : St D dA (Ab b) b n T R M (b + n + 1) s.heap H locs) (hp : Q n T R M) (hdg : decode cc pc = .ok (.return_, 1)) : W p l e Z s m args below meth c H locs cells slots (MQ below (Qva D dA b  Q) args s cells slots (Ab b)) (F0 m pc ls []) :=
  fm_vret (B := fun (u : Nat × mT × mR × mM) H => Wd D dA b u.1 u.2.1 u.2.2.1 u.2.2.2 (b + u.1 + 1) H) hC hr hlk hw (n, T, R, M) hw.1 hp hdg
theorem call_va {Q0 : Nat → mT → mR → mM → Prop} {a : Array Value} (hAA : ∀ q, Ab b q → Ab b q) (hw : St D dA (Ab b) b n T R M (b + n + 1) s.heap H locs) (hr : va_Run p l e Z s m args below meth c H locs cells slots mc ms (F0 m pc ls st) rest ((Qva D dA b  Q0) a) (Ab b))
    (kk : ∀ (n1 : Nat) (T1 : mT) (R1 : mR) (M1 : mM) (H1 : Heap) (locs1 : List Loc), Q0 n1 T1 R1 M1 → St D dA (Ab b) b n1 T1 R1 M1 (b + n1 + 1) s.heap H1 locs1 → W p l e Z s m args below meth c H1 locs1 (cells + mc) (slots + ms) QW (F0 m (pc + 3) ls rest)) : W p l e Z s m args below meth c H locs cells slots QW (F0 m pc ls st) :=
  fm_cv (B := fun (u : Nat × mT × mR × mM) H => Wd D dA b u.1 u.2.1 u.2.2.1 u.2.2.2 (b + u.1 + 1) H) hw hAA hr (fun u H1 locs1 hp hB hS => kk u.1 u.2.1 u.2.2.1 u.2.2.2 H1 locs1 hp ⟨hB, hS, (fun k h0 _ => show b < b + k by omega)⟩)
theorem ret_ra {Q : Nat → Nat → mT → mR → mM → Prop} {r : Nat} {C : String} (hC : Cx p m c cc nL s args own D dA) (hr : meth.sig.returnType = some (.object C)) (hlk : meth.locks = false) (hw : St D dA (Ab b) b n T R M (b + n + 1) s.heap H locs) (hz : r ≠ 0) (hp : Q r n T R M) (hdg : decode cc pc = .ok (.areturn, 1)) : W p l e Z s m args below meth c H locs cells slots (MQ below (Qra D dA b  Q) args s cells slots (Ab b)) (F0 m pc ls [.ref (b + r)]) :=
  fm_aret (B := fun (u : Nat × (Nat × mT × mR × mM)) q H => (q = b + u.1 ∧ u.1 ≠ 0) ∧ Wd D dA b u.2.1 u.2.2.1 u.2.2.2.1 u.2.2.2.2 (b + u.2.1 + 1) H) hC hr hlk hw (r, (n, T, R, M)) ⟨⟨rfl, hz⟩, hw.1⟩ hp hdg
theorem call_ra {Q0 : Nat → Nat → mT → mR → mM → Prop} {a : Array Value} (hAA : ∀ q, Ab b q → Ab b q) (hw : St D dA (Ab b) b n T R M (b + n + 1) s.heap H locs) (hr : va_Run p l e Z s m args below meth c H locs cells slots mc ms (F0 m pc ls st) rest ((Qra D dA b  Q0) a) (Ab b))
    (kk : ∀ (r : Nat) (n1 : Nat) (T1 : mT) (R1 : mR) (M1 : mM) (H1 : Heap) (locs1 : List Loc), Q0 r n1 T1 R1 M1 → r ≠ 0 → St D dA (Ab b) b n1 T1 R1 M1 (b + n1 + 1) s.heap H1 locs1 → W p l e Z s m args below meth c H1 locs1 (cells + mc) (slots + ms) QW (F0 m (pc + 3) ls (.ref (b + r) :: rest))) : W p l e Z s m args below meth c H locs cells slots QW (F0 m pc ls st) :=
  fm_cr (B := fun (u : Nat × (Nat × mT × mR × mM)) q H => (q = b + u.1 ∧ u.1 ≠ 0) ∧ Wd D dA b u.2.1 u.2.2.1 u.2.2.2.1 u.2.2.2.2 (b + u.2.1 + 1) H) hw hAA hr (fun u q H1 locs1 hp hB hS => by obtain ⟨⟨rfl, hz⟩, hB⟩ := hB; exact kk u.1 u.2.1 u.2.2.1 u.2.2.2.1 u.2.2.2.2 H1 locs1 hp hz ⟨hB, hS, (fun k h0 _ => show b < b + k by omega)⟩)
end FQ

