set_option maxHeartbeats 4000000 in
set_option maxRecDepth 100000 in
/-- the law comes to its end with true, out of what the two programs do call by call -/
theorem law_walk (Sim : Nat → mT → mR → mM → mT → mR → mM → Prop)
    (h_start : ∀ (c : Nat) (T : mT) (R : mR) (M : mM) (T2 : mT) (R2 : mR) (M2 : mM) , c < 512 → Sim c T R M T2 R2 M2 → w_X_start 200 T R M 1  (fun r M' => w_Mo_start 34 T2 R2 M2 1  (fun r2 M2' => r = r2 ∧ Sim (c + 1) T R M' T2 R2 M2')))
    (h_tick : ∀ (c : Nat) (T : mT) (R : mR) (M : mM) (T2 : mT) (R2 : mR) (M2 : mM) , c < 512 → Sim c T R M T2 R2 M2 → w_X_tick 200 T R M 1  (fun r M' => w_Mo_tick 34 T2 R2 M2 1  (fun r2 M2' => r = r2 ∧ Sim (c + 1) T R M' T2 R2 M2')))
    (h_send : ∀ (c : Nat) (T : mT) (R : mR) (M : mM) (T2 : mT) (R2 : mR) (M2 : mM) (u1 : Int32) (u2 : Int32), c < 512 → Sim c T R M T2 R2 M2 → w_X_send 200 T R M 1 u1 u2 (fun r M' => w_Mo_send 34 T2 R2 M2 1 u1 u2 (fun r2 M2' => r = r2 ∧ Sim (c + 1) T R M' T2 R2 M2')))
    (h_deliver : ∀ (c : Nat) (T : mT) (R : mR) (M : mM) (T2 : mT) (R2 : mR) (M2 : mM) (u1 : Int32), c < 512 → Sim c T R M T2 R2 M2 → w_X_deliver 200 T R M 1 u1 (fun r R' M' => w_Mo_deliver 34 T2 R2 M2 1 u1 (fun r2 M2' => r = r2 ∧ Sim (c + 1) T R' M' T2 R2 M2')))
    (h_drop : ∀ (c : Nat) (T : mT) (R : mR) (M : mM) (T2 : mT) (R2 : mR) (M2 : mM) (u1 : Int32), c < 512 → Sim c T R M T2 R2 M2 → w_X_drop 200 T R M 1 u1 (fun r R' M' => w_Mo_drop 34 T2 R2 M2 1 u1 (fun r2 M2' => r = r2 ∧ Sim (c + 1) T R' M' T2 R2 M2')))
    (h_copy : ∀ (c : Nat) (T : mT) (R : mR) (M : mM) (T2 : mT) (R2 : mR) (M2 : mM) (u1 : Int32), c < 512 → Sim c T R M T2 R2 M2 → w_X_copy 200 T R M 1 u1 (fun r M' => w_Mo_copy 34 T2 R2 M2 1 u1 (fun r2 M2' => r = r2 ∧ Sim (c + 1) T R M' T2 R2 M2')))
    (h_spoil : ∀ (c : Nat) (T : mT) (R : mR) (M : mM) (T2 : mT) (R2 : mR) (M2 : mM) (u1 : Int32), c < 512 → Sim c T R M T2 R2 M2 → w_X_spoil 200 T R M 1 u1 (fun r M' => w_Mo_spoil 34 T2 R2 M2 1 u1 (fun r2 M2' => r = r2 ∧ Sim (c + 1) T R M' T2 R2 M2')))
    (h_waiting : ∀ (c : Nat) (T : mT) (R : mR) (M : mM) (T2 : mT) (R2 : mR) (M2 : mM) , c < 512 → Sim c T R M T2 R2 M2 → w_X_waiting 200 T R M 1  (fun r  => w_Mo_waiting 34 T2 R2 M2 1  (fun r2  => r = r2 ∧ Sim (c + 1) T R M T2 R2 M2)))
    (h_lost : ∀ (c : Nat) (T : mT) (R : mR) (M : mM) (T2 : mT) (R2 : mR) (M2 : mM) , c < 512 → Sim c T R M T2 R2 M2 → w_X_lost 200 T R M 1  (fun r  => w_Mo_lost 34 T2 R2 M2 1  (fun r2  => r = r2 ∧ Sim (c + 1) T R M T2 R2 M2)))
    (h_record : ∀ (c : Nat) (T : mT) (R : mR) (M : mM) (T2 : mT) (R2 : mR) (M2 : mM) (u1 : Int32), c < 512 → Sim c T R M T2 R2 M2 → w_X_record 200 T R M 1 u1 (fun r  => w_Mo_record 34 T2 R2 M2 1 u1 (fun r2  => r = r2 ∧ Sim (c + 1) T R M T2 R2 M2)))
    (h_content : ∀ (c : Nat) (T : mT) (R : mR) (M : mM) (T2 : mT) (R2 : mR) (M2 : mM) (u1 : Int32), c < 512 → Sim c T R M T2 R2 M2 → w_X_content 200 T R M 1 u1 (fun r  => w_Mo_content1 34 T2 R2 M2 1 u1 (fun r2  => r = r2 ∧ Sim (c + 1) T R M T2 R2 M2)))
    (h_byteOf : ∀ (c : Nat) (T : mT) (R : mR) (M : mM) (T2 : mT) (R2 : mR) (M2 : mM) (u1 : Int32) (u2 : Int32), c < 512 → Sim c T R M T2 R2 M2 → w_X_byteOf 200 T R M 1 u1 u2 (fun r  => w_Mo_byteOf 34 T2 R2 M2 1 u1 u2 (fun r2  => r = r2 ∧ Sim (c + 1) T R M T2 R2 M2)))
    (h_state : ∀ (c : Nat) (T : mT) (R : mR) (M : mM) (T2 : mT) (R2 : mR) (M2 : mM) (u1 : Int32), c < 512 → Sim c T R M T2 R2 M2 → w_X_state 200 T R M 1 u1 (fun r  => w_Mo_state 34 T2 R2 M2 1 u1 (fun r2  => r = r2 ∧ Sim (c + 1) T R M T2 R2 M2)))
    (h_transcript : ∀ (c : Nat) (T : mT) (R : mR) (M : mM) (T2 : mT) (R2 : mR) (M2 : mM) (u1 : Int32), c < 512 → Sim c T R M T2 R2 M2 → w_X_transcript 200 T R M 1 u1 (fun r  => w_Mo_transcript 34 T2 R2 M2 1 u1 (fun r2  => r = r2 ∧ Sim (c + 1) T R M T2 R2 M2)))
    (h_open : ∀ (c : Nat) (T : mT) (R : mR) (M : mM) (T2 : mT) (R2 : mR) (M2 : mM) (u1 : Int32), c < 512 → Sim c T R M T2 R2 M2 → w_X_open 200 T R M 1 u1 (fun r  => w_Mo_open 34 T2 R2 M2 1 u1 (fun r2  => r = r2 ∧ Sim (c + 1) T R M T2 R2 M2)))
    (h_kept : ∀ (c : Nat) (T : mT) (R : mR) (M : mM) (T2 : mT) (R2 : mR) (M2 : mM) (u1 : Int32), c < 512 → Sim c T R M T2 R2 M2 → w_X_kept 200 T R M 1 u1 (fun r  => w_Mo_kept 34 T2 R2 M2 1 u1 (fun r2  => r = r2 ∧ Sim (c + 1) T R M T2 R2 M2)))
    (h_received : ∀ (c : Nat) (T : mT) (R : mR) (M : mM) (T2 : mT) (R2 : mR) (M2 : mM) (u1 : Int32), c < 512 → Sim c T R M T2 R2 M2 → w_X_received 200 T R M 1 u1 (fun r  => w_Mo_received 34 T2 R2 M2 1 u1 (fun r2  => r = r2 ∧ Sim (c + 1) T R M T2 R2 M2)))
    (h_value : ∀ (c : Nat) (T : mT) (R : mR) (M : mM) (T2 : mT) (R2 : mR) (M2 : mM) (u1 : Int32) (u2 : Int32), c < 512 → Sim c T R M T2 R2 M2 → w_X_value 200 T R M 1 u1 u2 (fun r  => w_Mo_value 34 T2 R2 M2 1 u1 u2 (fun r2  => r = r2 ∧ Sim (c + 1) T R M T2 R2 M2)))
    (h_none : ∀ (c : Nat) (T : mT) (R : mR) (M : mM) (T2 : mT) (R2 : mR) (M2 : mM), c < 512 → Sim c T R M T2 R2 M2 → Sim (c + 1) T R M T2 R2 M2)
    (h_new : ∀ (u1 u2 : Int32) (T : mT) (R : mR) (M : mM) (T2 : mT) (R2 : mR) (M2 : mM), w_X_init 1 (sT T 1 (10, 0)) (zR R 1) (zM M 1) 1 u1 u2 (fun n T R M => n = 200 ∧ w_Mo_init 1 (sT T2 1 (11, 0)) (zR R2 1) (zM M2 1) 1 u1 u2 (fun n2 T2 R2 M2 => n2 = 34 ∧ Sim 0 T R M T2 R2 M2)))
    {p : Program} {e : Env} {s : State} {m : MethodId} {below : List Frame} {meth : Method} {c : Code} (l : Launch) {sb L : Nat} {xs : Nat → Int32} (hL : L ≤ 1538) (hx : p.tables.exec = Jvm.exec) (hb : c.code = code) (hml : c.maxLocals = 4) (hown : s.vm.findClass R_law = some m.cls) (hts0 : ∀ w ∈ lw_tbl, w.before #[Value.ref sb] s = true) (hX : va_X sb L xs s s.heap) (hbl : sb < s.heap.size) {Q : State → Prop}
    (fin : ∀ (H : Heap) (ls : Array Slot) (cells slots : Nat), cells ≤ 600000 → slots ≤ 7302250 → W p l e room_1 s m #[Value.ref sb] below meth c H [] cells slots Q (F0 m 551 ls [.int 1])) : W p l e room_1 s m #[Value.ref sb] below meth c s.heap [] 0 0 Q (entryFrame m ([Value.ref sb] : List Value).toArray 4) := by
  obtain ⟨D, dA, hE⟩ := env_known hts0
  have hts : ∀ w ∈ tW, w.before #[Value.ref sb] s = true := fun w hw => hts0 w (List.mem_filter.mp hw).1
  obtain ⟨b, hsz⟩ : ∃ b, s.heap.size = b + 1 := ⟨s.heap.size - 1, by omega⟩
  have hC : Cx p m c code 4 s #[Value.ref sb] "LossyHandshakeLaw" D dA := ⟨⟨hx, hb, hml, hown, hts⟩, hE⟩
  have hL31 : L < 2 ^ 31 := by omega
  have hbA : ¬ Ab b sb := fun h => by have h : b < sb := h; omega
  have hl := lv_entry ([.ref sb]) (n := 4) (Nat.le_of_ble_eq_true rfl)
  rw [lg_entry_eq]
  generalize (lg_sl ([.ref sb]) ++ List.replicate (4 - (lg_sl ([.ref sb])).length) Slot.unset).toArray = ls at hl ⊢
  have hl : lv_has ls 4 [(0, .ref sb)] := hl
  have LP : ∀ (N k : Nat) (T : mT) (R : mR) (M : mM) (T2 : mT) (R2 : mR) (M2 : mM) (sz cells slots : Nat) (ls : Array Slot) (H : Heap), Sim k T R M T2 R2 M2 → L ≤ 2 + 3 * k + 3 * N → k ≤ 512 → cells ≤ 600000 → slots ≤ 7302250 → lv_has ls 4 [(3, .int (nI (2 + 3 * k))), (2, .ref (b + 200 + 1)), (1, .ref (b + 1)), (0, .ref sb)] → LW D dA b sz T R M T2 R2 M2 s.heap H → W p l e room_1 s m #[Value.ref sb] below meth c H [] cells slots Q (F0 m 38 ls []) := by
    intro N
    induction N with
    | zero =>
      intro k T R M T2 R2 M2 sz cells slots ls H hsim hLN hk512 hcl hsl hl hw
      refine lv_iload_n (pc := 38) hx hb d_Law_law_38 rfl (lv_at hl 0 rfl) ?_
      refine lv_aload_n (pc := 39) hx hb d_Law_law_39 rfl (lv_at hl 3 rfl) ?_
      refine va_slen (pc := 40) hx hb hX hbl hbA hw.2.2.1 d_Law_law_40 ?_
      refine lv_iconst (v := 3) (pc := 41) hx hb d_Law_law_41 (by decide) ?_
      refine lv_isub (pc := 42) hx hb d_Law_law_42 ?_
      have hsub : (Int32.ofNat L - 3).toInt = (L : Int) - 3 := pk_sub_toInt (a := L) (b := 3) (by omega) (by decide)
      have hki : (nI (2 + 3 * k)).toInt = ((2 + 3 * k : Nat) : Int) := nI_toInt (by omega)
      refine lv_icmp_gt (pc := 43) (tgt := 550) hx hb d_Law_law_43 rfl (fun hc => ?_) (fun hc => ?_)
      · refine lv_iconst (v := 1) (pc := 550) hx hb d_Law_law_550 (by decide) ?_
        exact fin _ _ _ _ hcl hsl
      · have hkL : 2 + 3 * k + 3 ≤ L := by
          rw [Int32.lt_iff_toInt_lt, hsub, hki] at hc
          omega
        omega
    | succ N ih =>
      intro k T R M T2 R2 M2 sz cells slots ls H hsim hLN hk512 hcl hsl hl hw
      refine lv_iload_n (pc := 38) hx hb d_Law_law_38 rfl (lv_at hl 0 rfl) ?_
      refine lv_aload_n (pc := 39) hx hb d_Law_law_39 rfl (lv_at hl 3 rfl) ?_
      refine va_slen (pc := 40) hx hb hX hbl hbA hw.2.2.1 d_Law_law_40 ?_
      refine lv_iconst (v := 3) (pc := 41) hx hb d_Law_law_41 (by decide) ?_
      refine lv_isub (pc := 42) hx hb d_Law_law_42 ?_
      have hsub : (Int32.ofNat L - 3).toInt = (L : Int) - 3 := pk_sub_toInt (a := L) (b := 3) (by omega) (by decide)
      have hki : (nI (2 + 3 * k)).toInt = ((2 + 3 * k : Nat) : Int) := nI_toInt (by omega)
      refine lv_icmp_gt (pc := 43) (tgt := 550) hx hb d_Law_law_43 rfl (fun hc => ?_) (fun hc => ?_)
      · refine lv_iconst (v := 1) (pc := 550) hx hb d_Law_law_550 (by decide) ?_
        exact fin _ _ _ _ hcl hsl
      · have hkL : 2 + 3 * k + 3 ≤ L := by
          rw [Int32.lt_iff_toInt_lt, hsub, hki] at hc
          omega
        have hc512 : k < 512 := by omega
        refine lv_aload_n (pc := 46) hx hb d_Law_law_46 rfl (lv_at hl 3 rfl) ?_
        refine lv_iload_n (pc := 47) hx hb d_Law_law_47 rfl (lv_at hl 0 rfl) ?_
        refine va_sld (pc := 48) hx hb hX hbl hbA hw.2.2.1 (vp_in_nI (by omega) hL31) d_Law_law_48 ?_
        refine lv_bipush (v := 31) (pc := 49) hx hb d_Law_law_49 (by decide) ?_
        refine lv_iand (pc := 51) hx hb d_Law_law_51 ?_
        generalize hsw : xs (nI (2 + 3 * k)).toNatClampNeg &&& (31 : Int32) = w
        have e1 : nI (2 + 3 * k) + 1 = nI (2 + 3 * k + 1) := nI_1 _
        have e2 : nI (2 + 3 * k) + 2 = nI (2 + 3 * k + 2) := by rw [show (2 : Int32) = nI 2 from rfl, nI_add]
        have i1 : vp_in (nI (2 + 3 * k) + 1) L := by rw [e1]; exact vp_in_nI (by omega) hL31
        have i2 : vp_in (nI (2 + 3 * k) + 2) L := by rw [e2]; exact vp_in_nI (by omega) hL31
        have go : ∀ (T : mT) (R : mR) (M : mM) (T2 : mT) (R2 : mR) (M2 : mM) (sz : Nat) (H : Heap), Sim (k + 1) T R M T2 R2 M2 → LW D dA b sz T R M T2 R2 M2 s.heap H → W p l e room_1 s m #[Value.ref sb] below meth c H [] cells slots Q (F0 m 544 ls []) := by
          intro T R M T2 R2 M2 sz H hsim hw
          refine lv_iinc (pc := 544) (k := 0) (v := nI (2 + 3 * (k + 1))) hx hb d_Law_law_544 hl rfl (by rw [show Int32.ofInt 3 = nI 3 from rfl, nI_add]; congr 1) (by decide) rfl (fun ls hl => ?_)
          have hl : lv_has ls 4 [(3, .int (nI (2 + 3 * (k + 1)))), (2, .ref (b + 200 + 1)), (1, .ref (b + 1)), (0, .ref sb)] := hl
          refine lv_goto (pc := 547) (tgt := 38) hx hb d_Law_law_547 rfl ?_
          exact ih (k + 1) T R M T2 R2 M2 sz cells slots ls H hsim (by omega) (by omega) hcl hsl hl hw
        by_cases hs_0 : w = (0 : Int32)
        · refine lv_tableIn (pc := 52) (tgt := 140) hx hb d_Law_law_52 (by rw [hs_0]; decide) (by rw [hs_0]; decide) (by rw [hs_0]; try rfl) rfl ?_
          refine lv_aload_n (pc := 140) hx hb d_Law_law_140 rfl (lv_at hl 2 rfl) ?_
          have hp := h_start k T R M T2 R2 M2  hc512 hsim
          have ht := hp.1
          refine lx_zm (pc := 141) hw (fm_runV (As := []) (rest := []) hC hw.cw (c_X_start l D dA b 200 T R M sz 1  _) cy_X_start hp rfl rfl mv_2 mv_3 mv_4 (rfl : classes[10]? = _) (by decide) ht ⟨Nat.le_of_ble_eq_true rfl, Nat.le_of_ble_eq_true rfl⟩ rfl hl.1 rfl (Nat.le_of_ble_eq_true rfl) d_Law_law_141 ⟨hcl, hsl⟩) (fun r M H hp hw => ?_)
          refine lv_aload_n (pc := 144) hx hb d_Law_law_144 rfl (lv_at hl 1 rfl) ?_
          have ht := hp.1
          refine lm_zm (pc := 145) hw (fm_runV (As := []) (rest := [.int r]) hC hw.mw (c_Mo_start l D dA (b + 200) 34 T2 R2 M2 sz 1  _) cy_Mo_start hp rfl rfl mv_5 mv_6 mv_7 (rfl : classes[11]? = _) (by decide) ht ⟨Nat.le_of_ble_eq_true rfl, Nat.le_of_ble_eq_true rfl⟩ rfl hl.1 rfl (Nat.le_of_ble_eq_true rfl) d_Law_law_145 ⟨hcl, hsl⟩) (fun r2 M2 H hp hw => ?_)
          exact lv_icmp_eq (pc := 148) (tgt := 544) hx hb d_Law_law_148 rfl (fun _ => go T R M T2 R2 M2 sz H hp.2 hw) (fun hne => absurd hp.1 hne)
        by_cases hs_1 : w = (1 : Int32)
        · refine lv_tableIn (pc := 52) (tgt := 153) hx hb d_Law_law_52 (by rw [hs_1]; decide) (by rw [hs_1]; decide) (by rw [hs_1]; try rfl) rfl ?_
          refine lv_aload_n (pc := 153) hx hb d_Law_law_153 rfl (lv_at hl 2 rfl) ?_
          have hp := h_tick k T R M T2 R2 M2  hc512 hsim
          have ht := hp.1
          refine lx_im (pc := 154) hw (fm_runV (As := []) (rest := []) hC hw.cw (c_X_tick l D dA b 200 T R M sz 1  _) cy_X_tick hp rfl rfl mv_8 mv_9 mv_10 (rfl : classes[10]? = _) (by decide) ht ⟨Nat.le_of_ble_eq_true rfl, Nat.le_of_ble_eq_true rfl⟩ rfl hl.1 rfl (Nat.le_of_ble_eq_true rfl) d_Law_law_154 ⟨hcl, hsl⟩) (fun r M H hp hw => ?_)
          refine lv_aload_n (pc := 157) hx hb d_Law_law_157 rfl (lv_at hl 1 rfl) ?_
          have ht := hp.1
          refine lm_im (pc := 158) hw (fm_runV (As := []) (rest := [.int r]) hC hw.mw (c_Mo_tick l D dA (b + 200) 34 T2 R2 M2 sz 1  _) cy_Mo_tick hp rfl rfl mv_11 mv_12 mv_13 (rfl : classes[11]? = _) (by decide) ht ⟨Nat.le_of_ble_eq_true rfl, Nat.le_of_ble_eq_true rfl⟩ rfl hl.1 rfl (Nat.le_of_ble_eq_true rfl) d_Law_law_158 ⟨hcl, hsl⟩) (fun r2 M2 H hp hw => ?_)
          exact lv_icmp_eq (pc := 161) (tgt := 544) hx hb d_Law_law_161 rfl (fun _ => go T R M T2 R2 M2 sz H hp.2 hw) (fun hne => absurd hp.1 hne)
        by_cases hs_2 : w = (2 : Int32)
        · refine lv_tableIn (pc := 52) (tgt := 166) hx hb d_Law_law_52 (by rw [hs_2]; decide) (by rw [hs_2]; decide) (by rw [hs_2]; try rfl) rfl ?_
          refine lv_aload_n (pc := 166) hx hb d_Law_law_166 rfl (lv_at hl 2 rfl) ?_
          refine lv_aload_n (pc := 167) hx hb d_Law_law_167 rfl (lv_at hl 3 rfl) ?_
          refine lv_iload_n (pc := 168) hx hb d_Law_law_168 rfl (lv_at hl 0 rfl) ?_
          refine lv_iconst (v := 1) (pc := 169) hx hb d_Law_law_169 (by decide) ?_
          refine lv_iadd (pc := 170) hx hb d_Law_law_170 ?_
          refine va_sld (pc := 171) hx hb hX hbl hbA hw.2.2.1 i1 d_Law_law_171 ?_
          refine lv_aload_n (pc := 172) hx hb d_Law_law_172 rfl (lv_at hl 3 rfl) ?_
          refine lv_iload_n (pc := 173) hx hb d_Law_law_173 rfl (lv_at hl 0 rfl) ?_
          refine lv_iconst (v := 2) (pc := 174) hx hb d_Law_law_174 (by decide) ?_
          refine lv_iadd (pc := 175) hx hb d_Law_law_175 ?_
          refine va_sld (pc := 176) hx hb hX hbl hbA hw.2.2.1 i2 d_Law_law_176 ?_
          have hp := h_send k T R M T2 R2 M2 ((xs (nI (2 + 3 * k) + 1).toNatClampNeg)) ((xs (nI (2 + 3 * k) + 2).toNatClampNeg)) hc512 hsim
          have ht := hp.1
          refine lx_zm (pc := 177) hw (fm_runV (As := [.int (xs (nI (2 + 3 * k) + 1).toNatClampNeg), .int (xs (nI (2 + 3 * k) + 2).toNatClampNeg)]) (rest := []) hC hw.cw (c_X_send l D dA b 200 T R M sz 1 ((xs (nI (2 + 3 * k) + 1).toNatClampNeg)) ((xs (nI (2 + 3 * k) + 2).toNatClampNeg)) _) cy_X_send hp rfl rfl mv_14 mv_15 mv_16 (rfl : classes[10]? = _) (by decide) ht ⟨Nat.le_of_ble_eq_true rfl, Nat.le_of_ble_eq_true rfl⟩ rfl hl.1 rfl (Nat.le_of_ble_eq_true rfl) d_Law_law_177 ⟨hcl, hsl⟩) (fun r M H hp hw => ?_)
          refine lv_aload_n (pc := 180) hx hb d_Law_law_180 rfl (lv_at hl 1 rfl) ?_
          refine lv_aload_n (pc := 181) hx hb d_Law_law_181 rfl (lv_at hl 3 rfl) ?_
          refine lv_iload_n (pc := 182) hx hb d_Law_law_182 rfl (lv_at hl 0 rfl) ?_
          refine lv_iconst (v := 1) (pc := 183) hx hb d_Law_law_183 (by decide) ?_
          refine lv_iadd (pc := 184) hx hb d_Law_law_184 ?_
          refine va_sld (pc := 185) hx hb hX hbl hbA hw.2.2.1 i1 d_Law_law_185 ?_
          refine lv_aload_n (pc := 186) hx hb d_Law_law_186 rfl (lv_at hl 3 rfl) ?_
          refine lv_iload_n (pc := 187) hx hb d_Law_law_187 rfl (lv_at hl 0 rfl) ?_
          refine lv_iconst (v := 2) (pc := 188) hx hb d_Law_law_188 (by decide) ?_
          refine lv_iadd (pc := 189) hx hb d_Law_law_189 ?_
          refine va_sld (pc := 190) hx hb hX hbl hbA hw.2.2.1 i2 d_Law_law_190 ?_
          have ht := hp.1
          refine lm_zm (pc := 191) hw (fm_runV (As := [.int (xs (nI (2 + 3 * k) + 1).toNatClampNeg), .int (xs (nI (2 + 3 * k) + 2).toNatClampNeg)]) (rest := [.int r]) hC hw.mw (c_Mo_send l D dA (b + 200) 34 T2 R2 M2 sz 1 ((xs (nI (2 + 3 * k) + 1).toNatClampNeg)) ((xs (nI (2 + 3 * k) + 2).toNatClampNeg)) _) cy_Mo_send hp rfl rfl mv_17 mv_18 mv_19 (rfl : classes[11]? = _) (by decide) ht ⟨Nat.le_of_ble_eq_true rfl, Nat.le_of_ble_eq_true rfl⟩ rfl hl.1 rfl (Nat.le_of_ble_eq_true rfl) d_Law_law_191 ⟨hcl, hsl⟩) (fun r2 M2 H hp hw => ?_)
          exact lv_icmp_eq (pc := 194) (tgt := 544) hx hb d_Law_law_194 rfl (fun _ => go T R M T2 R2 M2 sz H hp.2 hw) (fun hne => absurd hp.1 hne)
        by_cases hs_3 : w = (3 : Int32)
        · refine lv_tableIn (pc := 52) (tgt := 199) hx hb d_Law_law_52 (by rw [hs_3]; decide) (by rw [hs_3]; decide) (by rw [hs_3]; try rfl) rfl ?_
          refine lv_aload_n (pc := 199) hx hb d_Law_law_199 rfl (lv_at hl 2 rfl) ?_
          refine lv_aload_n (pc := 200) hx hb d_Law_law_200 rfl (lv_at hl 3 rfl) ?_
          refine lv_iload_n (pc := 201) hx hb d_Law_law_201 rfl (lv_at hl 0 rfl) ?_
          refine lv_iconst (v := 1) (pc := 202) hx hb d_Law_law_202 (by decide) ?_
          refine lv_iadd (pc := 203) hx hb d_Law_law_203 ?_
          refine va_sld (pc := 204) hx hb hX hbl hbA hw.2.2.1 i1 d_Law_law_204 ?_
          have hp := h_deliver k T R M T2 R2 M2 ((xs (nI (2 + 3 * k) + 1).toNatClampNeg)) hc512 hsim
          have ht := hp.1
          refine lx_ir (pc := 205) hw (fm_runV (As := [.int (xs (nI (2 + 3 * k) + 1).toNatClampNeg)]) (rest := []) hC hw.cw (c_X_deliver l D dA b 200 T R M sz 1 ((xs (nI (2 + 3 * k) + 1).toNatClampNeg)) _) cy_X_deliver hp rfl rfl mv_20 mv_21 mv_22 (rfl : classes[10]? = _) (by decide) ht ⟨Nat.le_of_ble_eq_true rfl, Nat.le_of_ble_eq_true rfl⟩ rfl hl.1 rfl (Nat.le_of_ble_eq_true rfl) d_Law_law_205 ⟨hcl, hsl⟩) (fun r R M H hp hw => ?_)
          refine lv_aload_n (pc := 208) hx hb d_Law_law_208 rfl (lv_at hl 1 rfl) ?_
          refine lv_aload_n (pc := 209) hx hb d_Law_law_209 rfl (lv_at hl 3 rfl) ?_
          refine lv_iload_n (pc := 210) hx hb d_Law_law_210 rfl (lv_at hl 0 rfl) ?_
          refine lv_iconst (v := 1) (pc := 211) hx hb d_Law_law_211 (by decide) ?_
          refine lv_iadd (pc := 212) hx hb d_Law_law_212 ?_
          refine va_sld (pc := 213) hx hb hX hbl hbA hw.2.2.1 i1 d_Law_law_213 ?_
          have ht := hp.1
          refine lm_im (pc := 214) hw (fm_runV (As := [.int (xs (nI (2 + 3 * k) + 1).toNatClampNeg)]) (rest := [.int r]) hC hw.mw (c_Mo_deliver l D dA (b + 200) 34 T2 R2 M2 sz 1 ((xs (nI (2 + 3 * k) + 1).toNatClampNeg)) _) cy_Mo_deliver hp rfl rfl mv_23 mv_24 mv_25 (rfl : classes[11]? = _) (by decide) ht ⟨Nat.le_of_ble_eq_true rfl, Nat.le_of_ble_eq_true rfl⟩ rfl hl.1 rfl (Nat.le_of_ble_eq_true rfl) d_Law_law_214 ⟨hcl, hsl⟩) (fun r2 M2 H hp hw => ?_)
          exact lv_icmp_eq (pc := 217) (tgt := 544) hx hb d_Law_law_217 rfl (fun _ => go T R M T2 R2 M2 sz H hp.2 hw) (fun hne => absurd hp.1 hne)
        by_cases hs_4 : w = (4 : Int32)
        · refine lv_tableIn (pc := 52) (tgt := 222) hx hb d_Law_law_52 (by rw [hs_4]; decide) (by rw [hs_4]; decide) (by rw [hs_4]; try rfl) rfl ?_
          refine lv_aload_n (pc := 222) hx hb d_Law_law_222 rfl (lv_at hl 2 rfl) ?_
          refine lv_aload_n (pc := 223) hx hb d_Law_law_223 rfl (lv_at hl 3 rfl) ?_
          refine lv_iload_n (pc := 224) hx hb d_Law_law_224 rfl (lv_at hl 0 rfl) ?_
          refine lv_iconst (v := 1) (pc := 225) hx hb d_Law_law_225 (by decide) ?_
          refine lv_iadd (pc := 226) hx hb d_Law_law_226 ?_
          refine va_sld (pc := 227) hx hb hX hbl hbA hw.2.2.1 i1 d_Law_law_227 ?_
          have hp := h_drop k T R M T2 R2 M2 ((xs (nI (2 + 3 * k) + 1).toNatClampNeg)) hc512 hsim
          have ht := hp.1
          refine lx_zr (pc := 228) hw (fm_runV (As := [.int (xs (nI (2 + 3 * k) + 1).toNatClampNeg)]) (rest := []) hC hw.cw (c_X_drop l D dA b 200 T R M sz 1 ((xs (nI (2 + 3 * k) + 1).toNatClampNeg)) _) cy_X_drop hp rfl rfl mv_26 mv_27 mv_28 (rfl : classes[10]? = _) (by decide) ht ⟨Nat.le_of_ble_eq_true rfl, Nat.le_of_ble_eq_true rfl⟩ rfl hl.1 rfl (Nat.le_of_ble_eq_true rfl) d_Law_law_228 ⟨hcl, hsl⟩) (fun r R M H hp hw => ?_)
          refine lv_aload_n (pc := 231) hx hb d_Law_law_231 rfl (lv_at hl 1 rfl) ?_
          refine lv_aload_n (pc := 232) hx hb d_Law_law_232 rfl (lv_at hl 3 rfl) ?_
          refine lv_iload_n (pc := 233) hx hb d_Law_law_233 rfl (lv_at hl 0 rfl) ?_
          refine lv_iconst (v := 1) (pc := 234) hx hb d_Law_law_234 (by decide) ?_
          refine lv_iadd (pc := 235) hx hb d_Law_law_235 ?_
          refine va_sld (pc := 236) hx hb hX hbl hbA hw.2.2.1 i1 d_Law_law_236 ?_
          have ht := hp.1
          refine lm_zm (pc := 237) hw (fm_runV (As := [.int (xs (nI (2 + 3 * k) + 1).toNatClampNeg)]) (rest := [.int r]) hC hw.mw (c_Mo_drop l D dA (b + 200) 34 T2 R2 M2 sz 1 ((xs (nI (2 + 3 * k) + 1).toNatClampNeg)) _) cy_Mo_drop hp rfl rfl mv_29 mw_418 mw_419 (rfl : classes[11]? = _) (by decide) ht ⟨Nat.le_of_ble_eq_true rfl, Nat.le_of_ble_eq_true rfl⟩ rfl hl.1 rfl (Nat.le_of_ble_eq_true rfl) d_Law_law_237 ⟨hcl, hsl⟩) (fun r2 M2 H hp hw => ?_)
          exact lv_icmp_eq (pc := 240) (tgt := 544) hx hb d_Law_law_240 rfl (fun _ => go T R M T2 R2 M2 sz H hp.2 hw) (fun hne => absurd hp.1 hne)
        by_cases hs_5 : w = (5 : Int32)
        · refine lv_tableIn (pc := 52) (tgt := 245) hx hb d_Law_law_52 (by rw [hs_5]; decide) (by rw [hs_5]; decide) (by rw [hs_5]; try rfl) rfl ?_
          refine lv_aload_n (pc := 245) hx hb d_Law_law_245 rfl (lv_at hl 2 rfl) ?_
          refine lv_aload_n (pc := 246) hx hb d_Law_law_246 rfl (lv_at hl 3 rfl) ?_
          refine lv_iload_n (pc := 247) hx hb d_Law_law_247 rfl (lv_at hl 0 rfl) ?_
          refine lv_iconst (v := 1) (pc := 248) hx hb d_Law_law_248 (by decide) ?_
          refine lv_iadd (pc := 249) hx hb d_Law_law_249 ?_
          refine va_sld (pc := 250) hx hb hX hbl hbA hw.2.2.1 i1 d_Law_law_250 ?_
          have hp := h_copy k T R M T2 R2 M2 ((xs (nI (2 + 3 * k) + 1).toNatClampNeg)) hc512 hsim
          have ht := hp.1
          refine lx_zm (pc := 251) hw (fm_runV (As := [.int (xs (nI (2 + 3 * k) + 1).toNatClampNeg)]) (rest := []) hC hw.cw (c_X_copy l D dA b 200 T R M sz 1 ((xs (nI (2 + 3 * k) + 1).toNatClampNeg)) _) cy_X_copy hp rfl rfl mv_30 mv_31 mv_32 (rfl : classes[10]? = _) (by decide) ht ⟨Nat.le_of_ble_eq_true rfl, Nat.le_of_ble_eq_true rfl⟩ rfl hl.1 rfl (Nat.le_of_ble_eq_true rfl) d_Law_law_251 ⟨hcl, hsl⟩) (fun r M H hp hw => ?_)
          refine lv_aload_n (pc := 254) hx hb d_Law_law_254 rfl (lv_at hl 1 rfl) ?_
          refine lv_aload_n (pc := 255) hx hb d_Law_law_255 rfl (lv_at hl 3 rfl) ?_
          refine lv_iload_n (pc := 256) hx hb d_Law_law_256 rfl (lv_at hl 0 rfl) ?_
          refine lv_iconst (v := 1) (pc := 257) hx hb d_Law_law_257 (by decide) ?_
          refine lv_iadd (pc := 258) hx hb d_Law_law_258 ?_
          refine va_sld (pc := 259) hx hb hX hbl hbA hw.2.2.1 i1 d_Law_law_259 ?_
          have ht := hp.1
          refine lm_zm (pc := 260) hw (fm_runV (As := [.int (xs (nI (2 + 3 * k) + 1).toNatClampNeg)]) (rest := [.int r]) hC hw.mw (c_Mo_copy l D dA (b + 200) 34 T2 R2 M2 sz 1 ((xs (nI (2 + 3 * k) + 1).toNatClampNeg)) _) cy_Mo_copy hp rfl rfl mv_33 mv_34 mv_35 (rfl : classes[11]? = _) (by decide) ht ⟨Nat.le_of_ble_eq_true rfl, Nat.le_of_ble_eq_true rfl⟩ rfl hl.1 rfl (Nat.le_of_ble_eq_true rfl) d_Law_law_260 ⟨hcl, hsl⟩) (fun r2 M2 H hp hw => ?_)
          exact lv_icmp_eq (pc := 263) (tgt := 544) hx hb d_Law_law_263 rfl (fun _ => go T R M T2 R2 M2 sz H hp.2 hw) (fun hne => absurd hp.1 hne)
        by_cases hs_6 : w = (6 : Int32)
        · refine lv_tableIn (pc := 52) (tgt := 268) hx hb d_Law_law_52 (by rw [hs_6]; decide) (by rw [hs_6]; decide) (by rw [hs_6]; try rfl) rfl ?_
          refine lv_aload_n (pc := 268) hx hb d_Law_law_268 rfl (lv_at hl 2 rfl) ?_
          refine lv_aload_n (pc := 269) hx hb d_Law_law_269 rfl (lv_at hl 3 rfl) ?_
          refine lv_iload_n (pc := 270) hx hb d_Law_law_270 rfl (lv_at hl 0 rfl) ?_
          refine lv_iconst (v := 1) (pc := 271) hx hb d_Law_law_271 (by decide) ?_
          refine lv_iadd (pc := 272) hx hb d_Law_law_272 ?_
          refine va_sld (pc := 273) hx hb hX hbl hbA hw.2.2.1 i1 d_Law_law_273 ?_
          have hp := h_spoil k T R M T2 R2 M2 ((xs (nI (2 + 3 * k) + 1).toNatClampNeg)) hc512 hsim
          have ht := hp.1
          refine lx_zm (pc := 274) hw (fm_runV (As := [.int (xs (nI (2 + 3 * k) + 1).toNatClampNeg)]) (rest := []) hC hw.cw (c_X_spoil l D dA b 200 T R M sz 1 ((xs (nI (2 + 3 * k) + 1).toNatClampNeg)) _) cy_X_spoil hp rfl rfl mv_36 mv_37 mv_38 (rfl : classes[10]? = _) (by decide) ht ⟨Nat.le_of_ble_eq_true rfl, Nat.le_of_ble_eq_true rfl⟩ rfl hl.1 rfl (Nat.le_of_ble_eq_true rfl) d_Law_law_274 ⟨hcl, hsl⟩) (fun r M H hp hw => ?_)
          refine lv_aload_n (pc := 277) hx hb d_Law_law_277 rfl (lv_at hl 1 rfl) ?_
          refine lv_aload_n (pc := 278) hx hb d_Law_law_278 rfl (lv_at hl 3 rfl) ?_
          refine lv_iload_n (pc := 279) hx hb d_Law_law_279 rfl (lv_at hl 0 rfl) ?_
          refine lv_iconst (v := 1) (pc := 280) hx hb d_Law_law_280 (by decide) ?_
          refine lv_iadd (pc := 281) hx hb d_Law_law_281 ?_
          refine va_sld (pc := 282) hx hb hX hbl hbA hw.2.2.1 i1 d_Law_law_282 ?_
          have ht := hp.1
          refine lm_zm (pc := 283) hw (fm_runV (As := [.int (xs (nI (2 + 3 * k) + 1).toNatClampNeg)]) (rest := [.int r]) hC hw.mw (c_Mo_spoil l D dA (b + 200) 34 T2 R2 M2 sz 1 ((xs (nI (2 + 3 * k) + 1).toNatClampNeg)) _) cy_Mo_spoil hp rfl rfl mv_39 mv_40 mv_41 (rfl : classes[11]? = _) (by decide) ht ⟨Nat.le_of_ble_eq_true rfl, Nat.le_of_ble_eq_true rfl⟩ rfl hl.1 rfl (Nat.le_of_ble_eq_true rfl) d_Law_law_283 ⟨hcl, hsl⟩) (fun r2 M2 H hp hw => ?_)
          exact lv_icmp_eq (pc := 286) (tgt := 544) hx hb d_Law_law_286 rfl (fun _ => go T R M T2 R2 M2 sz H hp.2 hw) (fun hne => absurd hp.1 hne)
        by_cases hs_7 : w = (7 : Int32)
        · refine lv_tableIn (pc := 52) (tgt := 291) hx hb d_Law_law_52 (by rw [hs_7]; decide) (by rw [hs_7]; decide) (by rw [hs_7]; try rfl) rfl ?_
          refine lv_aload_n (pc := 291) hx hb d_Law_law_291 rfl (lv_at hl 2 rfl) ?_
          have hp := h_waiting k T R M T2 R2 M2  hc512 hsim
          have ht := hp.1
          refine lx_ip (pc := 292) hw (fm_runV (As := []) (rest := []) hC hw.cw (c_X_waiting l D dA b 200 T R M sz 1  _) cy_X_waiting hp rfl rfl mv_42 mv_43 mv_44 (rfl : classes[10]? = _) (by decide) ht ⟨Nat.le_of_ble_eq_true rfl, Nat.le_of_ble_eq_true rfl⟩ rfl hl.1 rfl (Nat.le_of_ble_eq_true rfl) d_Law_law_292 ⟨hcl, hsl⟩) (fun r  H hp hw => ?_)
          refine lv_aload_n (pc := 295) hx hb d_Law_law_295 rfl (lv_at hl 1 rfl) ?_
          have ht := hp.1
          refine lm_ip (pc := 296) hw (fm_runV (As := []) (rest := [.int r]) hC hw.mw (c_Mo_waiting l D dA (b + 200) 34 T2 R2 M2 sz 1  _) cy_Mo_waiting hp rfl rfl mv_45 mv_46 mv_47 (rfl : classes[11]? = _) (by decide) ht ⟨Nat.le_of_ble_eq_true rfl, Nat.le_of_ble_eq_true rfl⟩ rfl hl.1 rfl (Nat.le_of_ble_eq_true rfl) d_Law_law_296 ⟨hcl, hsl⟩) (fun r2  H hp hw => ?_)
          exact lv_icmp_eq (pc := 299) (tgt := 544) hx hb d_Law_law_299 rfl (fun _ => go T R M T2 R2 M2 sz H hp.2 hw) (fun hne => absurd hp.1 hne)
        by_cases hs_8 : w = (8 : Int32)
        · refine lv_tableIn (pc := 52) (tgt := 304) hx hb d_Law_law_52 (by rw [hs_8]; decide) (by rw [hs_8]; decide) (by rw [hs_8]; try rfl) rfl ?_
          refine lv_aload_n (pc := 304) hx hb d_Law_law_304 rfl (lv_at hl 2 rfl) ?_
          have hp := h_lost k T R M T2 R2 M2  hc512 hsim
          have ht := hp.1
          refine lx_ip (pc := 305) hw (fm_runV (As := []) (rest := []) hC hw.cw (c_X_lost l D dA b 200 T R M sz 1  _) cy_X_lost hp rfl rfl mv_48 mv_49 mv_50 (rfl : classes[10]? = _) (by decide) ht ⟨Nat.le_of_ble_eq_true rfl, Nat.le_of_ble_eq_true rfl⟩ rfl hl.1 rfl (Nat.le_of_ble_eq_true rfl) d_Law_law_305 ⟨hcl, hsl⟩) (fun r  H hp hw => ?_)
          refine lv_aload_n (pc := 308) hx hb d_Law_law_308 rfl (lv_at hl 1 rfl) ?_
          have ht := hp.1
          refine lm_ip (pc := 309) hw (fm_runV (As := []) (rest := [.int r]) hC hw.mw (c_Mo_lost l D dA (b + 200) 34 T2 R2 M2 sz 1  _) cy_Mo_lost hp rfl rfl mv_51 mv_52 mv_53 (rfl : classes[11]? = _) (by decide) ht ⟨Nat.le_of_ble_eq_true rfl, Nat.le_of_ble_eq_true rfl⟩ rfl hl.1 rfl (Nat.le_of_ble_eq_true rfl) d_Law_law_309 ⟨hcl, hsl⟩) (fun r2  H hp hw => ?_)
          exact lv_icmp_eq (pc := 312) (tgt := 544) hx hb d_Law_law_312 rfl (fun _ => go T R M T2 R2 M2 sz H hp.2 hw) (fun hne => absurd hp.1 hne)
        by_cases hs_9 : w = (9 : Int32)
        · refine lv_tableIn (pc := 52) (tgt := 317) hx hb d_Law_law_52 (by rw [hs_9]; decide) (by rw [hs_9]; decide) (by rw [hs_9]; try rfl) rfl ?_
          refine lv_aload_n (pc := 317) hx hb d_Law_law_317 rfl (lv_at hl 2 rfl) ?_
          refine lv_aload_n (pc := 318) hx hb d_Law_law_318 rfl (lv_at hl 3 rfl) ?_
          refine lv_iload_n (pc := 319) hx hb d_Law_law_319 rfl (lv_at hl 0 rfl) ?_
          refine lv_iconst (v := 1) (pc := 320) hx hb d_Law_law_320 (by decide) ?_
          refine lv_iadd (pc := 321) hx hb d_Law_law_321 ?_
          refine va_sld (pc := 322) hx hb hX hbl hbA hw.2.2.1 i1 d_Law_law_322 ?_
          have hp := h_record k T R M T2 R2 M2 ((xs (nI (2 + 3 * k) + 1).toNatClampNeg)) hc512 hsim
          have ht := hp.1
          refine lx_ip (pc := 323) hw (fm_runV (As := [.int (xs (nI (2 + 3 * k) + 1).toNatClampNeg)]) (rest := []) hC hw.cw (c_X_record l D dA b 200 T R M sz 1 ((xs (nI (2 + 3 * k) + 1).toNatClampNeg)) _) cy_X_record hp rfl rfl mv_54 mv_55 mv_56 (rfl : classes[10]? = _) (by decide) ht ⟨Nat.le_of_ble_eq_true rfl, Nat.le_of_ble_eq_true rfl⟩ rfl hl.1 rfl (Nat.le_of_ble_eq_true rfl) d_Law_law_323 ⟨hcl, hsl⟩) (fun r  H hp hw => ?_)
          refine lv_aload_n (pc := 326) hx hb d_Law_law_326 rfl (lv_at hl 1 rfl) ?_
          refine lv_aload_n (pc := 327) hx hb d_Law_law_327 rfl (lv_at hl 3 rfl) ?_
          refine lv_iload_n (pc := 328) hx hb d_Law_law_328 rfl (lv_at hl 0 rfl) ?_
          refine lv_iconst (v := 1) (pc := 329) hx hb d_Law_law_329 (by decide) ?_
          refine lv_iadd (pc := 330) hx hb d_Law_law_330 ?_
          refine va_sld (pc := 331) hx hb hX hbl hbA hw.2.2.1 i1 d_Law_law_331 ?_
          have ht := hp.1
          refine lm_ip (pc := 332) hw (fm_runV (As := [.int (xs (nI (2 + 3 * k) + 1).toNatClampNeg)]) (rest := [.int r]) hC hw.mw (c_Mo_record l D dA (b + 200) 34 T2 R2 M2 sz 1 ((xs (nI (2 + 3 * k) + 1).toNatClampNeg)) _) cy_Mo_record hp rfl rfl mv_57 mv_58 mv_59 (rfl : classes[11]? = _) (by decide) ht ⟨Nat.le_of_ble_eq_true rfl, Nat.le_of_ble_eq_true rfl⟩ rfl hl.1 rfl (Nat.le_of_ble_eq_true rfl) d_Law_law_332 ⟨hcl, hsl⟩) (fun r2  H hp hw => ?_)
          exact lv_icmp_eq (pc := 335) (tgt := 544) hx hb d_Law_law_335 rfl (fun _ => go T R M T2 R2 M2 sz H hp.2 hw) (fun hne => absurd hp.1 hne)
        by_cases hs_10 : w = (10 : Int32)
        · refine lv_tableIn (pc := 52) (tgt := 340) hx hb d_Law_law_52 (by rw [hs_10]; decide) (by rw [hs_10]; decide) (by rw [hs_10]; try rfl) rfl ?_
          refine lv_aload_n (pc := 340) hx hb d_Law_law_340 rfl (lv_at hl 2 rfl) ?_
          refine lv_aload_n (pc := 341) hx hb d_Law_law_341 rfl (lv_at hl 3 rfl) ?_
          refine lv_iload_n (pc := 342) hx hb d_Law_law_342 rfl (lv_at hl 0 rfl) ?_
          refine lv_iconst (v := 1) (pc := 343) hx hb d_Law_law_343 (by decide) ?_
          refine lv_iadd (pc := 344) hx hb d_Law_law_344 ?_
          refine va_sld (pc := 345) hx hb hX hbl hbA hw.2.2.1 i1 d_Law_law_345 ?_
          have hp := h_content k T R M T2 R2 M2 ((xs (nI (2 + 3 * k) + 1).toNatClampNeg)) hc512 hsim
          have ht := hp.1
          refine lx_ip (pc := 346) hw (fm_runV (As := [.int (xs (nI (2 + 3 * k) + 1).toNatClampNeg)]) (rest := []) hC hw.cw (c_X_content l D dA b 200 T R M sz 1 ((xs (nI (2 + 3 * k) + 1).toNatClampNeg)) _) cy_X_content hp rfl rfl mv_60 mv_61 mv_62 (rfl : classes[10]? = _) (by decide) ht ⟨Nat.le_of_ble_eq_true rfl, Nat.le_of_ble_eq_true rfl⟩ rfl hl.1 rfl (Nat.le_of_ble_eq_true rfl) d_Law_law_346 ⟨hcl, hsl⟩) (fun r  H hp hw => ?_)
          refine lv_aload_n (pc := 349) hx hb d_Law_law_349 rfl (lv_at hl 1 rfl) ?_
          refine lv_aload_n (pc := 350) hx hb d_Law_law_350 rfl (lv_at hl 3 rfl) ?_
          refine lv_iload_n (pc := 351) hx hb d_Law_law_351 rfl (lv_at hl 0 rfl) ?_
          refine lv_iconst (v := 1) (pc := 352) hx hb d_Law_law_352 (by decide) ?_
          refine lv_iadd (pc := 353) hx hb d_Law_law_353 ?_
          refine va_sld (pc := 354) hx hb hX hbl hbA hw.2.2.1 i1 d_Law_law_354 ?_
          have ht := hp.1
          refine lm_ip (pc := 355) hw (fm_runV (As := [.int (xs (nI (2 + 3 * k) + 1).toNatClampNeg)]) (rest := [.int r]) hC hw.mw (c_Mo_content1 l D dA (b + 200) 34 T2 R2 M2 sz 1 ((xs (nI (2 + 3 * k) + 1).toNatClampNeg)) _) cy_Mo_content1 hp rfl rfl mv_63 mv_64 mv_65 (rfl : classes[11]? = _) (by decide) ht ⟨Nat.le_of_ble_eq_true rfl, Nat.le_of_ble_eq_true rfl⟩ rfl hl.1 rfl (Nat.le_of_ble_eq_true rfl) d_Law_law_355 ⟨hcl, hsl⟩) (fun r2  H hp hw => ?_)
          exact lv_icmp_eq (pc := 358) (tgt := 544) hx hb d_Law_law_358 rfl (fun _ => go T R M T2 R2 M2 sz H hp.2 hw) (fun hne => absurd hp.1 hne)
        by_cases hs_11 : w = (11 : Int32)
        · refine lv_tableIn (pc := 52) (tgt := 363) hx hb d_Law_law_52 (by rw [hs_11]; decide) (by rw [hs_11]; decide) (by rw [hs_11]; try rfl) rfl ?_
          refine lv_aload_n (pc := 363) hx hb d_Law_law_363 rfl (lv_at hl 2 rfl) ?_
          refine lv_aload_n (pc := 364) hx hb d_Law_law_364 rfl (lv_at hl 3 rfl) ?_
          refine lv_iload_n (pc := 365) hx hb d_Law_law_365 rfl (lv_at hl 0 rfl) ?_
          refine lv_iconst (v := 1) (pc := 366) hx hb d_Law_law_366 (by decide) ?_
          refine lv_iadd (pc := 367) hx hb d_Law_law_367 ?_
          refine va_sld (pc := 368) hx hb hX hbl hbA hw.2.2.1 i1 d_Law_law_368 ?_
          refine lv_aload_n (pc := 369) hx hb d_Law_law_369 rfl (lv_at hl 3 rfl) ?_
          refine lv_iload_n (pc := 370) hx hb d_Law_law_370 rfl (lv_at hl 0 rfl) ?_
          refine lv_iconst (v := 2) (pc := 371) hx hb d_Law_law_371 (by decide) ?_
          refine lv_iadd (pc := 372) hx hb d_Law_law_372 ?_
          refine va_sld (pc := 373) hx hb hX hbl hbA hw.2.2.1 i2 d_Law_law_373 ?_
          have hp := h_byteOf k T R M T2 R2 M2 ((xs (nI (2 + 3 * k) + 1).toNatClampNeg)) ((xs (nI (2 + 3 * k) + 2).toNatClampNeg)) hc512 hsim
          have ht := hp.1
          refine lx_ip (pc := 374) hw (fm_runV (As := [.int (xs (nI (2 + 3 * k) + 1).toNatClampNeg), .int (xs (nI (2 + 3 * k) + 2).toNatClampNeg)]) (rest := []) hC hw.cw (c_X_byteOf l D dA b 200 T R M sz 1 ((xs (nI (2 + 3 * k) + 1).toNatClampNeg)) ((xs (nI (2 + 3 * k) + 2).toNatClampNeg)) _) cy_X_byteOf hp rfl rfl mv_66 mv_67 mv_68 (rfl : classes[10]? = _) (by decide) ht ⟨Nat.le_of_ble_eq_true rfl, Nat.le_of_ble_eq_true rfl⟩ rfl hl.1 rfl (Nat.le_of_ble_eq_true rfl) d_Law_law_374 ⟨hcl, hsl⟩) (fun r  H hp hw => ?_)
          refine lv_aload_n (pc := 377) hx hb d_Law_law_377 rfl (lv_at hl 1 rfl) ?_
          refine lv_aload_n (pc := 378) hx hb d_Law_law_378 rfl (lv_at hl 3 rfl) ?_
          refine lv_iload_n (pc := 379) hx hb d_Law_law_379 rfl (lv_at hl 0 rfl) ?_
          refine lv_iconst (v := 1) (pc := 380) hx hb d_Law_law_380 (by decide) ?_
          refine lv_iadd (pc := 381) hx hb d_Law_law_381 ?_
          refine va_sld (pc := 382) hx hb hX hbl hbA hw.2.2.1 i1 d_Law_law_382 ?_
          refine lv_aload_n (pc := 383) hx hb d_Law_law_383 rfl (lv_at hl 3 rfl) ?_
          refine lv_iload_n (pc := 384) hx hb d_Law_law_384 rfl (lv_at hl 0 rfl) ?_
          refine lv_iconst (v := 2) (pc := 385) hx hb d_Law_law_385 (by decide) ?_
          refine lv_iadd (pc := 386) hx hb d_Law_law_386 ?_
          refine va_sld (pc := 387) hx hb hX hbl hbA hw.2.2.1 i2 d_Law_law_387 ?_
          have ht := hp.1
          refine lm_ip (pc := 388) hw (fm_runV (As := [.int (xs (nI (2 + 3 * k) + 1).toNatClampNeg), .int (xs (nI (2 + 3 * k) + 2).toNatClampNeg)]) (rest := [.int r]) hC hw.mw (c_Mo_byteOf l D dA (b + 200) 34 T2 R2 M2 sz 1 ((xs (nI (2 + 3 * k) + 1).toNatClampNeg)) ((xs (nI (2 + 3 * k) + 2).toNatClampNeg)) _) cy_Mo_byteOf hp rfl rfl mv_69 mv_70 mv_71 (rfl : classes[11]? = _) (by decide) ht ⟨Nat.le_of_ble_eq_true rfl, Nat.le_of_ble_eq_true rfl⟩ rfl hl.1 rfl (Nat.le_of_ble_eq_true rfl) d_Law_law_388 ⟨hcl, hsl⟩) (fun r2  H hp hw => ?_)
          exact lv_icmp_eq (pc := 391) (tgt := 544) hx hb d_Law_law_391 rfl (fun _ => go T R M T2 R2 M2 sz H hp.2 hw) (fun hne => absurd hp.1 hne)
        by_cases hs_12 : w = (12 : Int32)
        · refine lv_tableIn (pc := 52) (tgt := 396) hx hb d_Law_law_52 (by rw [hs_12]; decide) (by rw [hs_12]; decide) (by rw [hs_12]; try rfl) rfl ?_
          refine lv_aload_n (pc := 396) hx hb d_Law_law_396 rfl (lv_at hl 2 rfl) ?_
          refine lv_aload_n (pc := 397) hx hb d_Law_law_397 rfl (lv_at hl 3 rfl) ?_
          refine lv_iload_n (pc := 398) hx hb d_Law_law_398 rfl (lv_at hl 0 rfl) ?_
          refine lv_iconst (v := 1) (pc := 399) hx hb d_Law_law_399 (by decide) ?_
          refine lv_iadd (pc := 400) hx hb d_Law_law_400 ?_
          refine va_sld (pc := 401) hx hb hX hbl hbA hw.2.2.1 i1 d_Law_law_401 ?_
          have hp := h_state k T R M T2 R2 M2 ((xs (nI (2 + 3 * k) + 1).toNatClampNeg)) hc512 hsim
          have ht := hp.1
          refine lx_ip (pc := 402) hw (fm_runV (As := [.int (xs (nI (2 + 3 * k) + 1).toNatClampNeg)]) (rest := []) hC hw.cw (c_X_state l D dA b 200 T R M sz 1 ((xs (nI (2 + 3 * k) + 1).toNatClampNeg)) _) cy_X_state hp rfl rfl mv_72 mv_73 mv_74 (rfl : classes[10]? = _) (by decide) ht ⟨Nat.le_of_ble_eq_true rfl, Nat.le_of_ble_eq_true rfl⟩ rfl hl.1 rfl (Nat.le_of_ble_eq_true rfl) d_Law_law_402 ⟨hcl, hsl⟩) (fun r  H hp hw => ?_)
          refine lv_aload_n (pc := 405) hx hb d_Law_law_405 rfl (lv_at hl 1 rfl) ?_
          refine lv_aload_n (pc := 406) hx hb d_Law_law_406 rfl (lv_at hl 3 rfl) ?_
          refine lv_iload_n (pc := 407) hx hb d_Law_law_407 rfl (lv_at hl 0 rfl) ?_
          refine lv_iconst (v := 1) (pc := 408) hx hb d_Law_law_408 (by decide) ?_
          refine lv_iadd (pc := 409) hx hb d_Law_law_409 ?_
          refine va_sld (pc := 410) hx hb hX hbl hbA hw.2.2.1 i1 d_Law_law_410 ?_
          have ht := hp.1
          refine lm_ip (pc := 411) hw (fm_runV (As := [.int (xs (nI (2 + 3 * k) + 1).toNatClampNeg)]) (rest := [.int r]) hC hw.mw (c_Mo_state l D dA (b + 200) 34 T2 R2 M2 sz 1 ((xs (nI (2 + 3 * k) + 1).toNatClampNeg)) _) cy_Mo_state hp rfl rfl mv_75 mv_76 mv_77 (rfl : classes[11]? = _) (by decide) ht ⟨Nat.le_of_ble_eq_true rfl, Nat.le_of_ble_eq_true rfl⟩ rfl hl.1 rfl (Nat.le_of_ble_eq_true rfl) d_Law_law_411 ⟨hcl, hsl⟩) (fun r2  H hp hw => ?_)
          exact lv_icmp_eq (pc := 414) (tgt := 544) hx hb d_Law_law_414 rfl (fun _ => go T R M T2 R2 M2 sz H hp.2 hw) (fun hne => absurd hp.1 hne)
        by_cases hs_13 : w = (13 : Int32)
        · refine lv_tableIn (pc := 52) (tgt := 419) hx hb d_Law_law_52 (by rw [hs_13]; decide) (by rw [hs_13]; decide) (by rw [hs_13]; try rfl) rfl ?_
          refine lv_aload_n (pc := 419) hx hb d_Law_law_419 rfl (lv_at hl 2 rfl) ?_
          refine lv_aload_n (pc := 420) hx hb d_Law_law_420 rfl (lv_at hl 3 rfl) ?_
          refine lv_iload_n (pc := 421) hx hb d_Law_law_421 rfl (lv_at hl 0 rfl) ?_
          refine lv_iconst (v := 1) (pc := 422) hx hb d_Law_law_422 (by decide) ?_
          refine lv_iadd (pc := 423) hx hb d_Law_law_423 ?_
          refine va_sld (pc := 424) hx hb hX hbl hbA hw.2.2.1 i1 d_Law_law_424 ?_
          have hp := h_transcript k T R M T2 R2 M2 ((xs (nI (2 + 3 * k) + 1).toNatClampNeg)) hc512 hsim
          have ht := hp.1
          refine lx_ip (pc := 425) hw (fm_runV (As := [.int (xs (nI (2 + 3 * k) + 1).toNatClampNeg)]) (rest := []) hC hw.cw (c_X_transcript l D dA b 200 T R M sz 1 ((xs (nI (2 + 3 * k) + 1).toNatClampNeg)) _) cy_X_transcript hp rfl rfl mv_78 mv_79 mv_80 (rfl : classes[10]? = _) (by decide) ht ⟨Nat.le_of_ble_eq_true rfl, Nat.le_of_ble_eq_true rfl⟩ rfl hl.1 rfl (Nat.le_of_ble_eq_true rfl) d_Law_law_425 ⟨hcl, hsl⟩) (fun r  H hp hw => ?_)
          refine lv_aload_n (pc := 428) hx hb d_Law_law_428 rfl (lv_at hl 1 rfl) ?_
          refine lv_aload_n (pc := 429) hx hb d_Law_law_429 rfl (lv_at hl 3 rfl) ?_
          refine lv_iload_n (pc := 430) hx hb d_Law_law_430 rfl (lv_at hl 0 rfl) ?_
          refine lv_iconst (v := 1) (pc := 431) hx hb d_Law_law_431 (by decide) ?_
          refine lv_iadd (pc := 432) hx hb d_Law_law_432 ?_
          refine va_sld (pc := 433) hx hb hX hbl hbA hw.2.2.1 i1 d_Law_law_433 ?_
          have ht := hp.1
          refine lm_ip (pc := 434) hw (fm_runV (As := [.int (xs (nI (2 + 3 * k) + 1).toNatClampNeg)]) (rest := [.int r]) hC hw.mw (c_Mo_transcript l D dA (b + 200) 34 T2 R2 M2 sz 1 ((xs (nI (2 + 3 * k) + 1).toNatClampNeg)) _) cy_Mo_transcript hp rfl rfl mv_81 mv_82 mv_83 (rfl : classes[11]? = _) (by decide) ht ⟨Nat.le_of_ble_eq_true rfl, Nat.le_of_ble_eq_true rfl⟩ rfl hl.1 rfl (Nat.le_of_ble_eq_true rfl) d_Law_law_434 ⟨hcl, hsl⟩) (fun r2  H hp hw => ?_)
          exact lv_icmp_eq (pc := 437) (tgt := 544) hx hb d_Law_law_437 rfl (fun _ => go T R M T2 R2 M2 sz H hp.2 hw) (fun hne => absurd hp.1 hne)
        by_cases hs_14 : w = (14 : Int32)
        · refine lv_tableIn (pc := 52) (tgt := 442) hx hb d_Law_law_52 (by rw [hs_14]; decide) (by rw [hs_14]; decide) (by rw [hs_14]; try rfl) rfl ?_
          refine lv_aload_n (pc := 442) hx hb d_Law_law_442 rfl (lv_at hl 2 rfl) ?_
          refine lv_aload_n (pc := 443) hx hb d_Law_law_443 rfl (lv_at hl 3 rfl) ?_
          refine lv_iload_n (pc := 444) hx hb d_Law_law_444 rfl (lv_at hl 0 rfl) ?_
          refine lv_iconst (v := 1) (pc := 445) hx hb d_Law_law_445 (by decide) ?_
          refine lv_iadd (pc := 446) hx hb d_Law_law_446 ?_
          refine va_sld (pc := 447) hx hb hX hbl hbA hw.2.2.1 i1 d_Law_law_447 ?_
          have hp := h_open k T R M T2 R2 M2 ((xs (nI (2 + 3 * k) + 1).toNatClampNeg)) hc512 hsim
          have ht := hp.1
          refine lx_ip (pc := 448) hw (fm_runV (As := [.int (xs (nI (2 + 3 * k) + 1).toNatClampNeg)]) (rest := []) hC hw.cw (c_X_open l D dA b 200 T R M sz 1 ((xs (nI (2 + 3 * k) + 1).toNatClampNeg)) _) cy_X_open hp rfl rfl mv_84 mv_85 mv_86 (rfl : classes[10]? = _) (by decide) ht ⟨Nat.le_of_ble_eq_true rfl, Nat.le_of_ble_eq_true rfl⟩ rfl hl.1 rfl (Nat.le_of_ble_eq_true rfl) d_Law_law_448 ⟨hcl, hsl⟩) (fun r  H hp hw => ?_)
          refine lv_aload_n (pc := 451) hx hb d_Law_law_451 rfl (lv_at hl 1 rfl) ?_
          refine lv_aload_n (pc := 452) hx hb d_Law_law_452 rfl (lv_at hl 3 rfl) ?_
          refine lv_iload_n (pc := 453) hx hb d_Law_law_453 rfl (lv_at hl 0 rfl) ?_
          refine lv_iconst (v := 1) (pc := 454) hx hb d_Law_law_454 (by decide) ?_
          refine lv_iadd (pc := 455) hx hb d_Law_law_455 ?_
          refine va_sld (pc := 456) hx hb hX hbl hbA hw.2.2.1 i1 d_Law_law_456 ?_
          have ht := hp.1
          refine lm_ip (pc := 457) hw (fm_runV (As := [.int (xs (nI (2 + 3 * k) + 1).toNatClampNeg)]) (rest := [.int r]) hC hw.mw (c_Mo_open l D dA (b + 200) 34 T2 R2 M2 sz 1 ((xs (nI (2 + 3 * k) + 1).toNatClampNeg)) _) cy_Mo_open hp rfl rfl mv_87 mv_88 mv_89 (rfl : classes[11]? = _) (by decide) ht ⟨Nat.le_of_ble_eq_true rfl, Nat.le_of_ble_eq_true rfl⟩ rfl hl.1 rfl (Nat.le_of_ble_eq_true rfl) d_Law_law_457 ⟨hcl, hsl⟩) (fun r2  H hp hw => ?_)
          exact lv_icmp_eq (pc := 460) (tgt := 544) hx hb d_Law_law_460 rfl (fun _ => go T R M T2 R2 M2 sz H hp.2 hw) (fun hne => absurd hp.1 hne)
        by_cases hs_15 : w = (15 : Int32)
        · refine lv_tableIn (pc := 52) (tgt := 465) hx hb d_Law_law_52 (by rw [hs_15]; decide) (by rw [hs_15]; decide) (by rw [hs_15]; try rfl) rfl ?_
          refine lv_aload_n (pc := 465) hx hb d_Law_law_465 rfl (lv_at hl 2 rfl) ?_
          refine lv_aload_n (pc := 466) hx hb d_Law_law_466 rfl (lv_at hl 3 rfl) ?_
          refine lv_iload_n (pc := 467) hx hb d_Law_law_467 rfl (lv_at hl 0 rfl) ?_
          refine lv_iconst (v := 1) (pc := 468) hx hb d_Law_law_468 (by decide) ?_
          refine lv_iadd (pc := 469) hx hb d_Law_law_469 ?_
          refine va_sld (pc := 470) hx hb hX hbl hbA hw.2.2.1 i1 d_Law_law_470 ?_
          have hp := h_kept k T R M T2 R2 M2 ((xs (nI (2 + 3 * k) + 1).toNatClampNeg)) hc512 hsim
          have ht := hp.1
          refine lx_ip (pc := 471) hw (fm_runV (As := [.int (xs (nI (2 + 3 * k) + 1).toNatClampNeg)]) (rest := []) hC hw.cw (c_X_kept l D dA b 200 T R M sz 1 ((xs (nI (2 + 3 * k) + 1).toNatClampNeg)) _) cy_X_kept hp rfl rfl mv_90 mv_91 mv_92 (rfl : classes[10]? = _) (by decide) ht ⟨Nat.le_of_ble_eq_true rfl, Nat.le_of_ble_eq_true rfl⟩ rfl hl.1 rfl (Nat.le_of_ble_eq_true rfl) d_Law_law_471 ⟨hcl, hsl⟩) (fun r  H hp hw => ?_)
          refine lv_aload_n (pc := 474) hx hb d_Law_law_474 rfl (lv_at hl 1 rfl) ?_
          refine lv_aload_n (pc := 475) hx hb d_Law_law_475 rfl (lv_at hl 3 rfl) ?_
          refine lv_iload_n (pc := 476) hx hb d_Law_law_476 rfl (lv_at hl 0 rfl) ?_
          refine lv_iconst (v := 1) (pc := 477) hx hb d_Law_law_477 (by decide) ?_
          refine lv_iadd (pc := 478) hx hb d_Law_law_478 ?_
          refine va_sld (pc := 479) hx hb hX hbl hbA hw.2.2.1 i1 d_Law_law_479 ?_
          have ht := hp.1
          refine lm_ip (pc := 480) hw (fm_runV (As := [.int (xs (nI (2 + 3 * k) + 1).toNatClampNeg)]) (rest := [.int r]) hC hw.mw (c_Mo_kept l D dA (b + 200) 34 T2 R2 M2 sz 1 ((xs (nI (2 + 3 * k) + 1).toNatClampNeg)) _) cy_Mo_kept hp rfl rfl mv_93 mv_94 mv_95 (rfl : classes[11]? = _) (by decide) ht ⟨Nat.le_of_ble_eq_true rfl, Nat.le_of_ble_eq_true rfl⟩ rfl hl.1 rfl (Nat.le_of_ble_eq_true rfl) d_Law_law_480 ⟨hcl, hsl⟩) (fun r2  H hp hw => ?_)
          exact lv_icmp_eq (pc := 483) (tgt := 544) hx hb d_Law_law_483 rfl (fun _ => go T R M T2 R2 M2 sz H hp.2 hw) (fun hne => absurd hp.1 hne)
        by_cases hs_16 : w = (16 : Int32)
        · refine lv_tableIn (pc := 52) (tgt := 488) hx hb d_Law_law_52 (by rw [hs_16]; decide) (by rw [hs_16]; decide) (by rw [hs_16]; try rfl) rfl ?_
          refine lv_aload_n (pc := 488) hx hb d_Law_law_488 rfl (lv_at hl 2 rfl) ?_
          refine lv_aload_n (pc := 489) hx hb d_Law_law_489 rfl (lv_at hl 3 rfl) ?_
          refine lv_iload_n (pc := 490) hx hb d_Law_law_490 rfl (lv_at hl 0 rfl) ?_
          refine lv_iconst (v := 1) (pc := 491) hx hb d_Law_law_491 (by decide) ?_
          refine lv_iadd (pc := 492) hx hb d_Law_law_492 ?_
          refine va_sld (pc := 493) hx hb hX hbl hbA hw.2.2.1 i1 d_Law_law_493 ?_
          have hp := h_received k T R M T2 R2 M2 ((xs (nI (2 + 3 * k) + 1).toNatClampNeg)) hc512 hsim
          have ht := hp.1
          refine lx_ip (pc := 494) hw (fm_runV (As := [.int (xs (nI (2 + 3 * k) + 1).toNatClampNeg)]) (rest := []) hC hw.cw (c_X_received l D dA b 200 T R M sz 1 ((xs (nI (2 + 3 * k) + 1).toNatClampNeg)) _) cy_X_received hp rfl rfl mv_96 mv_97 mv_98 (rfl : classes[10]? = _) (by decide) ht ⟨Nat.le_of_ble_eq_true rfl, Nat.le_of_ble_eq_true rfl⟩ rfl hl.1 rfl (Nat.le_of_ble_eq_true rfl) d_Law_law_494 ⟨hcl, hsl⟩) (fun r  H hp hw => ?_)
          refine lv_aload_n (pc := 497) hx hb d_Law_law_497 rfl (lv_at hl 1 rfl) ?_
          refine lv_aload_n (pc := 498) hx hb d_Law_law_498 rfl (lv_at hl 3 rfl) ?_
          refine lv_iload_n (pc := 499) hx hb d_Law_law_499 rfl (lv_at hl 0 rfl) ?_
          refine lv_iconst (v := 1) (pc := 500) hx hb d_Law_law_500 (by decide) ?_
          refine lv_iadd (pc := 501) hx hb d_Law_law_501 ?_
          refine va_sld (pc := 502) hx hb hX hbl hbA hw.2.2.1 i1 d_Law_law_502 ?_
          have ht := hp.1
          refine lm_ip (pc := 503) hw (fm_runV (As := [.int (xs (nI (2 + 3 * k) + 1).toNatClampNeg)]) (rest := [.int r]) hC hw.mw (c_Mo_received l D dA (b + 200) 34 T2 R2 M2 sz 1 ((xs (nI (2 + 3 * k) + 1).toNatClampNeg)) _) cy_Mo_received hp rfl rfl mv_99 mv_100 mv_101 (rfl : classes[11]? = _) (by decide) ht ⟨Nat.le_of_ble_eq_true rfl, Nat.le_of_ble_eq_true rfl⟩ rfl hl.1 rfl (Nat.le_of_ble_eq_true rfl) d_Law_law_503 ⟨hcl, hsl⟩) (fun r2  H hp hw => ?_)
          exact lv_icmp_eq (pc := 506) (tgt := 544) hx hb d_Law_law_506 rfl (fun _ => go T R M T2 R2 M2 sz H hp.2 hw) (fun hne => absurd hp.1 hne)
        by_cases hs_17 : w = (17 : Int32)
        · refine lv_tableIn (pc := 52) (tgt := 511) hx hb d_Law_law_52 (by rw [hs_17]; decide) (by rw [hs_17]; decide) (by rw [hs_17]; try rfl) rfl ?_
          refine lv_aload_n (pc := 511) hx hb d_Law_law_511 rfl (lv_at hl 2 rfl) ?_
          refine lv_aload_n (pc := 512) hx hb d_Law_law_512 rfl (lv_at hl 3 rfl) ?_
          refine lv_iload_n (pc := 513) hx hb d_Law_law_513 rfl (lv_at hl 0 rfl) ?_
          refine lv_iconst (v := 1) (pc := 514) hx hb d_Law_law_514 (by decide) ?_
          refine lv_iadd (pc := 515) hx hb d_Law_law_515 ?_
          refine va_sld (pc := 516) hx hb hX hbl hbA hw.2.2.1 i1 d_Law_law_516 ?_
          refine lv_aload_n (pc := 517) hx hb d_Law_law_517 rfl (lv_at hl 3 rfl) ?_
          refine lv_iload_n (pc := 518) hx hb d_Law_law_518 rfl (lv_at hl 0 rfl) ?_
          refine lv_iconst (v := 2) (pc := 519) hx hb d_Law_law_519 (by decide) ?_
          refine lv_iadd (pc := 520) hx hb d_Law_law_520 ?_
          refine va_sld (pc := 521) hx hb hX hbl hbA hw.2.2.1 i2 d_Law_law_521 ?_
          have hp := h_value k T R M T2 R2 M2 ((xs (nI (2 + 3 * k) + 1).toNatClampNeg)) ((xs (nI (2 + 3 * k) + 2).toNatClampNeg)) hc512 hsim
          have ht := hp.1
          refine lx_ip (pc := 522) hw (fm_runV (As := [.int (xs (nI (2 + 3 * k) + 1).toNatClampNeg), .int (xs (nI (2 + 3 * k) + 2).toNatClampNeg)]) (rest := []) hC hw.cw (c_X_value l D dA b 200 T R M sz 1 ((xs (nI (2 + 3 * k) + 1).toNatClampNeg)) ((xs (nI (2 + 3 * k) + 2).toNatClampNeg)) _) cy_X_value hp rfl rfl mv_102 mv_103 mv_104 (rfl : classes[10]? = _) (by decide) ht ⟨Nat.le_of_ble_eq_true rfl, Nat.le_of_ble_eq_true rfl⟩ rfl hl.1 rfl (Nat.le_of_ble_eq_true rfl) d_Law_law_522 ⟨hcl, hsl⟩) (fun r  H hp hw => ?_)
          refine lv_aload_n (pc := 525) hx hb d_Law_law_525 rfl (lv_at hl 1 rfl) ?_
          refine lv_aload_n (pc := 526) hx hb d_Law_law_526 rfl (lv_at hl 3 rfl) ?_
          refine lv_iload_n (pc := 527) hx hb d_Law_law_527 rfl (lv_at hl 0 rfl) ?_
          refine lv_iconst (v := 1) (pc := 528) hx hb d_Law_law_528 (by decide) ?_
          refine lv_iadd (pc := 529) hx hb d_Law_law_529 ?_
          refine va_sld (pc := 530) hx hb hX hbl hbA hw.2.2.1 i1 d_Law_law_530 ?_
          refine lv_aload_n (pc := 531) hx hb d_Law_law_531 rfl (lv_at hl 3 rfl) ?_
          refine lv_iload_n (pc := 532) hx hb d_Law_law_532 rfl (lv_at hl 0 rfl) ?_
          refine lv_iconst (v := 2) (pc := 533) hx hb d_Law_law_533 (by decide) ?_
          refine lv_iadd (pc := 534) hx hb d_Law_law_534 ?_
          refine va_sld (pc := 535) hx hb hX hbl hbA hw.2.2.1 i2 d_Law_law_535 ?_
          have ht := hp.1
          refine lm_ip (pc := 536) hw (fm_runV (As := [.int (xs (nI (2 + 3 * k) + 1).toNatClampNeg), .int (xs (nI (2 + 3 * k) + 2).toNatClampNeg)]) (rest := [.int r]) hC hw.mw (c_Mo_value l D dA (b + 200) 34 T2 R2 M2 sz 1 ((xs (nI (2 + 3 * k) + 1).toNatClampNeg)) ((xs (nI (2 + 3 * k) + 2).toNatClampNeg)) _) cy_Mo_value hp rfl rfl mv_105 mv_106 mv_107 (rfl : classes[11]? = _) (by decide) ht ⟨Nat.le_of_ble_eq_true rfl, Nat.le_of_ble_eq_true rfl⟩ rfl hl.1 rfl (Nat.le_of_ble_eq_true rfl) d_Law_law_536 ⟨hcl, hsl⟩) (fun r2  H hp hw => ?_)
          exact lv_icmp_eq (pc := 539) (tgt := 544) hx hb d_Law_law_539 rfl (fun _ => go T R M T2 R2 M2 sz H hp.2 hw) (fun hne => absurd hp.1 hne)
        refine lv_tableOut (pc := 52) (tgt := 544) hx hb d_Law_law_52 (by have q0 := lv_neT (a := 0) hs_0 (by decide); have q1 := lv_neT (a := 1) hs_1 (by decide); have q2 := lv_neT (a := 2) hs_2 (by decide); have q3 := lv_neT (a := 3) hs_3 (by decide); have q4 := lv_neT (a := 4) hs_4 (by decide); have q5 := lv_neT (a := 5) hs_5 (by decide); have q6 := lv_neT (a := 6) hs_6 (by decide); have q7 := lv_neT (a := 7) hs_7 (by decide); have q8 := lv_neT (a := 8) hs_8 (by decide); have q9 := lv_neT (a := 9) hs_9 (by decide); have q10 := lv_neT (a := 10) hs_10 (by decide); have q11 := lv_neT (a := 11) hs_11 (by decide); have q12 := lv_neT (a := 12) hs_12 (by decide); have q13 := lv_neT (a := 13) hs_13 (by decide); have q14 := lv_neT (a := 14) hs_14 (by decide); have q15 := lv_neT (a := 15) hs_15 (by decide); have q16 := lv_neT (a := 16) hs_16 (by decide); have q17 := lv_neT (a := 17) hs_17 (by decide); omega) rfl ?_
        exact go T R M T2 R2 M2 sz H (h_none k T R M T2 R2 M2 hc512 hsim) hw
  have hw : St D dA (Ab b) b 0 (fun _ => (0, 0)) (fun _ _ => 0) (fun _ _ => 0) (b + 0 + 1) s.heap s.heap [] := ⟨⟨fun j q hj => by simp [wL] at hj, hsz⟩, va_S.rf, fun k h0 h1 => show b < b + k by omega⟩
  refine fm_new (pc := 0) hC hw hin_X t_X t_X_ok mv_108 mv_0 mw_651 (rfl : classes[10]? = _) (by decide) (by decide) df_X (Nat.le_of_ble_eq_true rfl) (Nat.le_of_ble_eq_true rfl) d_Law_law_0 (fun T1 R1 M1 H eT eR eM hw => ?_)
  refine W.widen (k := 1) (n := 3) (Nat.le_of_ble_eq_true rfl) (Nat.le_of_ble_eq_true rfl) ?_
  refine lv_dup (pc := 3) hx hb d_Law_law_3 rfl ?_
  refine lv_aload_n (pc := 4) hx hb d_Law_law_4 rfl (lv_at hl 0 rfl) ?_
  refine lv_iconst (v := 0) (pc := 5) hx hb d_Law_law_5 (by decide) ?_
  refine W.callR (r := if 0 < L then xs 0 else 0) (W.runS (As := [.ref sb, .int (nI 0)]) (rest := [.ref (b + (0 + 1)), .ref (b + (0 + 1))]) (g := F0 m 6 ls [.int (nI 0), .ref sb, .ref (b + (0 + 1)), .ref (b + (0 + 1))]) hC.1 (c_Law_cell l sb L xs hL31 0 (by decide)) ⟨callB_of 2 hts (tW_good mv_109) rfl rfl rfl (hts _ mv_110) (hts _ mv_111) ⟨by decide, by decide, by decide +kernel⟩ ⟨Nat.le_of_ble_eq_true rfl, Nat.le_of_ble_eq_true rfl⟩, hts _ mv_112⟩ ⟨fun a U g mk q => ⟨q.1, q.2.moved (Vm.Alike.refl U.vm)⟩, fun U hU hW => ⟨rfl, (hX.kept (by rw [hU]; exact hw.2.1.2.1 sb hbl hbA)).moved hW.alike⟩⟩ rfl rfl hl.1 rfl (lv_room (Nat.le_of_ble_eq_true rfl)) d_Law_law_6 ⟨Nat.le_of_ble_eq_true rfl, Nat.le_of_ble_eq_true rfl⟩) ?_
  refine W.eq (g2 := F0 m 9 ls [.int (if 0 < L then xs 0 else 0), .ref (b + (0 + 1)), .ref (b + (0 + 1))]) rfl ?_
  refine lv_aload_n (pc := 9) hx hb d_Law_law_9 rfl (lv_at hl 0 rfl) ?_
  refine lv_iconst (v := 1) (pc := 10) hx hb d_Law_law_10 (by decide) ?_
  refine W.callR (r := if 1 < L then xs 1 else 0) (W.runS (As := [.ref sb, .int (nI 1)]) (rest := [.int (if 0 < L then xs 0 else 0), .ref (b + (0 + 1)), .ref (b + (0 + 1))]) (g := F0 m 11 ls [.int (nI 1), .ref sb, .int (if 0 < L then xs 0 else 0), .ref (b + (0 + 1)), .ref (b + (0 + 1))]) hC.1 (c_Law_cell l sb L xs hL31 1 (by decide)) ⟨callB_of 2 hts (tW_good mv_109) rfl rfl rfl (hts _ mv_110) (hts _ mv_111) ⟨by decide, by decide, by decide +kernel⟩ ⟨Nat.le_of_ble_eq_true rfl, Nat.le_of_ble_eq_true rfl⟩, hts _ mv_112⟩ ⟨fun a U g mk q => ⟨q.1, q.2.moved (Vm.Alike.refl U.vm)⟩, fun U hU hW => ⟨rfl, (hX.kept (by rw [hU]; exact hw.2.1.2.1 sb hbl hbA)).moved hW.alike⟩⟩ rfl rfl hl.1 rfl (lv_room (Nat.le_of_ble_eq_true rfl)) d_Law_law_11 ⟨Nat.le_of_ble_eq_true rfl, Nat.le_of_ble_eq_true rfl⟩) ?_
  generalize hu1 : (if 0 < L then xs 0 else 0) = u1
  generalize hu2 : (if 1 < L then xs 1 else 0) = u2
  refine W.eq (g2 := F0 m 14 ls [.int u2, .int u1, .ref (b + 1), .ref (b + 1)]) rfl ?_
  have hp := h_new u1 u2 (fun _ => (0, 0)) (fun _ _ => 0) (fun _ _ => 0) (fun _ => (0, 0)) (fun _ _ => 0) (fun _ _ => 0)
  have eT : T1 = sT (fun _ => (0, 0)) 1 (10, 0) := eT
  have eR : R1 = zR (fun _ _ => 0) 1 := eR
  have eM : M1 = zM (fun _ _ => 0) 1 := eM
  subst eT; subst eR; subst eM
  refine call_va (pc := 14) (fun _ h => h) hw (fm_runI (As := [.int u1, .int u2]) (rest := [.ref (b + 1)]) hC hw (c_X_init l D dA b 1 _ _ _ 1 u1 u2 _) cy_X_init hp rfl rfl mv_113 mv_114 rfl ⟨Nat.le_of_ble_eq_true rfl, Nat.le_of_ble_eq_true rfl⟩ rfl hl.1 rfl (Nat.le_of_ble_eq_true rfl) d_Law_law_14 ⟨Nat.le_of_ble_eq_true rfl, Nat.le_of_ble_eq_true rfl⟩) (fun n T R M H locs hp hw => ?_)
  obtain ⟨rfl, hp⟩ := hp
  refine va_forget (fun q hq => ?_) ?_
  · have h1 : b < q.base := hw.2.1.2.2 q hq
    omega
  refine W.widen (k := 224) (n := 3665) (Nat.le_of_ble_eq_true rfl) (Nat.le_of_ble_eq_true rfl) ?_
  have hW1 := hw.1
  have hS1 : va_S (Ab b) s.heap H [] := ⟨hw.2.1.1, hw.2.1.2.1, fun _ h => by cases h⟩
  refine lv_astore_n (pc := 17) hx hb d_Law_law_17 rfl hl (by decide) rfl (fun ls hl => ?_)
  have hl : lv_has ls 4 [(1, .ref (b + 1)), (0, .ref sb)] := hl
  have hbA2 : ¬ Ab (b + 200) sb := fun h => by have h : b + 200 < sb := h; omega
  have hw : St D dA (Ab (b + 200)) (b + 200) 0 (fun _ => (0, 0)) (fun _ _ => 0) (fun _ _ => 0) (b + 200 + 0 + 1) s.heap H [] := ⟨⟨fun j q hj => by simp [wL] at hj, hW1.2⟩, ⟨hS1.1, fun q h1 h2 => hS1.2.1 q h1 (fun h => by have h : b < q := h; omega), fun _ h => by cases h⟩, fun k h0 h1 => show b + 200 < b + 200 + k by omega⟩
  refine fm_newF (pc := 18) hC hw hin_Mo t_Mo t_Mo_ok mv_115 mv_1 mw_740 (rfl : classes[11]? = _) (by decide) (by decide) df_Mo (Nat.le_of_ble_eq_true rfl) (Nat.le_of_ble_eq_true rfl) d_Law_law_18 (fun T2 R2 M2 H2 eT eR eM hF hw => ?_)
  refine W.widen (k := 225) (n := 3709) (Nat.le_of_ble_eq_true rfl) (Nat.le_of_ble_eq_true rfl) ?_
  have hW1 : Wd D dA b 200 T R M (b + 200 + (0 + 1) + 1) H2 := hW1.other (A1 := fun _ => False) hw.1.2 (fun q hq _ => hF q hq) (fun _ _ _ h => h)
  have hS1 : va_S (Ab b) s.heap H2 [] := ⟨hw.2.1.1, fun q h1 h2 => hw.2.1.2.1 q h1 (fun h => by have h : b + 200 < q := h; omega), fun _ h => by cases h⟩
  refine lv_dup (pc := 21) hx hb d_Law_law_21 rfl ?_
  refine lv_aload_n (pc := 22) hx hb d_Law_law_22 rfl (lv_at hl 1 rfl) ?_
  refine lv_iconst (v := 0) (pc := 23) hx hb d_Law_law_23 (by decide) ?_
  refine W.callR (r := if 0 < L then xs 0 else 0) (W.runS (As := [.ref sb, .int (nI 0)]) (rest := [.ref (b + 200 + (0 + 1)), .ref (b + 200 + (0 + 1))]) (g := F0 m 24 ls [.int (nI 0), .ref sb, .ref (b + 200 + (0 + 1)), .ref (b + 200 + (0 + 1))]) hC.1 (c_Law_cell l sb L xs hL31 0 (by decide)) ⟨callB_of 2 hts (tW_good mv_109) rfl rfl rfl (hts _ mv_110) (hts _ mv_111) ⟨by decide, by decide, by decide +kernel⟩ ⟨Nat.le_of_ble_eq_true rfl, Nat.le_of_ble_eq_true rfl⟩, hts _ mv_112⟩ ⟨fun a U g mk q => ⟨q.1, q.2.moved (Vm.Alike.refl U.vm)⟩, fun U hU hW => ⟨rfl, (hX.kept (by rw [hU]; exact hw.2.1.2.1 sb hbl hbA2)).moved hW.alike⟩⟩ rfl rfl hl.1 rfl (lv_room (Nat.le_of_ble_eq_true rfl)) d_Law_law_24 ⟨Nat.le_of_ble_eq_true rfl, Nat.le_of_ble_eq_true rfl⟩) ?_
  refine W.eq (g2 := F0 m 27 ls [.int (if 0 < L then xs 0 else 0), .ref (b + 200 + (0 + 1)), .ref (b + 200 + (0 + 1))]) rfl ?_
  refine lv_aload_n (pc := 27) hx hb d_Law_law_27 rfl (lv_at hl 1 rfl) ?_
  refine lv_iconst (v := 1) (pc := 28) hx hb d_Law_law_28 (by decide) ?_
  refine W.callR (r := if 1 < L then xs 1 else 0) (W.runS (As := [.ref sb, .int (nI 1)]) (rest := [.int (if 0 < L then xs 0 else 0), .ref (b + 200 + (0 + 1)), .ref (b + 200 + (0 + 1))]) (g := F0 m 29 ls [.int (nI 1), .ref sb, .int (if 0 < L then xs 0 else 0), .ref (b + 200 + (0 + 1)), .ref (b + 200 + (0 + 1))]) hC.1 (c_Law_cell l sb L xs hL31 1 (by decide)) ⟨callB_of 2 hts (tW_good mv_109) rfl rfl rfl (hts _ mv_110) (hts _ mv_111) ⟨by decide, by decide, by decide +kernel⟩ ⟨Nat.le_of_ble_eq_true rfl, Nat.le_of_ble_eq_true rfl⟩, hts _ mv_112⟩ ⟨fun a U g mk q => ⟨q.1, q.2.moved (Vm.Alike.refl U.vm)⟩, fun U hU hW => ⟨rfl, (hX.kept (by rw [hU]; exact hw.2.1.2.1 sb hbl hbA2)).moved hW.alike⟩⟩ rfl rfl hl.1 rfl (lv_room (Nat.le_of_ble_eq_true rfl)) d_Law_law_29 ⟨Nat.le_of_ble_eq_true rfl, Nat.le_of_ble_eq_true rfl⟩) ?_
  rw [hu1, hu2]
  refine W.eq (g2 := F0 m 32 ls [.int u2, .int u1, .ref (b + 200 + 1), .ref (b + 200 + 1)]) rfl ?_
  have eT : T2 = sT (fun _ => (0, 0)) 1 (11, 0) := eT
  have eR : R2 = zR (fun _ _ => 0) 1 := eR
  have eM : M2 = zM (fun _ _ => 0) 1 := eM
  subst eT; subst eR; subst eM
  refine lm_va (pc := 32) hS1 hsz hW1 (fm_runI (As := [.int u1, .int u2]) (rest := [.ref (b + 200 + 1)]) hC hw (c_Mo_init l D dA (b + 200) 1 _ _ _ 1 u1 u2 _) cy_Mo_init hp rfl rfl mv_116 mv_117 rfl ⟨Nat.le_of_ble_eq_true rfl, Nat.le_of_ble_eq_true rfl⟩ rfl hl.1 rfl (Nat.le_of_ble_eq_true rfl) d_Law_law_32 ⟨Nat.le_of_ble_eq_true rfl, Nat.le_of_ble_eq_true rfl⟩) (fun n2 T2 R2 M2 H hp hW2 hW1 hS1 => ?_)
  obtain ⟨rfl, hsim⟩ := hp
  refine lv_astore_n (pc := 35) hx hb d_Law_law_35 rfl hl (by decide) rfl (fun ls hl => ?_)
  have hl : lv_has ls 4 [(2, .ref (b + 200 + 1)), (1, .ref (b + 1)), (0, .ref sb)] := hl
  refine lv_iconst (v := 2) (pc := 36) hx hb d_Law_law_36 (by decide) ?_
  refine lv_istore_n (pc := 37) hx hb d_Law_law_37 rfl hl (by decide) rfl (fun ls hl => ?_)
  have hl : lv_has ls 4 [(3, .int (nI (2 + 3 * 0))), (2, .ref (b + 200 + 1)), (1, .ref (b + 1)), (0, .ref sb)] := hl
  exact LP 600 0 T R M T2 R2 M2 _ _ _ ls H hsim (by omega) (by omega) (Nat.le_of_ble_eq_true rfl) (Nat.le_of_ble_eq_true rfl) hl ⟨hW1, hW2, hS1, hsz⟩
