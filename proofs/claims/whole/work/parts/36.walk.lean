set_option maxHeartbeats 4000000 in
set_option maxRecDepth 100000 in
theorem c_X_start (l : Launch) (D : va_G) (dA : Nat → ClassId) (b n : Nat) (T : mT) (R : mR) (M : mM) (sz : Nat) (h : Nat) (Q : Int32 → mM → Prop) : Met l y_X_start (Cond.code y_X_start b_X_start 1 (some .boolean) :: tW) ({ frames := 5, cells := 0, slots := 0, locals := 114 }) (Pm D dA b n T R M sz [.ref (b + h)] (w_X_start n T R M h Q)) (Qzm D dA (An b n) b n T R sz Q) 0 0 (An b n) := by
  refine fm_body (An b n) (by decide) (Nat.le_of_ble_eq_true rfl) (fun k h0 h1 => ⟨by omega, by omega⟩) (fun p e s m below meth c ls hC hr hlk hnm hl hw hp => ?_)
  have hx := hC.1.1
  have hb := hC.1.2.1
  have hl : lv_has ls 1 [(0, .ref (b + h))] := hl
  generalize hav : (List.toArray ([.ref (b + h)] : List Value)) = av at hC ⊢
  unfold w_X_start at hp
  obtain ⟨k0, hp⟩ := hp
  refine lv_aload_n (pc := 0) hx hb d_X_start_0 rfl (lv_at hl 0 rfl) ?_
  obtain ⟨k1, hp⟩ := hp
  refine gf_X_30 (pc := 1) hC hw k0 (Nat.ne_of_gt k1.1) d_X_start_1 ?_
  refine gf_X_41 (pc := 4) hC hw k1 d_X_start_4 ?_
  refine lv_if_eq (pc := 7) (tgt := 12) hx hb d_X_start_7 rfl (fun hc => ?_) (fun hc => ?_)
  · have hp := hp.1 hc
    refine lv_aload_n (pc := 12) hx hb d_X_start_12 rfl (lv_at hl 0 rfl) ?_
    refine gf_X_30 (pc := 13) hC hw k0 (Nat.ne_of_gt k1.1) d_X_start_13 ?_
    refine call_vm (pc := 16) (fun _ h => h) hw (fm_runV (As := []) (rest := []) hC hw (c_Client_sendHello l D dA b n T R M sz (R h 1) _) cy_Client_sendHello hp rfl rfl mw_303 mw_304 mw_305 (rfl : classes[8]? = _) (by decide) k1 ⟨Nat.le_of_ble_eq_true rfl, Nat.le_of_ble_eq_true rfl⟩ rfl hl.1 rfl (Nat.le_of_ble_eq_true rfl) d_X_start_16 ⟨(Nat.le_of_ble_eq_true rfl), (Nat.le_of_ble_eq_true rfl)⟩) (fun M2 H locs hp hw => ?_)
    refine lv_iconst (v := 1) (pc := 19) hx hb d_X_start_19 (by decide) ?_
    exact ret_zm hC hr hlk hw (Or.inr rfl) hp d_X_start_20
  · have hp := hp.2 hc
    refine lv_iconst (v := 0) (pc := 10) hx hb d_X_start_10 (by decide) ?_
    exact ret_zm hC hr hlk hw (Or.inl rfl) hp d_X_start_11
set_option maxHeartbeats 4000000 in
set_option maxRecDepth 100000 in
theorem c_X_tick (l : Launch) (D : va_G) (dA : Nat → ClassId) (b n : Nat) (T : mT) (R : mR) (M : mM) (sz : Nat) (h : Nat) (Q : Int32 → mM → Prop) : Met l y_X_tick (Cond.code y_X_tick b_X_tick 2 (some .int) :: tW) ({ frames := 5, cells := 0, slots := 0, locals := 113 }) (Pm D dA b n T R M sz [.ref (b + h)] (w_X_tick n T R M h Q)) (Qim D dA (An b n) b n T R sz Q) 0 0 (An b n) := by
  refine fm_body (An b n) (by decide) (Nat.le_of_ble_eq_true rfl) (fun k h0 h1 => ⟨by omega, by omega⟩) (fun p e s m below meth c ls hC hr hlk hnm hl hw hp => ?_)
  have hx := hC.1.1
  have hb := hC.1.2.1
  have hl : lv_has ls 2 [(0, .ref (b + h))] := hl
  generalize hav : (List.toArray ([.ref (b + h)] : List Value)) = av at hC ⊢
  unfold w_X_tick at hp
  obtain ⟨k0, hp⟩ := hp
  refine lv_aload_n (pc := 0) hx hb d_X_tick_0 rfl (lv_at hl 0 rfl) ?_
  obtain ⟨k1, hp⟩ := hp
  refine gf_X_21 (pc := 1) hC hw k0 (Nat.ne_of_gt k1.1) d_X_tick_1 ?_
  refine gf_X_48 (pc := 4) hC hw k1 d_X_tick_4 ?_
  refine lv_topi (fun v2 ev2 => ?_)
  have hp := hp v2 ev2
  refine lv_istore_n (pc := 7) hx hb d_X_tick_7 rfl hl (by decide) rfl (fun ls hl => ?_)
  have hl : lv_has ls 2 [(1, .int v2), (0, .ref (b + h))] := hl
  refine lv_aload_n (pc := 8) hx hb d_X_tick_8 rfl (lv_at hl 1 rfl) ?_
  obtain ⟨k3, hp⟩ := hp
  refine gf_X_30 (pc := 9) hC hw k0 (Nat.ne_of_gt k3.1) d_X_tick_9 ?_
  refine call_vm (pc := 12) (fun _ h => h) hw (fm_runU (x := (⟨"LossyHandshake$Client", "passTick", "()V"⟩ : MethodName)) (As := []) (rest := []) hC hw (c_Side_passTick l D dA b n T R M sz (R h 1) _) cy_Side_passTick hp rfl rfl rfl mw_306 mw_307 mw_308 mw_309 (rfl : classes[8]? = _) (by decide) k3 ⟨Nat.le_of_ble_eq_true rfl, Nat.le_of_ble_eq_true rfl⟩ rfl hl.1 rfl (Nat.le_of_ble_eq_true rfl) d_X_tick_12 ⟨(Nat.le_of_ble_eq_true rfl), (Nat.le_of_ble_eq_true rfl)⟩) (fun M4 H locs hp hw => ?_)
  refine lv_aload_n (pc := 15) hx hb d_X_tick_15 rfl (lv_at hl 1 rfl) ?_
  obtain ⟨k5, hp⟩ := hp
  refine gf_X_37 (pc := 16) hC hw k0 (Nat.ne_of_gt k5.1) d_X_tick_16 ?_
  refine call_vm (pc := 19) (fun _ h => h) hw (fm_runU (x := (⟨"LossyHandshake$Server", "passTick", "()V"⟩ : MethodName)) (As := []) (rest := []) hC hw (c_Side_passTick l D dA b n T R M4 sz (R h 2) _) cy_Side_passTick hp rfl rfl rfl mw_310 mw_311 mw_308 mw_312 (rfl : classes[9]? = _) (by decide) k5 ⟨Nat.le_of_ble_eq_true rfl, Nat.le_of_ble_eq_true rfl⟩ rfl hl.1 rfl (Nat.le_of_ble_eq_true rfl) d_X_tick_19 ⟨(Nat.le_of_ble_eq_true rfl), (Nat.le_of_ble_eq_true rfl)⟩) (fun M6 H locs hp hw => ?_)
  refine lv_aload_n (pc := 22) hx hb d_X_tick_22 rfl (lv_at hl 1 rfl) ?_
  refine gf_X_21 (pc := 23) hC hw k0 (Nat.ne_of_gt k1.1) d_X_tick_23 ?_
  refine gf_X_48 (pc := 26) hC hw k1 d_X_tick_26 ?_
  refine lv_iload_n (pc := 29) hx hb d_X_tick_29 rfl (lv_at hl 0 rfl) ?_
  refine lv_isub (pc := 30) hx hb d_X_tick_30 ?_
  exact ret_im hC hr hlk hw hp d_X_tick_31
set_option maxHeartbeats 4000000 in
set_option maxRecDepth 100000 in
theorem c_X_isSide (l : Launch) (D : va_G) (dA : Nat → ClassId) (b n : Nat) (T : mT) (R : mR) (M : mM) (sz : Nat) (x1 : Int32) (Q : Int32 → Prop) : Met l y_X_isSide (Cond.code y_X_isSide b_X_isSide 1 (some .boolean) :: tW) ({ frames := 0, cells := 0, slots := 0, locals := 0 }) (Pm D dA b n T R M sz [.int x1] (w_X_isSide n T R M x1 Q)) (Qzp D dA (An b n) b n T R M sz Q) 0 0 (An b n) := by
  refine fm_body (An b n) (by decide) (Nat.le_of_ble_eq_true rfl) (fun k h0 h1 => ⟨by omega, by omega⟩) (fun p e s m below meth c ls hC hr hlk hnm hl hw hp => ?_)
  have hx := hC.1.1
  have hb := hC.1.2.1
  have hl : lv_has ls 1 [(0, .int x1)] := hl
  generalize hav : (List.toArray ([.int x1] : List Value)) = av at hC ⊢
  unfold w_X_isSide at hp
  refine lv_iload_n (pc := 0) hx hb d_X_isSide_0 rfl (lv_at hl 0 rfl) ?_
  refine lv_if_eq (pc := 1) (tgt := 9) hx hb d_X_isSide_1 rfl (fun hc => ?_) (fun hc => ?_)
  · have hp := hp.1 hc
    refine lv_iconst (v := 1) (pc := 9) hx hb d_X_isSide_9 (by decide) ?_
    refine lv_goto (pc := 10) (tgt := 14) hx hb d_X_isSide_10 rfl ?_
    exact ret_zp hC hr hlk hw (Or.inr rfl) hp d_X_isSide_14
  · have hp := hp.2 hc
    refine lv_iload_n (pc := 4) hx hb d_X_isSide_4 rfl (lv_at hl 0 rfl) ?_
    refine lv_iconst (v := 1) (pc := 5) hx hb d_X_isSide_5 (by decide) ?_
    refine lv_icmp_ne (pc := 6) (tgt := 13) hx hb d_X_isSide_6 rfl (fun hc => ?_) (fun hc => ?_)
    · have hp := hp.2 hc
      refine lv_iconst (v := 0) (pc := 13) hx hb d_X_isSide_13 (by decide) ?_
      exact ret_zp hC hr hlk hw (Or.inl rfl) hp d_X_isSide_14
    · have hp := hp.1 hc
      refine lv_iconst (v := 1) (pc := 9) hx hb d_X_isSide_9 (by decide) ?_
      refine lv_goto (pc := 10) (tgt := 14) hx hb d_X_isSide_10 rfl ?_
      exact ret_zp hC hr hlk hw (Or.inr rfl) hp d_X_isSide_14
set_option maxHeartbeats 4000000 in
set_option maxRecDepth 100000 in
theorem c_X_sideOf (l : Launch) (D : va_G) (dA : Nat → ClassId) (b n : Nat) (T : mT) (R : mR) (M : mM) (sz : Nat) (h : Nat) (x1 : Int32) (Q : Nat → Prop) : Met l y_X_sideOf (Cond.code y_X_sideOf b_X_sideOf 2 (some (.object "LossyHandshake$Side")) :: tW) ({ frames := 0, cells := 0, slots := 0, locals := 0 }) (Pm D dA b n T R M sz [.ref (b + h), .int x1] (w_X_sideOf n T R M h x1 Q)) (Qrp D dA (An b n) b n T R M sz Q) 0 0 (An b n) := by
  refine fm_body (An b n) (by decide) (Nat.le_of_ble_eq_true rfl) (fun k h0 h1 => ⟨by omega, by omega⟩) (fun p e s m below meth c ls hC hr hlk hnm hl hw hp => ?_)
  have hx := hC.1.1
  have hb := hC.1.2.1
  have hl : lv_has ls 2 [(0, .ref (b + h)), (1, .int x1)] := hl
  generalize hav : (List.toArray ([.ref (b + h), .int x1] : List Value)) = av at hC ⊢
  unfold w_X_sideOf at hp
  obtain ⟨k0, hp⟩ := hp
  refine lv_iload_n (pc := 0) hx hb d_X_sideOf_0 rfl (lv_at hl 1 rfl) ?_
  refine lv_if_ne (pc := 1) (tgt := 11) hx hb d_X_sideOf_1 rfl (fun hc => ?_) (fun hc => ?_)
  · have hp := hp.2 hc
    refine lv_aload_n (pc := 11) hx hb d_X_sideOf_11 rfl (lv_at hl 0 rfl) ?_
    obtain ⟨k2, hp⟩ := hp
    refine gf_X_37 (pc := 12) hC hw k0 (Nat.ne_of_gt k2.1) d_X_sideOf_12 ?_
    exact ret_rp hC hr hlk hw (Nat.ne_of_gt k2.1) hp d_X_sideOf_15
  · have hp := hp.1 hc
    refine lv_aload_n (pc := 4) hx hb d_X_sideOf_4 rfl (lv_at hl 0 rfl) ?_
    obtain ⟨k1, hp⟩ := hp
    refine gf_X_30 (pc := 5) hC hw k0 (Nat.ne_of_gt k1.1) d_X_sideOf_5 ?_
    refine lv_goto (pc := 8) (tgt := 15) hx hb d_X_sideOf_8 rfl ?_
    exact ret_rp hC hr hlk hw (Nat.ne_of_gt k1.1) hp d_X_sideOf_15
set_option maxHeartbeats 4000000 in
set_option maxRecDepth 100000 in
theorem c_X_send (l : Launch) (D : va_G) (dA : Nat → ClassId) (b n : Nat) (T : mT) (R : mR) (M : mM) (sz : Nat) (h : Nat) (x1 : Int32) (x2 : Int32) (Q : Int32 → mM → Prop) : Met l y_X_send (Cond.code y_X_send b_X_send 3 (some .boolean) :: tW) ({ frames := 3, cells := 0, slots := 0, locals := 70 }) (Pm D dA b n T R M sz [.ref (b + h), .int x1, .int x2] (w_X_send n T R M h x1 x2 Q)) (Qzm D dA (An b n) b n T R sz Q) 0 0 (An b n) := by
  refine fm_body (An b n) (by decide) (Nat.le_of_ble_eq_true rfl) (fun k h0 h1 => ⟨by omega, by omega⟩) (fun p e s m below meth c ls hC hr hlk hnm hl hw hp => ?_)
  have hx := hC.1.1
  have hb := hC.1.2.1
  have hl : lv_has ls 3 [(0, .ref (b + h)), (1, .int x1), (2, .int x2)] := hl
  generalize hav : (List.toArray ([.ref (b + h), .int x1, .int x2] : List Value)) = av at hC ⊢
  unfold w_X_send at hp
  obtain ⟨k0, hp⟩ := hp
  refine lv_iload_n (pc := 0) hx hb d_X_send_0 rfl (lv_at hl 1 rfl) ?_
  refine call_zp (pc := 1) (fun _ h => h) hw (fm_runS (As := [.int x1]) (rest := []) hC hw (c_X_isSide l D dA b n T R M sz x1 _) cy_X_isSide hp rfl rfl mw_313 mw_314 ⟨Nat.le_of_ble_eq_true rfl, Nat.le_of_ble_eq_true rfl⟩ rfl hl.1 rfl (Nat.le_of_ble_eq_true rfl) d_X_send_1 ⟨(Nat.le_of_ble_eq_true rfl), (Nat.le_of_ble_eq_true rfl)⟩) (fun r1 H locs hp z2 hw => ?_)
  refine lv_if_eq (pc := 4) (tgt := 23) hx hb d_X_send_4 rfl (fun hc => ?_) (fun hc => ?_)
  · have hp := hp.1 hc
    refine lv_iconst (v := 0) (pc := 23) hx hb d_X_send_23 (by decide) ?_
    exact ret_zm hC hr hlk hw (Or.inl rfl) hp d_X_send_24
  · have hp := hp.2 hc
    refine lv_aload_n (pc := 7) hx hb d_X_send_7 rfl (lv_at hl 0 rfl) ?_
    refine lv_iload_n (pc := 8) hx hb d_X_send_8 rfl (lv_at hl 1 rfl) ?_
    refine call_rp (pc := 9) (fun _ h => h) hw (fm_runV (As := [.int x1]) (rest := []) hC hw (c_X_sideOf l D dA b n T R M sz h x1 _) cy_X_sideOf hp rfl rfl mw_315 mw_316 mw_317 (rfl : classes[10]? = _) (by decide) k0 ⟨Nat.le_of_ble_eq_true rfl, Nat.le_of_ble_eq_true rfl⟩ rfl hl.1 rfl (Nat.le_of_ble_eq_true rfl) d_X_send_9 ⟨(Nat.le_of_ble_eq_true rfl), (Nat.le_of_ble_eq_true rfl)⟩) (fun r3 H locs hp z4 hw => ?_)
    refine lv_iload_n (pc := 12) hx hb d_X_send_12 rfl (lv_at hl 2 rfl) ?_
    obtain ⟨k5, hp⟩ := hp
    refine call_zm (pc := 13) (fun _ h => h) hw (Or.elim k5 (fun kS => fm_runU (x := (⟨"LossyHandshake$Side", "sendData", "(I)Z"⟩ : MethodName)) (As := [.int x2]) (rest := []) hC hw (c_Side_sendData l D dA b n T R M sz r3 x2 _) cy_Side_sendData hp rfl rfl rfl mw_318 mw_319 mw_320 mw_321 (rfl : classes[8]? = _) (by decide) kS ⟨Nat.le_of_ble_eq_true rfl, Nat.le_of_ble_eq_true rfl⟩ rfl hl.1 rfl (Nat.le_of_ble_eq_true rfl) d_X_send_13 ⟨(Nat.le_of_ble_eq_true rfl), (Nat.le_of_ble_eq_true rfl)⟩) (fun kS => fm_runU (x := (⟨"LossyHandshake$Side", "sendData", "(I)Z"⟩ : MethodName)) (As := [.int x2]) (rest := []) hC hw (c_Side_sendData l D dA b n T R M sz r3 x2 _) cy_Side_sendData hp rfl rfl rfl mw_318 mw_319 mw_320 mw_322 (rfl : classes[9]? = _) (by decide) kS ⟨Nat.le_of_ble_eq_true rfl, Nat.le_of_ble_eq_true rfl⟩ rfl hl.1 rfl (Nat.le_of_ble_eq_true rfl) d_X_send_13 ⟨(Nat.le_of_ble_eq_true rfl), (Nat.le_of_ble_eq_true rfl)⟩)) (fun r6 M7 H locs hp z8 hw => ?_)
    refine lv_if_eq (pc := 16) (tgt := 23) hx hb d_X_send_16 rfl (fun hc => ?_) (fun hc => ?_)
    · have hp := hp.1 hc
      refine lv_iconst (v := 0) (pc := 23) hx hb d_X_send_23 (by decide) ?_
      exact ret_zm hC hr hlk hw (Or.inl rfl) hp d_X_send_24
    · have hp := hp.2 hc
      refine lv_iconst (v := 1) (pc := 19) hx hb d_X_send_19 (by decide) ?_
      refine lv_goto (pc := 20) (tgt := 24) hx hb d_X_send_20 rfl ?_
      exact ret_zm hC hr hlk hw (Or.inr rfl) hp d_X_send_24
set_option maxHeartbeats 4000000 in
set_option maxRecDepth 100000 in
theorem c_X_deliver (l : Launch) (D : va_G) (dA : Nat → ClassId) (b n : Nat) (T : mT) (R : mR) (M : mM) (sz : Nat) (h : Nat) (x1 : Int32) (Q : Int32 → mR → mM → Prop) : Met l y_X_deliver (Cond.code y_X_deliver b_X_deliver 4 (some .int) :: tW) ({ frames := 6, cells := 0, slots := 0, locals := 136 }) (Pm D dA b n T R M sz [.ref (b + h), .int x1] (w_X_deliver n T R M h x1 Q)) (Qir D dA (An b n) b n T sz Q) 0 0 (An b n) := by
  refine fm_body (An b n) (by decide) (Nat.le_of_ble_eq_true rfl) (fun k h0 h1 => ⟨by omega, by omega⟩) (fun p e s m below meth c ls hC hr hlk hnm hl hw hp => ?_)
  have hx := hC.1.1
  have hb := hC.1.2.1
  have hl : lv_has ls 4 [(0, .ref (b + h)), (1, .int x1)] := hl
  generalize hav : (List.toArray ([.ref (b + h), .int x1] : List Value)) = av at hC ⊢
  unfold w_X_deliver at hp
  obtain ⟨k0, hp⟩ := hp
  have B40 : ∀ (a2 : Nat) (s0 : Nat) (R : mR) (M : mM)  (ls : Array Slot) (H : Heap) (locs : List Loc), ok T n a2 3 → okS T n s0 → lv_has ls 4 [(2, .ref (b + a2))] → St D dA (An b n) b n T R M sz s.heap H locs → w_X_deliver_B40 n T Q a2 s0 R M → W p l e ({ frames := 6, cells := 0, slots := 0, locals := 136 }) s m av below meth c H locs 0 0 (MQ below (Qir D dA (An b n) b n T sz Q) av s 0 0 (An b n)) (F0 m 40 ls [.ref (b + s0)]) := by
    intro a2 s0 R M ls H locs f10 f11 hl hw hp
    unfold w_X_deliver_B40 at hp
    refine lv_astore_n (pc := 40) hx hb d_X_deliver_40 rfl hl (by decide) rfl (fun ls hl => ?_)
    have hl : lv_has ls 4 [(3, .ref (b + s0)), (2, .ref (b + a2))] := hl
    refine lv_aload_n (pc := 41) hx hb d_X_deliver_41 rfl (lv_at hl 0 rfl) ?_
    refine lv_aload_n (pc := 42) hx hb d_X_deliver_42 rfl (lv_at hl 1 rfl) ?_
    rcases f11 with k12 | k16
    · have hp := hp.1 k12
      refine call_zm (pc := 43) (fun _ h => h) hw (fm_runA (x := (⟨"LossyHandshake$Side", "accept", "(LLossyHandshake$NetRecord;)Z"⟩ : MethodName)) (As := [.ref (b + a2)]) (rest := []) hC hw (c_Client_accept l D dA b n T R M sz s0 a2 _) cy_Client_accept hp rfl rfl rfl (by decide) (by decide) mw_329 mw_330 mw_331 mw_332 (rfl : classes[8]? = _) (by decide) k12 ⟨Nat.le_of_ble_eq_true rfl, Nat.le_of_ble_eq_true rfl⟩ rfl hl.1 rfl (Nat.le_of_ble_eq_true rfl) d_X_deliver_43 ⟨(Nat.le_of_ble_eq_true rfl), (Nat.le_of_ble_eq_true rfl)⟩) (fun r13 M14 H locs hp z15 hw => ?_)
      refine lv_if_eq (pc := 46) (tgt := 53) hx hb d_X_deliver_46 rfl (fun hc => ?_) (fun hc => ?_)
      · have hp := hp.1 hc
        refine lv_iconst (v := 0) (pc := 53) hx hb d_X_deliver_53 (by decide) ?_
        exact ret_ir hC hr hlk hw hp d_X_deliver_54
      · have hp := hp.2 hc
        refine lv_iconst (v := 1) (pc := 49) hx hb d_X_deliver_49 (by decide) ?_
        refine lv_goto (pc := 50) (tgt := 54) hx hb d_X_deliver_50 rfl ?_
        exact ret_ir hC hr hlk hw hp d_X_deliver_54
    · have hp := hp.2 k16
      refine call_zm (pc := 43) (fun _ h => h) hw (fm_runA (x := (⟨"LossyHandshake$Side", "accept", "(LLossyHandshake$NetRecord;)Z"⟩ : MethodName)) (As := [.ref (b + a2)]) (rest := []) hC hw (c_Server_accept l D dA b n T R M sz s0 a2 _) cy_Server_accept hp rfl rfl rfl (by decide) (by decide) mw_329 mw_330 mw_333 mw_334 (rfl : classes[9]? = _) (by decide) k16 ⟨Nat.le_of_ble_eq_true rfl, Nat.le_of_ble_eq_true rfl⟩ rfl hl.1 rfl (Nat.le_of_ble_eq_true rfl) d_X_deliver_43 ⟨(Nat.le_of_ble_eq_true rfl), (Nat.le_of_ble_eq_true rfl)⟩) (fun r17 M18 H locs hp z19 hw => ?_)
      refine lv_if_eq (pc := 46) (tgt := 53) hx hb d_X_deliver_46 rfl (fun hc => ?_) (fun hc => ?_)
      · have hp := hp.1 hc
        refine lv_iconst (v := 0) (pc := 53) hx hb d_X_deliver_53 (by decide) ?_
        exact ret_ir hC hr hlk hw hp d_X_deliver_54
      · have hp := hp.2 hc
        refine lv_iconst (v := 1) (pc := 49) hx hb d_X_deliver_49 (by decide) ?_
        refine lv_goto (pc := 50) (tgt := 54) hx hb d_X_deliver_50 rfl ?_
        exact ret_ir hC hr hlk hw hp d_X_deliver_54
  refine lv_aload_n (pc := 0) hx hb d_X_deliver_0 rfl (lv_at hl 0 rfl) ?_
  obtain ⟨k1, hp⟩ := hp
  refine gf_X_21 (pc := 1) hC hw k0 (Nat.ne_of_gt k1.1) d_X_deliver_1 ?_
  refine lv_iload_n (pc := 4) hx hb d_X_deliver_4 rfl (lv_at hl 1 rfl) ?_
  refine call_zp (pc := 5) (fun _ h => h) hw (fm_runV (As := [.int x1]) (rest := []) hC hw (c_Net_has l D dA b n T R M sz (R h 0) x1 _) cy_Net_has hp rfl rfl mw_323 mw_324 mw_325 (rfl : classes[4]? = _) (by decide) k1 ⟨Nat.le_of_ble_eq_true rfl, Nat.le_of_ble_eq_true rfl⟩ rfl hl.1 rfl (Nat.le_of_ble_eq_true rfl) d_X_deliver_5 ⟨(Nat.le_of_ble_eq_true rfl), (Nat.le_of_ble_eq_true rfl)⟩) (fun r2 H locs hp z3 hw => ?_)
  refine lv_if_ne (pc := 8) (tgt := 13) hx hb d_X_deliver_8 rfl (fun hc => ?_) (fun hc => ?_)
  · have hp := hp.2 hc
    refine lv_aload_n (pc := 13) hx hb d_X_deliver_13 rfl (lv_at hl 0 rfl) ?_
    refine gf_X_21 (pc := 14) hC hw k0 (Nat.ne_of_gt k1.1) d_X_deliver_14 ?_
    refine lv_iload_n (pc := 17) hx hb d_X_deliver_17 rfl (lv_at hl 1 rfl) ?_
    refine call_rr (pc := 18) (fun _ h => h) hw (fm_runV (As := [.int x1]) (rest := []) hC hw (c_Net_takeOut l D dA b n T R M sz (R h 0) x1 _) cy_Net_takeOut hp rfl rfl mw_326 mw_327 mw_328 (rfl : classes[4]? = _) (by decide) k1 ⟨Nat.le_of_ble_eq_true rfl, Nat.le_of_ble_eq_true rfl⟩ rfl hl.1 rfl (Nat.le_of_ble_eq_true rfl) d_X_deliver_18 ⟨(Nat.le_of_ble_eq_true rfl), (Nat.le_of_ble_eq_true rfl)⟩) (fun r4 R5 M6 H locs hp z7 hw => ?_)
    refine lv_astore_n (pc := 21) hx hb d_X_deliver_21 rfl hl (by decide) rfl (fun ls hl => ?_)
    have hl : lv_has ls 4 [(2, .ref (b + r4)), (0, .ref (b + h)), (1, .int x1)] := hl
    refine lv_aload_n (pc := 22) hx hb d_X_deliver_22 rfl (lv_at hl 0 rfl) ?_
    obtain ⟨k8, hp⟩ := hp
    refine gf_X_75 (pc := 23) hC hw k8 d_X_deliver_23 ?_
    refine lv_if_ne (pc := 26) (tgt := 36) hx hb d_X_deliver_26 rfl (fun hc => ?_) (fun hc => ?_)
    · have hp := hp.2 hc
      refine lv_aload_n (pc := 36) hx hb d_X_deliver_36 rfl (lv_at hl 1 rfl) ?_
      obtain ⟨k20, hp⟩ := hp
      refine gf_X_30 (pc := 37) hC hw k0 (Nat.ne_of_gt k20.1) d_X_deliver_37 ?_
      exact B40  r4 (R5 h 1) R5 M6 ls _ _ k8 (Or.inl k20) (lv_sub hl [0] rfl) hw hp
    · have hp := hp.1 hc
      refine lv_aload_n (pc := 29) hx hb d_X_deliver_29 rfl (lv_at hl 1 rfl) ?_
      obtain ⟨k9, hp⟩ := hp
      refine gf_X_37 (pc := 30) hC hw k0 (Nat.ne_of_gt k9.1) d_X_deliver_30 ?_
      refine lv_goto (pc := 33) (tgt := 40) hx hb d_X_deliver_33 rfl ?_
      exact B40  r4 (R5 h 2) R5 M6 ls _ _ k8 (Or.inr k9) (lv_sub hl [0] rfl) hw hp
  · have hp := hp.1 hc
    refine lv_iconst (v := -1) (pc := 11) hx hb d_X_deliver_11 (by decide) ?_
    exact ret_ir hC hr hlk hw hp d_X_deliver_12
set_option maxHeartbeats 4000000 in
set_option maxRecDepth 100000 in
theorem c_X_drop (l : Launch) (D : va_G) (dA : Nat → ClassId) (b n : Nat) (T : mT) (R : mR) (M : mM) (sz : Nat) (h : Nat) (x1 : Int32) (Q : Int32 → mR → mM → Prop) : Met l y_X_drop (Cond.code y_X_drop b_X_drop 2 (some .boolean) :: tW) ({ frames := 1, cells := 0, slots := 0, locals := 23 }) (Pm D dA b n T R M sz [.ref (b + h), .int x1] (w_X_drop n T R M h x1 Q)) (Qzr D dA (An b n) b n T sz Q) 0 0 (An b n) := by
  refine fm_body (An b n) (by decide) (Nat.le_of_ble_eq_true rfl) (fun k h0 h1 => ⟨by omega, by omega⟩) (fun p e s m below meth c ls hC hr hlk hnm hl hw hp => ?_)
  have hx := hC.1.1
  have hb := hC.1.2.1
  have hl : lv_has ls 2 [(0, .ref (b + h)), (1, .int x1)] := hl
  generalize hav : (List.toArray ([.ref (b + h), .int x1] : List Value)) = av at hC ⊢
  unfold w_X_drop at hp
  obtain ⟨k0, hp⟩ := hp
  refine lv_aload_n (pc := 0) hx hb d_X_drop_0 rfl (lv_at hl 0 rfl) ?_
  obtain ⟨k1, hp⟩ := hp
  refine gf_X_21 (pc := 1) hC hw k0 (Nat.ne_of_gt k1.1) d_X_drop_1 ?_
  refine lv_iload_n (pc := 4) hx hb d_X_drop_4 rfl (lv_at hl 1 rfl) ?_
  refine call_zp (pc := 5) (fun _ h => h) hw (fm_runV (As := [.int x1]) (rest := []) hC hw (c_Net_has l D dA b n T R M sz (R h 0) x1 _) cy_Net_has hp rfl rfl mw_323 mw_324 mw_325 (rfl : classes[4]? = _) (by decide) k1 ⟨Nat.le_of_ble_eq_true rfl, Nat.le_of_ble_eq_true rfl⟩ rfl hl.1 rfl (Nat.le_of_ble_eq_true rfl) d_X_drop_5 ⟨(Nat.le_of_ble_eq_true rfl), (Nat.le_of_ble_eq_true rfl)⟩) (fun r2 H locs hp z3 hw => ?_)
  refine lv_if_ne (pc := 8) (tgt := 13) hx hb d_X_drop_8 rfl (fun hc => ?_) (fun hc => ?_)
  · have hp := hp.2 hc
    refine lv_aload_n (pc := 13) hx hb d_X_drop_13 rfl (lv_at hl 0 rfl) ?_
    refine gf_X_21 (pc := 14) hC hw k0 (Nat.ne_of_gt k1.1) d_X_drop_14 ?_
    refine lv_iload_n (pc := 17) hx hb d_X_drop_17 rfl (lv_at hl 1 rfl) ?_
    refine call_rr (pc := 18) (fun _ h => h) hw (fm_runV (As := [.int x1]) (rest := []) hC hw (c_Net_takeOut l D dA b n T R M sz (R h 0) x1 _) cy_Net_takeOut hp rfl rfl mw_326 mw_327 mw_328 (rfl : classes[4]? = _) (by decide) k1 ⟨Nat.le_of_ble_eq_true rfl, Nat.le_of_ble_eq_true rfl⟩ rfl hl.1 rfl (Nat.le_of_ble_eq_true rfl) d_X_drop_18 ⟨(Nat.le_of_ble_eq_true rfl), (Nat.le_of_ble_eq_true rfl)⟩) (fun r4 R5 M6 H locs hp z7 hw => ?_)
    refine lv_pop (pc := 21) hx hb d_X_drop_21 rfl ?_
    refine lv_iconst (v := 1) (pc := 22) hx hb d_X_drop_22 (by decide) ?_
    exact ret_zr hC hr hlk hw (Or.inr rfl) hp d_X_drop_23
  · have hp := hp.1 hc
    refine lv_iconst (v := 0) (pc := 11) hx hb d_X_drop_11 (by decide) ?_
    exact ret_zr hC hr hlk hw (Or.inl rfl) hp d_X_drop_12
set_option maxHeartbeats 4000000 in
set_option maxRecDepth 100000 in
theorem c_X_copy (l : Launch) (D : va_G) (dA : Nat → ClassId) (b n : Nat) (T : mT) (R : mR) (M : mM) (sz : Nat) (h : Nat) (x1 : Int32) (Q : Int32 → mM → Prop) : Met l y_X_copy (Cond.code y_X_copy b_X_copy 2 (some .boolean) :: tW) ({ frames := 4, cells := 0, slots := 0, locals := 79 }) (Pm D dA b n T R M sz [.ref (b + h), .int x1] (w_X_copy n T R M h x1 Q)) (Qzm D dA (An b n) b n T R sz Q) 0 0 (An b n) := by
  refine fm_body (An b n) (by decide) (Nat.le_of_ble_eq_true rfl) (fun k h0 h1 => ⟨by omega, by omega⟩) (fun p e s m below meth c ls hC hr hlk hnm hl hw hp => ?_)
  have hx := hC.1.1
  have hb := hC.1.2.1
  have hl : lv_has ls 2 [(0, .ref (b + h)), (1, .int x1)] := hl
  generalize hav : (List.toArray ([.ref (b + h), .int x1] : List Value)) = av at hC ⊢
  unfold w_X_copy at hp
  obtain ⟨k0, hp⟩ := hp
  refine lv_aload_n (pc := 0) hx hb d_X_copy_0 rfl (lv_at hl 0 rfl) ?_
  obtain ⟨k1, hp⟩ := hp
  refine gf_X_21 (pc := 1) hC hw k0 (Nat.ne_of_gt k1.1) d_X_copy_1 ?_
  refine lv_iload_n (pc := 4) hx hb d_X_copy_4 rfl (lv_at hl 1 rfl) ?_
  refine call_zp (pc := 5) (fun _ h => h) hw (fm_runV (As := [.int x1]) (rest := []) hC hw (c_Net_has l D dA b n T R M sz (R h 0) x1 _) cy_Net_has hp rfl rfl mw_323 mw_324 mw_325 (rfl : classes[4]? = _) (by decide) k1 ⟨Nat.le_of_ble_eq_true rfl, Nat.le_of_ble_eq_true rfl⟩ rfl hl.1 rfl (Nat.le_of_ble_eq_true rfl) d_X_copy_5 ⟨(Nat.le_of_ble_eq_true rfl), (Nat.le_of_ble_eq_true rfl)⟩) (fun r2 H locs hp z3 hw => ?_)
  refine lv_if_eq (pc := 8) (tgt := 26) hx hb d_X_copy_8 rfl (fun hc => ?_) (fun hc => ?_)
  · have hp := hp.1 hc
    refine lv_iconst (v := 0) (pc := 26) hx hb d_X_copy_26 (by decide) ?_
    exact ret_zm hC hr hlk hw (Or.inl rfl) hp d_X_copy_27
  · have hp := hp.2 hc
    refine lv_aload_n (pc := 11) hx hb d_X_copy_11 rfl (lv_at hl 0 rfl) ?_
    refine gf_X_21 (pc := 12) hC hw k0 (Nat.ne_of_gt k1.1) d_X_copy_12 ?_
    refine lv_iload_n (pc := 15) hx hb d_X_copy_15 rfl (lv_at hl 1 rfl) ?_
    refine call_zm (pc := 16) (fun _ h => h) hw (fm_runV (As := [.int x1]) (rest := []) hC hw (c_Net_appendLike l D dA b n T R M sz (R h 0) x1 _) cy_Net_appendLike hp rfl rfl mw_335 mw_336 mw_337 (rfl : classes[4]? = _) (by decide) k1 ⟨Nat.le_of_ble_eq_true rfl, Nat.le_of_ble_eq_true rfl⟩ rfl hl.1 rfl (Nat.le_of_ble_eq_true rfl) d_X_copy_16 ⟨(Nat.le_of_ble_eq_true rfl), (Nat.le_of_ble_eq_true rfl)⟩) (fun r4 M5 H locs hp z6 hw => ?_)
    refine lv_if_eq (pc := 19) (tgt := 26) hx hb d_X_copy_19 rfl (fun hc => ?_) (fun hc => ?_)
    · have hp := hp.1 hc
      refine lv_iconst (v := 0) (pc := 26) hx hb d_X_copy_26 (by decide) ?_
      exact ret_zm hC hr hlk hw (Or.inl rfl) hp d_X_copy_27
    · have hp := hp.2 hc
      refine lv_iconst (v := 1) (pc := 22) hx hb d_X_copy_22 (by decide) ?_
      refine lv_goto (pc := 23) (tgt := 27) hx hb d_X_copy_23 rfl ?_
      exact ret_zm hC hr hlk hw (Or.inr rfl) hp d_X_copy_27
set_option maxHeartbeats 4000000 in
set_option maxRecDepth 100000 in
theorem c_X_spoil (l : Launch) (D : va_G) (dA : Nat → ClassId) (b n : Nat) (T : mT) (R : mR) (M : mM) (sz : Nat) (h : Nat) (x1 : Int32) (Q : Int32 → mM → Prop) : Met l y_X_spoil (Cond.code y_X_spoil b_X_spoil 2 (some .boolean) :: tW) ({ frames := 1, cells := 0, slots := 0, locals := 21 }) (Pm D dA b n T R M sz [.ref (b + h), .int x1] (w_X_spoil n T R M h x1 Q)) (Qzm D dA (An b n) b n T R sz Q) 0 0 (An b n) := by
  refine fm_body (An b n) (by decide) (Nat.le_of_ble_eq_true rfl) (fun k h0 h1 => ⟨by omega, by omega⟩) (fun p e s m below meth c ls hC hr hlk hnm hl hw hp => ?_)
  have hx := hC.1.1
  have hb := hC.1.2.1
  have hl : lv_has ls 2 [(0, .ref (b + h)), (1, .int x1)] := hl
  generalize hav : (List.toArray ([.ref (b + h), .int x1] : List Value)) = av at hC ⊢
  unfold w_X_spoil at hp
  obtain ⟨k0, hp⟩ := hp
  refine lv_aload_n (pc := 0) hx hb d_X_spoil_0 rfl (lv_at hl 0 rfl) ?_
  obtain ⟨k1, hp⟩ := hp
  refine gf_X_21 (pc := 1) hC hw k0 (Nat.ne_of_gt k1.1) d_X_spoil_1 ?_
  refine lv_iload_n (pc := 4) hx hb d_X_spoil_4 rfl (lv_at hl 1 rfl) ?_
  refine call_zp (pc := 5) (fun _ h => h) hw (fm_runV (As := [.int x1]) (rest := []) hC hw (c_Net_has l D dA b n T R M sz (R h 0) x1 _) cy_Net_has hp rfl rfl mw_323 mw_324 mw_325 (rfl : classes[4]? = _) (by decide) k1 ⟨Nat.le_of_ble_eq_true rfl, Nat.le_of_ble_eq_true rfl⟩ rfl hl.1 rfl (Nat.le_of_ble_eq_true rfl) d_X_spoil_5 ⟨(Nat.le_of_ble_eq_true rfl), (Nat.le_of_ble_eq_true rfl)⟩) (fun r2 H locs hp z3 hw => ?_)
  refine lv_if_ne (pc := 8) (tgt := 13) hx hb d_X_spoil_8 rfl (fun hc => ?_) (fun hc => ?_)
  · have hp := hp.2 hc
    refine lv_aload_n (pc := 13) hx hb d_X_spoil_13 rfl (lv_at hl 0 rfl) ?_
    refine gf_X_21 (pc := 14) hC hw k0 (Nat.ne_of_gt k1.1) d_X_spoil_14 ?_
    obtain ⟨k4, hp⟩ := hp
    refine gf_X_87 (pc := 17) hC hw k1 (Nat.ne_of_gt k4.1) d_X_spoil_17 ?_
    refine lv_iload_n (pc := 20) hx hb d_X_spoil_20 rfl (lv_at hl 1 rfl) ?_
    obtain ⟨k5, hp⟩ := hp
    obtain ⟨k6, hp⟩ := hp
    refine fm_aald (pc := 21) hC hw 2 rfl (by decide) k4 k5 rfl (Nat.ne_of_gt k6.1) d_X_spoil_21 ?_
    refine lv_iconst (v := 1) (pc := 22) hx hb d_X_spoil_22 (by decide) ?_
    refine pf_X_91 (pc := 23) hC hw k6 (Or.inr rfl) d_X_spoil_23 (fun M7 H locs eM7 hw => ?_)
    have hp := hp M7 eM7
    refine lv_iconst (v := 1) (pc := 26) hx hb d_X_spoil_26 (by decide) ?_
    exact ret_zm hC hr hlk hw (Or.inr rfl) hp d_X_spoil_27
  · have hp := hp.1 hc
    refine lv_iconst (v := 0) (pc := 11) hx hb d_X_spoil_11 (by decide) ?_
    exact ret_zm hC hr hlk hw (Or.inl rfl) hp d_X_spoil_12
set_option maxHeartbeats 4000000 in
set_option maxRecDepth 100000 in
theorem c_X_waiting (l : Launch) (D : va_G) (dA : Nat → ClassId) (b n : Nat) (T : mT) (R : mR) (M : mM) (sz : Nat) (h : Nat) (Q : Int32 → Prop) : Met l y_X_waiting (Cond.code y_X_waiting b_X_waiting 1 (some .int) :: tW) ({ frames := 0, cells := 0, slots := 0, locals := 0 }) (Pm D dA b n T R M sz [.ref (b + h)] (w_X_waiting n T R M h Q)) (Qip D dA (An b n) b n T R M sz Q) 0 0 (An b n) := by
  refine fm_body (An b n) (by decide) (Nat.le_of_ble_eq_true rfl) (fun k h0 h1 => ⟨by omega, by omega⟩) (fun p e s m below meth c ls hC hr hlk hnm hl hw hp => ?_)
  have hx := hC.1.1
  have hb := hC.1.2.1
  have hl : lv_has ls 1 [(0, .ref (b + h))] := hl
  generalize hav : (List.toArray ([.ref (b + h)] : List Value)) = av at hC ⊢
  unfold w_X_waiting at hp
  obtain ⟨k0, hp⟩ := hp
  refine lv_aload_n (pc := 0) hx hb d_X_waiting_0 rfl (lv_at hl 0 rfl) ?_
  obtain ⟨k1, hp⟩ := hp
  refine gf_X_21 (pc := 1) hC hw k0 (Nat.ne_of_gt k1.1) d_X_waiting_1 ?_
  refine gf_X_95 (pc := 4) hC hw k1 d_X_waiting_4 ?_
  exact ret_ip hC hr hlk hw hp d_X_waiting_7
set_option maxHeartbeats 4000000 in
set_option maxRecDepth 100000 in
theorem c_X_lost (l : Launch) (D : va_G) (dA : Nat → ClassId) (b n : Nat) (T : mT) (R : mR) (M : mM) (sz : Nat) (h : Nat) (Q : Int32 → Prop) : Met l y_X_lost (Cond.code y_X_lost b_X_lost 1 (some .int) :: tW) ({ frames := 0, cells := 0, slots := 0, locals := 0 }) (Pm D dA b n T R M sz [.ref (b + h)] (w_X_lost n T R M h Q)) (Qip D dA (An b n) b n T R M sz Q) 0 0 (An b n) := by
  refine fm_body (An b n) (by decide) (Nat.le_of_ble_eq_true rfl) (fun k h0 h1 => ⟨by omega, by omega⟩) (fun p e s m below meth c ls hC hr hlk hnm hl hw hp => ?_)
  have hx := hC.1.1
  have hb := hC.1.2.1
  have hl : lv_has ls 1 [(0, .ref (b + h))] := hl
  generalize hav : (List.toArray ([.ref (b + h)] : List Value)) = av at hC ⊢
  unfold w_X_lost at hp
  obtain ⟨k0, hp⟩ := hp
  refine lv_aload_n (pc := 0) hx hb d_X_lost_0 rfl (lv_at hl 0 rfl) ?_
  obtain ⟨k1, hp⟩ := hp
  refine gf_X_21 (pc := 1) hC hw k0 (Nat.ne_of_gt k1.1) d_X_lost_1 ?_
  refine gf_X_98 (pc := 4) hC hw k1 d_X_lost_4 ?_
  exact ret_ip hC hr hlk hw hp d_X_lost_7
set_option maxHeartbeats 4000000 in
set_option maxRecDepth 100000 in
theorem c_X_record (l : Launch) (D : va_G) (dA : Nat → ClassId) (b n : Nat) (T : mT) (R : mR) (M : mM) (sz : Nat) (h : Nat) (x1 : Int32) (Q : Int32 → Prop) : Met l y_X_record (Cond.code y_X_record b_X_record 2 (some .int) :: tW) ({ frames := 1, cells := 0, slots := 0, locals := 21 }) (Pm D dA b n T R M sz [.ref (b + h), .int x1] (w_X_record n T R M h x1 Q)) (Qip D dA (An b n) b n T R M sz Q) 0 0 (An b n) := by
  refine fm_body (An b n) (by decide) (Nat.le_of_ble_eq_true rfl) (fun k h0 h1 => ⟨by omega, by omega⟩) (fun p e s m below meth c ls hC hr hlk hnm hl hw hp => ?_)
  have hx := hC.1.1
  have hb := hC.1.2.1
  have hl : lv_has ls 2 [(0, .ref (b + h)), (1, .int x1)] := hl
  generalize hav : (List.toArray ([.ref (b + h), .int x1] : List Value)) = av at hC ⊢
  unfold w_X_record at hp
  obtain ⟨k0, hp⟩ := hp
  refine lv_aload_n (pc := 0) hx hb d_X_record_0 rfl (lv_at hl 0 rfl) ?_
  obtain ⟨k1, hp⟩ := hp
  refine gf_X_21 (pc := 1) hC hw k0 (Nat.ne_of_gt k1.1) d_X_record_1 ?_
  refine lv_iload_n (pc := 4) hx hb d_X_record_4 rfl (lv_at hl 1 rfl) ?_
  refine call_zp (pc := 5) (fun _ h => h) hw (fm_runV (As := [.int x1]) (rest := []) hC hw (c_Net_has l D dA b n T R M sz (R h 0) x1 _) cy_Net_has hp rfl rfl mw_323 mw_324 mw_325 (rfl : classes[4]? = _) (by decide) k1 ⟨Nat.le_of_ble_eq_true rfl, Nat.le_of_ble_eq_true rfl⟩ rfl hl.1 rfl (Nat.le_of_ble_eq_true rfl) d_X_record_5 ⟨(Nat.le_of_ble_eq_true rfl), (Nat.le_of_ble_eq_true rfl)⟩) (fun r2 H locs hp z3 hw => ?_)
  refine lv_if_eq (pc := 8) (tgt := 26) hx hb d_X_record_8 rfl (fun hc => ?_) (fun hc => ?_)
  · have hp := hp.1 hc
    refine lv_iconst (v := -1) (pc := 26) hx hb d_X_record_26 (by decide) ?_
    exact ret_ip hC hr hlk hw hp d_X_record_27
  · have hp := hp.2 hc
    refine lv_aload_n (pc := 11) hx hb d_X_record_11 rfl (lv_at hl 0 rfl) ?_
    refine gf_X_21 (pc := 12) hC hw k0 (Nat.ne_of_gt k1.1) d_X_record_12 ?_
    obtain ⟨k4, hp⟩ := hp
    refine gf_X_87 (pc := 15) hC hw k1 (Nat.ne_of_gt k4.1) d_X_record_15 ?_
    refine lv_iload_n (pc := 18) hx hb d_X_record_18 rfl (lv_at hl 1 rfl) ?_
    obtain ⟨k5, hp⟩ := hp
    obtain ⟨k6, hp⟩ := hp
    refine fm_aald (pc := 19) hC hw 2 rfl (by decide) k4 k5 rfl (Nat.ne_of_gt k6.1) d_X_record_19 ?_
    refine call_ip (pc := 20) (fun _ h => h) hw (fm_runV (As := []) (rest := []) hC hw (c_Rec_headline l D dA b n T R M sz (R (R (R h 0) 0) x1.toNatClampNeg) _) cy_Rec_headline hp rfl rfl mw_338 mw_339 mw_340 (rfl : classes[3]? = _) (by decide) k6 ⟨Nat.le_of_ble_eq_true rfl, Nat.le_of_ble_eq_true rfl⟩ rfl hl.1 rfl (Nat.le_of_ble_eq_true rfl) d_X_record_20 ⟨(Nat.le_of_ble_eq_true rfl), (Nat.le_of_ble_eq_true rfl)⟩) (fun r7 H locs hp hw => ?_)
    refine lv_goto (pc := 23) (tgt := 27) hx hb d_X_record_23 rfl ?_
    exact ret_ip hC hr hlk hw hp d_X_record_27
set_option maxHeartbeats 4000000 in
set_option maxRecDepth 100000 in
theorem c_X_content (l : Launch) (D : va_G) (dA : Nat → ClassId) (b n : Nat) (T : mT) (R : mR) (M : mM) (sz : Nat) (h : Nat) (x1 : Int32) (Q : Int32 → Prop) : Met l y_X_content (Cond.code y_X_content b_X_content 2 (some .int) :: tW) ({ frames := 1, cells := 0, slots := 0, locals := 21 }) (Pm D dA b n T R M sz [.ref (b + h), .int x1] (w_X_content n T R M h x1 Q)) (Qip D dA (An b n) b n T R M sz Q) 0 0 (An b n) := by
  refine fm_body (An b n) (by decide) (Nat.le_of_ble_eq_true rfl) (fun k h0 h1 => ⟨by omega, by omega⟩) (fun p e s m below meth c ls hC hr hlk hnm hl hw hp => ?_)
  have hx := hC.1.1
  have hb := hC.1.2.1
  have hl : lv_has ls 2 [(0, .ref (b + h)), (1, .int x1)] := hl
  generalize hav : (List.toArray ([.ref (b + h), .int x1] : List Value)) = av at hC ⊢
  unfold w_X_content at hp
  obtain ⟨k0, hp⟩ := hp
  refine lv_aload_n (pc := 0) hx hb d_X_content_0 rfl (lv_at hl 0 rfl) ?_
  obtain ⟨k1, hp⟩ := hp
  refine gf_X_21 (pc := 1) hC hw k0 (Nat.ne_of_gt k1.1) d_X_content_1 ?_
  refine lv_iload_n (pc := 4) hx hb d_X_content_4 rfl (lv_at hl 1 rfl) ?_
  refine call_zp (pc := 5) (fun _ h => h) hw (fm_runV (As := [.int x1]) (rest := []) hC hw (c_Net_has l D dA b n T R M sz (R h 0) x1 _) cy_Net_has hp rfl rfl mw_323 mw_324 mw_325 (rfl : classes[4]? = _) (by decide) k1 ⟨Nat.le_of_ble_eq_true rfl, Nat.le_of_ble_eq_true rfl⟩ rfl hl.1 rfl (Nat.le_of_ble_eq_true rfl) d_X_content_5 ⟨(Nat.le_of_ble_eq_true rfl), (Nat.le_of_ble_eq_true rfl)⟩) (fun r2 H locs hp z3 hw => ?_)
  refine lv_if_eq (pc := 8) (tgt := 26) hx hb d_X_content_8 rfl (fun hc => ?_) (fun hc => ?_)
  · have hp := hp.1 hc
    refine lv_iconst (v := -1) (pc := 26) hx hb d_X_content_26 (by decide) ?_
    exact ret_ip hC hr hlk hw hp d_X_content_27
  · have hp := hp.2 hc
    refine lv_aload_n (pc := 11) hx hb d_X_content_11 rfl (lv_at hl 0 rfl) ?_
    refine gf_X_21 (pc := 12) hC hw k0 (Nat.ne_of_gt k1.1) d_X_content_12 ?_
    obtain ⟨k4, hp⟩ := hp
    refine gf_X_87 (pc := 15) hC hw k1 (Nat.ne_of_gt k4.1) d_X_content_15 ?_
    refine lv_iload_n (pc := 18) hx hb d_X_content_18 rfl (lv_at hl 1 rfl) ?_
    obtain ⟨k5, hp⟩ := hp
    obtain ⟨k6, hp⟩ := hp
    refine fm_aald (pc := 19) hC hw 2 rfl (by decide) k4 k5 rfl (Nat.ne_of_gt k6.1) d_X_content_19 ?_
    refine call_ip (pc := 20) (fun _ h => h) hw (fm_runV (As := []) (rest := []) hC hw (c_Rec_summary l D dA b n T R M sz (R (R (R h 0) 0) x1.toNatClampNeg) _) cy_Rec_summary hp rfl rfl mw_341 mw_342 mw_343 (rfl : classes[3]? = _) (by decide) k6 ⟨Nat.le_of_ble_eq_true rfl, Nat.le_of_ble_eq_true rfl⟩ rfl hl.1 rfl (Nat.le_of_ble_eq_true rfl) d_X_content_20 ⟨(Nat.le_of_ble_eq_true rfl), (Nat.le_of_ble_eq_true rfl)⟩) (fun r7 H locs hp hw => ?_)
    refine lv_goto (pc := 23) (tgt := 27) hx hb d_X_content_23 rfl ?_
    exact ret_ip hC hr hlk hw hp d_X_content_27
set_option maxHeartbeats 4000000 in
set_option maxRecDepth 100000 in
theorem c_X_byteOf (l : Launch) (D : va_G) (dA : Nat → ClassId) (b n : Nat) (T : mT) (R : mR) (M : mM) (sz : Nat) (h : Nat) (x1 : Int32) (x2 : Int32) (Q : Int32 → Prop) : Met l y_X_byteOf (Cond.code y_X_byteOf b_X_byteOf 3 (some .int) :: tW) ({ frames := 1, cells := 0, slots := 0, locals := 21 }) (Pm D dA b n T R M sz [.ref (b + h), .int x1, .int x2] (w_X_byteOf n T R M h x1 x2 Q)) (Qip D dA (An b n) b n T R M sz Q) 0 0 (An b n) := by
  refine fm_body (An b n) (by decide) (Nat.le_of_ble_eq_true rfl) (fun k h0 h1 => ⟨by omega, by omega⟩) (fun p e s m below meth c ls hC hr hlk hnm hl hw hp => ?_)
  have hx := hC.1.1
  have hb := hC.1.2.1
  have hl : lv_has ls 3 [(0, .ref (b + h)), (1, .int x1), (2, .int x2)] := hl
  generalize hav : (List.toArray ([.ref (b + h), .int x1, .int x2] : List Value)) = av at hC ⊢
  unfold w_X_byteOf at hp
  obtain ⟨k0, hp⟩ := hp
  refine lv_aload_n (pc := 0) hx hb d_X_byteOf_0 rfl (lv_at hl 0 rfl) ?_
  obtain ⟨k1, hp⟩ := hp
  refine gf_X_21 (pc := 1) hC hw k0 (Nat.ne_of_gt k1.1) d_X_byteOf_1 ?_
  refine lv_iload_n (pc := 4) hx hb d_X_byteOf_4 rfl (lv_at hl 1 rfl) ?_
  refine call_zp (pc := 5) (fun _ h => h) hw (fm_runV (As := [.int x1]) (rest := []) hC hw (c_Net_has l D dA b n T R M sz (R h 0) x1 _) cy_Net_has hp rfl rfl mw_323 mw_324 mw_325 (rfl : classes[4]? = _) (by decide) k1 ⟨Nat.le_of_ble_eq_true rfl, Nat.le_of_ble_eq_true rfl⟩ rfl hl.1 rfl (Nat.le_of_ble_eq_true rfl) d_X_byteOf_5 ⟨(Nat.le_of_ble_eq_true rfl), (Nat.le_of_ble_eq_true rfl)⟩) (fun r2 H locs hp z3 hw => ?_)
  refine lv_if_eq (pc := 8) (tgt := 27) hx hb d_X_byteOf_8 rfl (fun hc => ?_) (fun hc => ?_)
  · have hp := hp.1 hc
    refine lv_iconst (v := -1) (pc := 27) hx hb d_X_byteOf_27 (by decide) ?_
    exact ret_ip hC hr hlk hw hp d_X_byteOf_28
  · have hp := hp.2 hc
    refine lv_aload_n (pc := 11) hx hb d_X_byteOf_11 rfl (lv_at hl 0 rfl) ?_
    refine gf_X_21 (pc := 12) hC hw k0 (Nat.ne_of_gt k1.1) d_X_byteOf_12 ?_
    obtain ⟨k4, hp⟩ := hp
    refine gf_X_87 (pc := 15) hC hw k1 (Nat.ne_of_gt k4.1) d_X_byteOf_15 ?_
    refine lv_iload_n (pc := 18) hx hb d_X_byteOf_18 rfl (lv_at hl 1 rfl) ?_
    obtain ⟨k5, hp⟩ := hp
    obtain ⟨k6, hp⟩ := hp
    refine fm_aald (pc := 19) hC hw 2 rfl (by decide) k4 k5 rfl (Nat.ne_of_gt k6.1) d_X_byteOf_19 ?_
    refine lv_iload_n (pc := 20) hx hb d_X_byteOf_20 rfl (lv_at hl 2 rfl) ?_
    refine call_ip (pc := 21) (fun _ h => h) hw (fm_runV (As := [.int x2]) (rest := []) hC hw (c_Rec_fragmentByte l D dA b n T R M sz (R (R (R h 0) 0) x1.toNatClampNeg) x2 _) cy_Rec_fragmentByte hp rfl rfl mw_344 mw_345 mw_346 (rfl : classes[3]? = _) (by decide) k6 ⟨Nat.le_of_ble_eq_true rfl, Nat.le_of_ble_eq_true rfl⟩ rfl hl.1 rfl (Nat.le_of_ble_eq_true rfl) d_X_byteOf_21 ⟨(Nat.le_of_ble_eq_true rfl), (Nat.le_of_ble_eq_true rfl)⟩) (fun r7 H locs hp hw => ?_)
    refine lv_goto (pc := 24) (tgt := 28) hx hb d_X_byteOf_24 rfl ?_
    exact ret_ip hC hr hlk hw hp d_X_byteOf_28
set_option maxHeartbeats 4000000 in
set_option maxRecDepth 100000 in
theorem c_X_state (l : Launch) (D : va_G) (dA : Nat → ClassId) (b n : Nat) (T : mT) (R : mR) (M : mM) (sz : Nat) (h : Nat) (x1 : Int32) (Q : Int32 → Prop) : Met l y_X_state (Cond.code y_X_state b_X_state 2 (some .int) :: tW) ({ frames := 1, cells := 0, slots := 0, locals := 21 }) (Pm D dA b n T R M sz [.ref (b + h), .int x1] (w_X_state n T R M h x1 Q)) (Qip D dA (An b n) b n T R M sz Q) 0 0 (An b n) := by
  refine fm_body (An b n) (by decide) (Nat.le_of_ble_eq_true rfl) (fun k h0 h1 => ⟨by omega, by omega⟩) (fun p e s m below meth c ls hC hr hlk hnm hl hw hp => ?_)
  have hx := hC.1.1
  have hb := hC.1.2.1
  have hl : lv_has ls 2 [(0, .ref (b + h)), (1, .int x1)] := hl
  generalize hav : (List.toArray ([.ref (b + h), .int x1] : List Value)) = av at hC ⊢
  unfold w_X_state at hp
  obtain ⟨k0, hp⟩ := hp
  refine lv_iload_n (pc := 0) hx hb d_X_state_0 rfl (lv_at hl 1 rfl) ?_
  refine call_zp (pc := 1) (fun _ h => h) hw (fm_runS (As := [.int x1]) (rest := []) hC hw (c_X_isSide l D dA b n T R M sz x1 _) cy_X_isSide hp rfl rfl mw_313 mw_314 ⟨Nat.le_of_ble_eq_true rfl, Nat.le_of_ble_eq_true rfl⟩ rfl hl.1 rfl (Nat.le_of_ble_eq_true rfl) d_X_state_1 ⟨(Nat.le_of_ble_eq_true rfl), (Nat.le_of_ble_eq_true rfl)⟩) (fun r1 H locs hp z2 hw => ?_)
  refine lv_if_eq (pc := 4) (tgt := 18) hx hb d_X_state_4 rfl (fun hc => ?_) (fun hc => ?_)
  · have hp := hp.1 hc
    refine lv_iconst (v := -1) (pc := 18) hx hb d_X_state_18 (by decide) ?_
    exact ret_ip hC hr hlk hw hp d_X_state_19
  · have hp := hp.2 hc
    refine lv_aload_n (pc := 7) hx hb d_X_state_7 rfl (lv_at hl 0 rfl) ?_
    refine lv_iload_n (pc := 8) hx hb d_X_state_8 rfl (lv_at hl 1 rfl) ?_
    refine call_rp (pc := 9) (fun _ h => h) hw (fm_runV (As := [.int x1]) (rest := []) hC hw (c_X_sideOf l D dA b n T R M sz h x1 _) cy_X_sideOf hp rfl rfl mw_315 mw_316 mw_317 (rfl : classes[10]? = _) (by decide) k0 ⟨Nat.le_of_ble_eq_true rfl, Nat.le_of_ble_eq_true rfl⟩ rfl hl.1 rfl (Nat.le_of_ble_eq_true rfl) d_X_state_9 ⟨(Nat.le_of_ble_eq_true rfl), (Nat.le_of_ble_eq_true rfl)⟩) (fun r3 H locs hp z4 hw => ?_)
    obtain ⟨k5, hp⟩ := hp
    refine gf_X_112 (pc := 12) hC hw k5 d_X_state_12 ?_
    refine lv_goto (pc := 15) (tgt := 19) hx hb d_X_state_15 rfl ?_
    exact ret_ip hC hr hlk hw hp d_X_state_19
set_option maxHeartbeats 4000000 in
set_option maxRecDepth 100000 in
theorem c_X_transcript (l : Launch) (D : va_G) (dA : Nat → ClassId) (b n : Nat) (T : mT) (R : mR) (M : mM) (sz : Nat) (h : Nat) (x1 : Int32) (Q : Int32 → Prop) : Met l y_X_transcript (Cond.code y_X_transcript b_X_transcript 2 (some .int) :: tW) ({ frames := 1, cells := 0, slots := 0, locals := 21 }) (Pm D dA b n T R M sz [.ref (b + h), .int x1] (w_X_transcript n T R M h x1 Q)) (Qip D dA (An b n) b n T R M sz Q) 0 0 (An b n) := by
  refine fm_body (An b n) (by decide) (Nat.le_of_ble_eq_true rfl) (fun k h0 h1 => ⟨by omega, by omega⟩) (fun p e s m below meth c ls hC hr hlk hnm hl hw hp => ?_)
  have hx := hC.1.1
  have hb := hC.1.2.1
  have hl : lv_has ls 2 [(0, .ref (b + h)), (1, .int x1)] := hl
  generalize hav : (List.toArray ([.ref (b + h), .int x1] : List Value)) = av at hC ⊢
  unfold w_X_transcript at hp
  obtain ⟨k0, hp⟩ := hp
  refine lv_iload_n (pc := 0) hx hb d_X_transcript_0 rfl (lv_at hl 1 rfl) ?_
  refine call_zp (pc := 1) (fun _ h => h) hw (fm_runS (As := [.int x1]) (rest := []) hC hw (c_X_isSide l D dA b n T R M sz x1 _) cy_X_isSide hp rfl rfl mw_313 mw_314 ⟨Nat.le_of_ble_eq_true rfl, Nat.le_of_ble_eq_true rfl⟩ rfl hl.1 rfl (Nat.le_of_ble_eq_true rfl) d_X_transcript_1 ⟨(Nat.le_of_ble_eq_true rfl), (Nat.le_of_ble_eq_true rfl)⟩) (fun r1 H locs hp z2 hw => ?_)
  refine lv_if_eq (pc := 4) (tgt := 18) hx hb d_X_transcript_4 rfl (fun hc => ?_) (fun hc => ?_)
  · have hp := hp.1 hc
    refine lv_iconst (v := 0) (pc := 18) hx hb d_X_transcript_18 (by decide) ?_
    exact ret_ip hC hr hlk hw hp d_X_transcript_19
  · have hp := hp.2 hc
    refine lv_aload_n (pc := 7) hx hb d_X_transcript_7 rfl (lv_at hl 0 rfl) ?_
    refine lv_iload_n (pc := 8) hx hb d_X_transcript_8 rfl (lv_at hl 1 rfl) ?_
    refine call_rp (pc := 9) (fun _ h => h) hw (fm_runV (As := [.int x1]) (rest := []) hC hw (c_X_sideOf l D dA b n T R M sz h x1 _) cy_X_sideOf hp rfl rfl mw_315 mw_316 mw_317 (rfl : classes[10]? = _) (by decide) k0 ⟨Nat.le_of_ble_eq_true rfl, Nat.le_of_ble_eq_true rfl⟩ rfl hl.1 rfl (Nat.le_of_ble_eq_true rfl) d_X_transcript_9 ⟨(Nat.le_of_ble_eq_true rfl), (Nat.le_of_ble_eq_true rfl)⟩) (fun r3 H locs hp z4 hw => ?_)
    obtain ⟨k5, hp⟩ := hp
    refine gf_X_113 (pc := 12) hC hw k5 d_X_transcript_12 ?_
    refine lv_goto (pc := 15) (tgt := 19) hx hb d_X_transcript_15 rfl ?_
    exact ret_ip hC hr hlk hw hp d_X_transcript_19
set_option maxHeartbeats 4000000 in
set_option maxRecDepth 100000 in
theorem c_X_open (l : Launch) (D : va_G) (dA : Nat → ClassId) (b n : Nat) (T : mT) (R : mR) (M : mM) (sz : Nat) (h : Nat) (x1 : Int32) (Q : Int32 → Prop) : Met l y_X_open (Cond.code y_X_open b_X_open 2 (some .int) :: tW) ({ frames := 1, cells := 0, slots := 0, locals := 22 }) (Pm D dA b n T R M sz [.ref (b + h), .int x1] (w_X_open n T R M h x1 Q)) (Qip D dA (An b n) b n T R M sz Q) 0 0 (An b n) := by
  refine fm_body (An b n) (by decide) (Nat.le_of_ble_eq_true rfl) (fun k h0 h1 => ⟨by omega, by omega⟩) (fun p e s m below meth c ls hC hr hlk hnm hl hw hp => ?_)
  have hx := hC.1.1
  have hb := hC.1.2.1
  have hl : lv_has ls 2 [(0, .ref (b + h)), (1, .int x1)] := hl
  generalize hav : (List.toArray ([.ref (b + h), .int x1] : List Value)) = av at hC ⊢
  unfold w_X_open at hp
  obtain ⟨k0, hp⟩ := hp
  refine lv_iload_n (pc := 0) hx hb d_X_open_0 rfl (lv_at hl 1 rfl) ?_
  refine call_zp (pc := 1) (fun _ h => h) hw (fm_runS (As := [.int x1]) (rest := []) hC hw (c_X_isSide l D dA b n T R M sz x1 _) cy_X_isSide hp rfl rfl mw_313 mw_314 ⟨Nat.le_of_ble_eq_true rfl, Nat.le_of_ble_eq_true rfl⟩ rfl hl.1 rfl (Nat.le_of_ble_eq_true rfl) d_X_open_1 ⟨(Nat.le_of_ble_eq_true rfl), (Nat.le_of_ble_eq_true rfl)⟩) (fun r1 H locs hp z2 hw => ?_)
  refine lv_if_eq (pc := 4) (tgt := 21) hx hb d_X_open_4 rfl (fun hc => ?_) (fun hc => ?_)
  · have hp := hp.1 hc
    refine lv_iconst (v := -1) (pc := 21) hx hb d_X_open_21 (by decide) ?_
    exact ret_ip hC hr hlk hw hp d_X_open_22
  · have hp := hp.2 hc
    refine lv_aload_n (pc := 7) hx hb d_X_open_7 rfl (lv_at hl 0 rfl) ?_
    refine lv_iload_n (pc := 8) hx hb d_X_open_8 rfl (lv_at hl 1 rfl) ?_
    refine call_rp (pc := 9) (fun _ h => h) hw (fm_runV (As := [.int x1]) (rest := []) hC hw (c_X_sideOf l D dA b n T R M sz h x1 _) cy_X_sideOf hp rfl rfl mw_315 mw_316 mw_317 (rfl : classes[10]? = _) (by decide) k0 ⟨Nat.le_of_ble_eq_true rfl, Nat.le_of_ble_eq_true rfl⟩ rfl hl.1 rfl (Nat.le_of_ble_eq_true rfl) d_X_open_9 ⟨(Nat.le_of_ble_eq_true rfl), (Nat.le_of_ble_eq_true rfl)⟩) (fun r3 H locs hp z4 hw => ?_)
    obtain ⟨k5, hp⟩ := hp
    obtain ⟨k6, hp⟩ := hp
    refine gf_X_116 (pc := 12) hC hw k5 (Nat.ne_of_gt k6.1) d_X_open_12 ?_
    refine call_ip (pc := 15) (fun _ h => h) hw (fm_runV (As := []) (rest := []) hC hw (c_Flight_countOpen l D dA b n T R M sz (R r3 3) _) cy_Flight_countOpen hp rfl rfl mw_347 mw_125 mw_126 (rfl : classes[2]? = _) (by decide) k6 ⟨Nat.le_of_ble_eq_true rfl, Nat.le_of_ble_eq_true rfl⟩ rfl hl.1 rfl (Nat.le_of_ble_eq_true rfl) d_X_open_15 ⟨(Nat.le_of_ble_eq_true rfl), (Nat.le_of_ble_eq_true rfl)⟩) (fun r7 H locs hp hw => ?_)
    refine lv_goto (pc := 18) (tgt := 22) hx hb d_X_open_18 rfl ?_
    exact ret_ip hC hr hlk hw hp d_X_open_22
set_option maxHeartbeats 4000000 in
set_option maxRecDepth 100000 in
theorem c_X_kept (l : Launch) (D : va_G) (dA : Nat → ClassId) (b n : Nat) (T : mT) (R : mR) (M : mM) (sz : Nat) (h : Nat) (x1 : Int32) (Q : Int32 → Prop) : Met l y_X_kept (Cond.code y_X_kept b_X_kept 2 (some .int) :: tW) ({ frames := 2, cells := 0, slots := 0, locals := 43 }) (Pm D dA b n T R M sz [.ref (b + h), .int x1] (w_X_kept n T R M h x1 Q)) (Qip D dA (An b n) b n T R M sz Q) 0 0 (An b n) := by
  refine fm_body (An b n) (by decide) (Nat.le_of_ble_eq_true rfl) (fun k h0 h1 => ⟨by omega, by omega⟩) (fun p e s m below meth c ls hC hr hlk hnm hl hw hp => ?_)
  have hx := hC.1.1
  have hb := hC.1.2.1
  have hl : lv_has ls 2 [(0, .ref (b + h)), (1, .int x1)] := hl
  generalize hav : (List.toArray ([.ref (b + h), .int x1] : List Value)) = av at hC ⊢
  unfold w_X_kept at hp
  obtain ⟨k0, hp⟩ := hp
  refine lv_iload_n (pc := 0) hx hb d_X_kept_0 rfl (lv_at hl 1 rfl) ?_
  refine call_zp (pc := 1) (fun _ h => h) hw (fm_runS (As := [.int x1]) (rest := []) hC hw (c_X_isSide l D dA b n T R M sz x1 _) cy_X_isSide hp rfl rfl mw_313 mw_314 ⟨Nat.le_of_ble_eq_true rfl, Nat.le_of_ble_eq_true rfl⟩ rfl hl.1 rfl (Nat.le_of_ble_eq_true rfl) d_X_kept_1 ⟨(Nat.le_of_ble_eq_true rfl), (Nat.le_of_ble_eq_true rfl)⟩) (fun r1 H locs hp z2 hw => ?_)
  refine lv_if_ne (pc := 4) (tgt := 9) hx hb d_X_kept_4 rfl (fun hc => ?_) (fun hc => ?_)
  · have hp := hp.2 hc
    refine lv_iload_n (pc := 9) hx hb d_X_kept_9 rfl (lv_at hl 1 rfl) ?_
    refine lv_if_ne (pc := 10) (tgt := 26) hx hb d_X_kept_10 rfl (fun hc => ?_) (fun hc => ?_)
    · have hp := hp.2 hc
      refine lv_iconst (v := 0) (pc := 26) hx hb d_X_kept_26 (by decide) ?_
      exact ret_ip hC hr hlk hw hp d_X_kept_27
    · have hp := hp.1 hc
      refine lv_aload_n (pc := 13) hx hb d_X_kept_13 rfl (lv_at hl 0 rfl) ?_
      obtain ⟨k3, hp⟩ := hp
      refine gf_X_30 (pc := 14) hC hw k0 (Nat.ne_of_gt k3.1) d_X_kept_14 ?_
      obtain ⟨k4, hp⟩ := hp
      refine gf_X_125 (pc := 17) hC hw k3 (Nat.ne_of_gt k4.1) d_X_kept_17 ?_
      refine call_ip (pc := 20) (fun _ h => h) hw (fm_runV (As := []) (rest := []) hC hw (c_Asm_countUntaken l D dA b n T R M sz (R (R h 1) 18) _) cy_Asm_countUntaken hp rfl rfl mw_348 mw_349 mw_350 (rfl : classes[7]? = _) (by decide) k4 ⟨Nat.le_of_ble_eq_true rfl, Nat.le_of_ble_eq_true rfl⟩ rfl hl.1 rfl (Nat.le_of_ble_eq_true rfl) d_X_kept_20 ⟨(Nat.le_of_ble_eq_true rfl), (Nat.le_of_ble_eq_true rfl)⟩) (fun r5 H locs hp hw => ?_)
      refine lv_goto (pc := 23) (tgt := 27) hx hb d_X_kept_23 rfl ?_
      exact ret_ip hC hr hlk hw hp d_X_kept_27
  · have hp := hp.1 hc
    refine lv_iconst (v := -1) (pc := 7) hx hb d_X_kept_7 (by decide) ?_
    exact ret_ip hC hr hlk hw hp d_X_kept_8
set_option maxHeartbeats 4000000 in
set_option maxRecDepth 100000 in
theorem c_X_received (l : Launch) (D : va_G) (dA : Nat → ClassId) (b n : Nat) (T : mT) (R : mR) (M : mM) (sz : Nat) (h : Nat) (x1 : Int32) (Q : Int32 → Prop) : Met l y_X_received (Cond.code y_X_received b_X_received 2 (some .int) :: tW) ({ frames := 1, cells := 0, slots := 0, locals := 21 }) (Pm D dA b n T R M sz [.ref (b + h), .int x1] (w_X_received n T R M h x1 Q)) (Qip D dA (An b n) b n T R M sz Q) 0 0 (An b n) := by
  refine fm_body (An b n) (by decide) (Nat.le_of_ble_eq_true rfl) (fun k h0 h1 => ⟨by omega, by omega⟩) (fun p e s m below meth c ls hC hr hlk hnm hl hw hp => ?_)
  have hx := hC.1.1
  have hb := hC.1.2.1
  have hl : lv_has ls 2 [(0, .ref (b + h)), (1, .int x1)] := hl
  generalize hav : (List.toArray ([.ref (b + h), .int x1] : List Value)) = av at hC ⊢
  unfold w_X_received at hp
  obtain ⟨k0, hp⟩ := hp
  refine lv_iload_n (pc := 0) hx hb d_X_received_0 rfl (lv_at hl 1 rfl) ?_
  refine call_zp (pc := 1) (fun _ h => h) hw (fm_runS (As := [.int x1]) (rest := []) hC hw (c_X_isSide l D dA b n T R M sz x1 _) cy_X_isSide hp rfl rfl mw_313 mw_314 ⟨Nat.le_of_ble_eq_true rfl, Nat.le_of_ble_eq_true rfl⟩ rfl hl.1 rfl (Nat.le_of_ble_eq_true rfl) d_X_received_1 ⟨(Nat.le_of_ble_eq_true rfl), (Nat.le_of_ble_eq_true rfl)⟩) (fun r1 H locs hp z2 hw => ?_)
  refine lv_if_eq (pc := 4) (tgt := 18) hx hb d_X_received_4 rfl (fun hc => ?_) (fun hc => ?_)
  · have hp := hp.1 hc
    refine lv_iconst (v := -1) (pc := 18) hx hb d_X_received_18 (by decide) ?_
    exact ret_ip hC hr hlk hw hp d_X_received_19
  · have hp := hp.2 hc
    refine lv_aload_n (pc := 7) hx hb d_X_received_7 rfl (lv_at hl 0 rfl) ?_
    refine lv_iload_n (pc := 8) hx hb d_X_received_8 rfl (lv_at hl 1 rfl) ?_
    refine call_rp (pc := 9) (fun _ h => h) hw (fm_runV (As := [.int x1]) (rest := []) hC hw (c_X_sideOf l D dA b n T R M sz h x1 _) cy_X_sideOf hp rfl rfl mw_315 mw_316 mw_317 (rfl : classes[10]? = _) (by decide) k0 ⟨Nat.le_of_ble_eq_true rfl, Nat.le_of_ble_eq_true rfl⟩ rfl hl.1 rfl (Nat.le_of_ble_eq_true rfl) d_X_received_9 ⟨(Nat.le_of_ble_eq_true rfl), (Nat.le_of_ble_eq_true rfl)⟩) (fun r3 H locs hp z4 hw => ?_)
    obtain ⟨k5, hp⟩ := hp
    refine gf_X_134 (pc := 12) hC hw k5 d_X_received_12 ?_
    refine lv_goto (pc := 15) (tgt := 19) hx hb d_X_received_15 rfl ?_
    exact ret_ip hC hr hlk hw hp d_X_received_19
set_option maxHeartbeats 4000000 in
set_option maxRecDepth 100000 in
theorem c_X_value (l : Launch) (D : va_G) (dA : Nat → ClassId) (b n : Nat) (T : mT) (R : mR) (M : mM) (sz : Nat) (h : Nat) (x1 : Int32) (x2 : Int32) (Q : Int32 → Prop) : Met l y_X_value (Cond.code y_X_value b_X_value 3 (some .int) :: tW) ({ frames := 1, cells := 0, slots := 0, locals := 21 }) (Pm D dA b n T R M sz [.ref (b + h), .int x1, .int x2] (w_X_value n T R M h x1 x2 Q)) (Qip D dA (An b n) b n T R M sz Q) 0 0 (An b n) := by
  refine fm_body (An b n) (by decide) (Nat.le_of_ble_eq_true rfl) (fun k h0 h1 => ⟨by omega, by omega⟩) (fun p e s m below meth c ls hC hr hlk hnm hl hw hp => ?_)
  have hx := hC.1.1
  have hb := hC.1.2.1
  have hl : lv_has ls 3 [(0, .ref (b + h)), (1, .int x1), (2, .int x2)] := hl
  generalize hav : (List.toArray ([.ref (b + h), .int x1, .int x2] : List Value)) = av at hC ⊢
  unfold w_X_value at hp
  obtain ⟨k0, hp⟩ := hp
  refine lv_iload_n (pc := 0) hx hb d_X_value_0 rfl (lv_at hl 1 rfl) ?_
  refine call_zp (pc := 1) (fun _ h => h) hw (fm_runS (As := [.int x1]) (rest := []) hC hw (c_X_isSide l D dA b n T R M sz x1 _) cy_X_isSide hp rfl rfl mw_313 mw_314 ⟨Nat.le_of_ble_eq_true rfl, Nat.le_of_ble_eq_true rfl⟩ rfl hl.1 rfl (Nat.le_of_ble_eq_true rfl) d_X_value_1 ⟨(Nat.le_of_ble_eq_true rfl), (Nat.le_of_ble_eq_true rfl)⟩) (fun r1 H locs hp z2 hw => ?_)
  refine lv_if_eq (pc := 4) (tgt := 19) hx hb d_X_value_4 rfl (fun hc => ?_) (fun hc => ?_)
  · have hp := hp.1 hc
    refine lv_iconst (v := 0) (pc := 19) hx hb d_X_value_19 (by decide) ?_
    exact ret_ip hC hr hlk hw hp d_X_value_20
  · have hp := hp.2 hc
    refine lv_aload_n (pc := 7) hx hb d_X_value_7 rfl (lv_at hl 0 rfl) ?_
    refine lv_iload_n (pc := 8) hx hb d_X_value_8 rfl (lv_at hl 1 rfl) ?_
    refine call_rp (pc := 9) (fun _ h => h) hw (fm_runV (As := [.int x1]) (rest := []) hC hw (c_X_sideOf l D dA b n T R M sz h x1 _) cy_X_sideOf hp rfl rfl mw_315 mw_316 mw_317 (rfl : classes[10]? = _) (by decide) k0 ⟨Nat.le_of_ble_eq_true rfl, Nat.le_of_ble_eq_true rfl⟩ rfl hl.1 rfl (Nat.le_of_ble_eq_true rfl) d_X_value_9 ⟨(Nat.le_of_ble_eq_true rfl), (Nat.le_of_ble_eq_true rfl)⟩) (fun r3 H locs hp z4 hw => ?_)
    refine lv_iload_n (pc := 12) hx hb d_X_value_12 rfl (lv_at hl 2 rfl) ?_
    obtain ⟨k5, hp⟩ := hp
    refine call_ip (pc := 13) (fun _ h => h) hw (Or.elim k5 (fun kS => fm_runU (x := (⟨"LossyHandshake$Side", "valueAt", "(I)I"⟩ : MethodName)) (As := [.int x2]) (rest := []) hC hw (c_Side_valueAt l D dA b n T R M sz r3 x2 _) cy_Side_valueAt hp rfl rfl rfl mw_351 mw_352 mw_353 mw_354 (rfl : classes[8]? = _) (by decide) kS ⟨Nat.le_of_ble_eq_true rfl, Nat.le_of_ble_eq_true rfl⟩ rfl hl.1 rfl (Nat.le_of_ble_eq_true rfl) d_X_value_13 ⟨(Nat.le_of_ble_eq_true rfl), (Nat.le_of_ble_eq_true rfl)⟩) (fun kS => fm_runU (x := (⟨"LossyHandshake$Side", "valueAt", "(I)I"⟩ : MethodName)) (As := [.int x2]) (rest := []) hC hw (c_Side_valueAt l D dA b n T R M sz r3 x2 _) cy_Side_valueAt hp rfl rfl rfl mw_351 mw_352 mw_353 mw_355 (rfl : classes[9]? = _) (by decide) kS ⟨Nat.le_of_ble_eq_true rfl, Nat.le_of_ble_eq_true rfl⟩ rfl hl.1 rfl (Nat.le_of_ble_eq_true rfl) d_X_value_13 ⟨(Nat.le_of_ble_eq_true rfl), (Nat.le_of_ble_eq_true rfl)⟩)) (fun r6 H locs hp hw => ?_)
    refine lv_goto (pc := 16) (tgt := 20) hx hb d_X_value_16 rfl ?_
    exact ret_ip hC hr hlk hw hp d_X_value_20
set_option maxHeartbeats 4000000 in
set_option maxRecDepth 100000 in
theorem c_Mo_mix (l : Launch) (D : va_G) (dA : Nat → ClassId) (b n : Nat) (T : mT) (R : mR) (M : mM) (sz : Nat) (x1 : Int32) (x2 : Int32) (Q : Int32 → Prop) : Met l y_Mo_mix (Cond.code y_Mo_mix b_Mo_mix 3 (some .int) :: tW) ({ frames := 0, cells := 0, slots := 0, locals := 0 }) (Pm D dA b n T R M sz [.int x1, .int x2] (w_Mo_mix n T R M x1 x2 Q)) (Qip D dA (An b n) b n T R M sz Q) 0 0 (An b n) := by
  refine fm_body (An b n) (by decide) (Nat.le_of_ble_eq_true rfl) (fun k h0 h1 => ⟨by omega, by omega⟩) (fun p e s m below meth c ls hC hr hlk hnm hl hw hp => ?_)
  have hx := hC.1.1
  have hb := hC.1.2.1
  have hl : lv_has ls 3 [(0, .int x1), (1, .int x2)] := hl
  generalize hav : (List.toArray ([.int x1, .int x2] : List Value)) = av at hC ⊢
  unfold w_Mo_mix at hp
  refine lv_iload_n (pc := 0) hx hb d_Mo_mix_0 rfl (lv_at hl 0 rfl) ?_
  refine lv_bipush (v := 31) (pc := 1) hx hb d_Mo_mix_1 (by decide) ?_
  refine lv_imul (pc := 3) hx hb d_Mo_mix_3 ?_
  refine lv_iload_n (pc := 4) hx hb d_Mo_mix_4 rfl (lv_at hl 1 rfl) ?_
  refine lv_iadd (pc := 5) hx hb d_Mo_mix_5 ?_
  refine lv_ldc (v := 739982445) (pc := 6) hx hb hC.1.2.2.2.1 (hC.1.2.2.2.2 _ mw_356) d_Mo_mix_6 ?_
  refine lv_imul (pc := 8) hx hb d_Mo_mix_8 ?_
  refine lv_topi (fun v1 ev1 => ?_)
  have hp := hp v1 ev1
  refine lv_istore_n (pc := 9) hx hb d_Mo_mix_9 rfl hl (by decide) rfl (fun ls hl => ?_)
  have hl : lv_has ls 3 [(2, .int v1), (0, .int x1), (1, .int x2)] := hl
  refine lv_iload_n (pc := 10) hx hb d_Mo_mix_10 rfl (lv_at hl 0 rfl) ?_
  refine lv_iload_n (pc := 11) hx hb d_Mo_mix_11 rfl (lv_at hl 0 rfl) ?_
  refine lv_bipush (v := 15) (pc := 12) hx hb d_Mo_mix_12 (by decide) ?_
  refine lv_iushr (v := jushr v1 (15 : Int32)) (pc := 14) hx hb d_Mo_mix_14 rfl ?_
  refine lv_ixor (pc := 15) hx hb d_Mo_mix_15 ?_
  exact ret_ip hC hr hlk hw hp d_Mo_mix_16
set_option maxHeartbeats 4000000 in
set_option maxRecDepth 100000 in
theorem c_Mo_sizeOf (l : Launch) (D : va_G) (dA : Nat → ClassId) (b n : Nat) (T : mT) (R : mR) (M : mM) (sz : Nat) (h : Nat) (x1 : Int32) (Q : Int32 → Prop) : Met l y_Mo_sizeOf (Cond.code y_Mo_sizeOf b_Mo_sizeOf 2 (some .int) :: tW) ({ frames := 0, cells := 0, slots := 0, locals := 0 }) (Pm D dA b n T R M sz [.ref (b + h), .int x1] (w_Mo_sizeOf n T R M h x1 Q)) (Qip D dA (An b n) b n T R M sz Q) 0 0 (An b n) := by
  refine fm_body (An b n) (by decide) (Nat.le_of_ble_eq_true rfl) (fun k h0 h1 => ⟨by omega, by omega⟩) (fun p e s m below meth c ls hC hr hlk hnm hl hw hp => ?_)
  have hx := hC.1.1
  have hb := hC.1.2.1
  have hl : lv_has ls 2 [(0, .ref (b + h)), (1, .int x1)] := hl
  generalize hav : (List.toArray ([.ref (b + h), .int x1] : List Value)) = av at hC ⊢
  unfold w_Mo_sizeOf at hp
  obtain ⟨k0, hp⟩ := hp
  refine lv_iload_n (pc := 0) hx hb d_Mo_sizeOf_0 rfl (lv_at hl 1 rfl) ?_
  refine lv_if_eq (pc := 1) (tgt := 9) hx hb d_Mo_sizeOf_1 rfl (fun hc => ?_) (fun hc => ?_)
  · have hp := hp.1 hc
    refine lv_bipush (v := 8) (pc := 9) hx hb d_Mo_sizeOf_9 (by decide) ?_
    refine lv_goto (pc := 11) (tgt := 37) hx hb d_Mo_sizeOf_11 rfl ?_
    exact ret_ip hC hr hlk hw hp d_Mo_sizeOf_37
  · have hp := hp.2 hc
    refine lv_iload_n (pc := 4) hx hb d_Mo_sizeOf_4 rfl (lv_at hl 1 rfl) ?_
    refine lv_iconst (v := 2) (pc := 5) hx hb d_Mo_sizeOf_5 (by decide) ?_
    refine lv_icmp_ne (pc := 6) (tgt := 14) hx hb d_Mo_sizeOf_6 rfl (fun hc => ?_) (fun hc => ?_)
    · have hp := hp.2 hc
      refine lv_iload_n (pc := 14) hx hb d_Mo_sizeOf_14 rfl (lv_at hl 1 rfl) ?_
      refine lv_iconst (v := 4) (pc := 15) hx hb d_Mo_sizeOf_15 (by decide) ?_
      refine lv_icmp_ne (pc := 16) (tgt := 24) hx hb d_Mo_sizeOf_16 rfl (fun hc => ?_) (fun hc => ?_)
      · have hp := hp.2 hc
        refine lv_iload_n (pc := 24) hx hb d_Mo_sizeOf_24 rfl (lv_at hl 1 rfl) ?_
        refine lv_iconst (v := 5) (pc := 25) hx hb d_Mo_sizeOf_25 (by decide) ?_
        refine lv_icmp_ne (pc := 26) (tgt := 36) hx hb d_Mo_sizeOf_26 rfl (fun hc => ?_) (fun hc => ?_)
        · have hp := hp.2 hc
          refine lv_iconst (v := 4) (pc := 36) hx hb d_Mo_sizeOf_36 (by decide) ?_
          exact ret_ip hC hr hlk hw hp d_Mo_sizeOf_37
        · have hp := hp.1 hc
          refine lv_aload_n (pc := 29) hx hb d_Mo_sizeOf_29 rfl (lv_at hl 0 rfl) ?_
          refine gf_Mo_114 (pc := 30) hC hw k0 d_Mo_sizeOf_30 ?_
          refine lv_goto (pc := 33) (tgt := 37) hx hb d_Mo_sizeOf_33 rfl ?_
          exact ret_ip hC hr hlk hw hp d_Mo_sizeOf_37
      · have hp := hp.1 hc
        refine lv_bipush (v := 6) (pc := 19) hx hb d_Mo_sizeOf_19 (by decide) ?_
        refine lv_goto (pc := 21) (tgt := 37) hx hb d_Mo_sizeOf_21 rfl ?_
        exact ret_ip hC hr hlk hw hp d_Mo_sizeOf_37
    · have hp := hp.1 hc
      refine lv_bipush (v := 8) (pc := 9) hx hb d_Mo_sizeOf_9 (by decide) ?_
      refine lv_goto (pc := 11) (tgt := 37) hx hb d_Mo_sizeOf_11 rfl ?_
      exact ret_ip hC hr hlk hw hp d_Mo_sizeOf_37
