set_option maxHeartbeats 4000000 in
set_option maxRecDepth 100000 in
theorem c_Mo_copy (l : Launch) (D : va_G) (dA : Nat → ClassId) (b n : Nat) (T : mT) (R : mR) (M : mM) (sz : Nat) (h : Nat) (x1 : Int32) (Q : Int32 → mM → Prop) : Met l y_Mo_copy (Cond.code y_Mo_copy b_Mo_copy 2 (some .boolean) :: tW) ({ frames := 1, cells := 0, slots := 0, locals := 23 }) (Pm D dA b n T R M sz [.ref (b + h), .int x1] (w_Mo_copy n T R M h x1 Q)) (Qzm D dA (An b n) b n T R sz Q) 0 0 (An b n) := by
  refine fm_body (An b n) (by decide) (Nat.le_of_ble_eq_true rfl) (fun k h0 h1 => ⟨by omega, by omega⟩) (fun p e s m below meth c ls hC hr hlk hnm hl hw hp => ?_)
  have hx := hC.1.1
  have hb := hC.1.2.1
  have hl : lv_has ls 2 [(0, .ref (b + h)), (1, .int x1)] := hl
  generalize hav : (List.toArray ([.ref (b + h), .int x1] : List Value)) = av at hC ⊢
  unfold w_Mo_copy at hp
  obtain ⟨k0, hp⟩ := hp
  refine lv_aload_n (pc := 0) hx hb d_Mo_copy_0 rfl (lv_at hl 0 rfl) ?_
  refine lv_iload_n (pc := 1) hx hb d_Mo_copy_1 rfl (lv_at hl 1 rfl) ?_
  refine call_zp (pc := 2) (fun _ h => h) hw (fm_runV (As := [.int x1]) (rest := []) hC hw (c_Mo_isRecord l D dA b n T R M sz h x1 _) cy_Mo_isRecord hp rfl rfl mw_396 mw_397 mw_398 (rfl : classes[11]? = _) (by decide) k0 ⟨Nat.le_of_ble_eq_true rfl, Nat.le_of_ble_eq_true rfl⟩ rfl hl.1 rfl (Nat.le_of_ble_eq_true rfl) d_Mo_copy_2 ⟨(Nat.le_of_ble_eq_true rfl), (Nat.le_of_ble_eq_true rfl)⟩) (fun r1 H locs hp z2 hw => ?_)
  refine lv_if_eq (pc := 5) (tgt := 17) hx hb d_Mo_copy_5 rfl (fun hc => ?_) (fun hc => ?_)
  · have hp := hp.1 hc
    refine lv_iconst (v := 0) (pc := 17) hx hb d_Mo_copy_17 (by decide) ?_
    exact ret_zm hC hr hlk hw (Or.inl rfl) hp d_Mo_copy_18
  · have hp := hp.2 hc
    refine lv_aload_n (pc := 8) hx hb d_Mo_copy_8 rfl (lv_at hl 0 rfl) ?_
    refine gf_Mo_153 (pc := 9) hC hw k0 d_Mo_copy_9 ?_
    refine lv_bipush (v := 60) (pc := 12) hx hb d_Mo_copy_12 (by decide) ?_
    refine lv_icmp_ne (pc := 14) (tgt := 19) hx hb d_Mo_copy_14 rfl (fun hc => ?_) (fun hc => ?_)
    · have hp := hp.2 hc
      refine lv_aload_n (pc := 19) hx hb d_Mo_copy_19 rfl (lv_at hl 0 rfl) ?_
      refine lv_iload_n (pc := 20) hx hb d_Mo_copy_20 rfl (lv_at hl 1 rfl) ?_
      refine lv_aload_n (pc := 21) hx hb d_Mo_copy_21 rfl (lv_at hl 0 rfl) ?_
      refine gf_Mo_153 (pc := 22) hC hw k0 d_Mo_copy_22 ?_
      refine call_vm (pc := 25) (fun _ h => h) hw (fm_runV (As := [.int x1, .int (M h 8)]) (rest := []) hC hw (c_Mo_copyTo l D dA b n T R M sz h x1 (M h 8) _) cy_Mo_copyTo hp rfl rfl mw_399 mw_400 mw_401 (rfl : classes[11]? = _) (by decide) k0 ⟨Nat.le_of_ble_eq_true rfl, Nat.le_of_ble_eq_true rfl⟩ rfl hl.1 rfl (Nat.le_of_ble_eq_true rfl) d_Mo_copy_25 ⟨(Nat.le_of_ble_eq_true rfl), (Nat.le_of_ble_eq_true rfl)⟩) (fun M3 H locs hp hw => ?_)
      refine lv_aload_n (pc := 28) hx hb d_Mo_copy_28 rfl (lv_at hl 0 rfl) ?_
      refine lv_dup (pc := 29) hx hb d_Mo_copy_29 rfl ?_
      refine gf_Mo_153 (pc := 30) hC hw k0 d_Mo_copy_30 ?_
      refine lv_iconst (v := 1) (pc := 33) hx hb d_Mo_copy_33 (by decide) ?_
      refine lv_iadd (pc := 34) hx hb d_Mo_copy_34 ?_
      refine pf_Mo_153 (pc := 35) hC hw k0 d_Mo_copy_35 (fun M4 H locs eM4 hw => ?_)
      have hp := hp M4 eM4
      refine lv_iconst (v := 1) (pc := 38) hx hb d_Mo_copy_38 (by decide) ?_
      exact ret_zm hC hr hlk hw (Or.inr rfl) hp d_Mo_copy_39
    · have hp := hp.1 hc
      refine lv_iconst (v := 0) (pc := 17) hx hb d_Mo_copy_17 (by decide) ?_
      exact ret_zm hC hr hlk hw (Or.inl rfl) hp d_Mo_copy_18
set_option maxHeartbeats 4000000 in
set_option maxRecDepth 100000 in
theorem c_Mo_spoil (l : Launch) (D : va_G) (dA : Nat → ClassId) (b n : Nat) (T : mT) (R : mR) (M : mM) (sz : Nat) (h : Nat) (x1 : Int32) (Q : Int32 → mM → Prop) : Met l y_Mo_spoil (Cond.code y_Mo_spoil b_Mo_spoil 2 (some .boolean) :: tW) ({ frames := 1, cells := 0, slots := 0, locals := 21 }) (Pm D dA b n T R M sz [.ref (b + h), .int x1] (w_Mo_spoil n T R M h x1 Q)) (Qzm D dA (An b n) b n T R sz Q) 0 0 (An b n) := by
  refine fm_body (An b n) (by decide) (Nat.le_of_ble_eq_true rfl) (fun k h0 h1 => ⟨by omega, by omega⟩) (fun p e s m below meth c ls hC hr hlk hnm hl hw hp => ?_)
  have hx := hC.1.1
  have hb := hC.1.2.1
  have hl : lv_has ls 2 [(0, .ref (b + h)), (1, .int x1)] := hl
  generalize hav : (List.toArray ([.ref (b + h), .int x1] : List Value)) = av at hC ⊢
  unfold w_Mo_spoil at hp
  obtain ⟨k0, hp⟩ := hp
  refine lv_aload_n (pc := 0) hx hb d_Mo_spoil_0 rfl (lv_at hl 0 rfl) ?_
  refine lv_iload_n (pc := 1) hx hb d_Mo_spoil_1 rfl (lv_at hl 1 rfl) ?_
  refine call_zp (pc := 2) (fun _ h => h) hw (fm_runV (As := [.int x1]) (rest := []) hC hw (c_Mo_isRecord l D dA b n T R M sz h x1 _) cy_Mo_isRecord hp rfl rfl mw_396 mw_397 mw_398 (rfl : classes[11]? = _) (by decide) k0 ⟨Nat.le_of_ble_eq_true rfl, Nat.le_of_ble_eq_true rfl⟩ rfl hl.1 rfl (Nat.le_of_ble_eq_true rfl) d_Mo_spoil_2 ⟨(Nat.le_of_ble_eq_true rfl), (Nat.le_of_ble_eq_true rfl)⟩) (fun r1 H locs hp z2 hw => ?_)
  refine lv_if_ne (pc := 5) (tgt := 10) hx hb d_Mo_spoil_5 rfl (fun hc => ?_) (fun hc => ?_)
  · have hp := hp.2 hc
    refine lv_aload_n (pc := 10) hx hb d_Mo_spoil_10 rfl (lv_at hl 0 rfl) ?_
    obtain ⟨k3, hp⟩ := hp
    refine gf_Mo_22 (pc := 11) hC hw k0 (Nat.ne_of_gt k3.1) d_Mo_spoil_11 ?_
    refine lv_iload_n (pc := 14) hx hb d_Mo_spoil_14 rfl (lv_at hl 1 rfl) ?_
    refine lv_iconst (v := 1) (pc := 15) hx hb d_Mo_spoil_15 (by decide) ?_
    obtain ⟨k4, hp⟩ := hp
    refine fm_zast (pc := 16) hC hw (Or.inr rfl) k3 k4 rfl d_Mo_spoil_16 (fun M5 H locs eM5 hw => ?_)
    have hp := hp M5 eM5
    refine lv_iconst (v := 1) (pc := 17) hx hb d_Mo_spoil_17 (by decide) ?_
    exact ret_zm hC hr hlk hw (Or.inr rfl) hp d_Mo_spoil_18
  · have hp := hp.1 hc
    refine lv_iconst (v := 0) (pc := 8) hx hb d_Mo_spoil_8 (by decide) ?_
    exact ret_zm hC hr hlk hw (Or.inl rfl) hp d_Mo_spoil_9
set_option maxHeartbeats 4000000 in
set_option maxRecDepth 100000 in
theorem c_Mo_waiting (l : Launch) (D : va_G) (dA : Nat → ClassId) (b n : Nat) (T : mT) (R : mR) (M : mM) (sz : Nat) (h : Nat) (Q : Int32 → Prop) : Met l y_Mo_waiting (Cond.code y_Mo_waiting b_Mo_waiting 1 (some .int) :: tW) ({ frames := 0, cells := 0, slots := 0, locals := 0 }) (Pm D dA b n T R M sz [.ref (b + h)] (w_Mo_waiting n T R M h Q)) (Qip D dA (An b n) b n T R M sz Q) 0 0 (An b n) := by
  refine fm_body (An b n) (by decide) (Nat.le_of_ble_eq_true rfl) (fun k h0 h1 => ⟨by omega, by omega⟩) (fun p e s m below meth c ls hC hr hlk hnm hl hw hp => ?_)
  have hx := hC.1.1
  have hb := hC.1.2.1
  have hl : lv_has ls 1 [(0, .ref (b + h))] := hl
  generalize hav : (List.toArray ([.ref (b + h)] : List Value)) = av at hC ⊢
  unfold w_Mo_waiting at hp
  obtain ⟨k0, hp⟩ := hp
  refine lv_aload_n (pc := 0) hx hb d_Mo_waiting_0 rfl (lv_at hl 0 rfl) ?_
  refine gf_Mo_153 (pc := 1) hC hw k0 d_Mo_waiting_1 ?_
  exact ret_ip hC hr hlk hw hp d_Mo_waiting_4
set_option maxHeartbeats 4000000 in
set_option maxRecDepth 100000 in
theorem c_Mo_lost (l : Launch) (D : va_G) (dA : Nat → ClassId) (b n : Nat) (T : mT) (R : mR) (M : mM) (sz : Nat) (h : Nat) (Q : Int32 → Prop) : Met l y_Mo_lost (Cond.code y_Mo_lost b_Mo_lost 1 (some .int) :: tW) ({ frames := 0, cells := 0, slots := 0, locals := 0 }) (Pm D dA b n T R M sz [.ref (b + h)] (w_Mo_lost n T R M h Q)) (Qip D dA (An b n) b n T R M sz Q) 0 0 (An b n) := by
  refine fm_body (An b n) (by decide) (Nat.le_of_ble_eq_true rfl) (fun k h0 h1 => ⟨by omega, by omega⟩) (fun p e s m below meth c ls hC hr hlk hnm hl hw hp => ?_)
  have hx := hC.1.1
  have hb := hC.1.2.1
  have hl : lv_has ls 1 [(0, .ref (b + h))] := hl
  generalize hav : (List.toArray ([.ref (b + h)] : List Value)) = av at hC ⊢
  unfold w_Mo_lost at hp
  obtain ⟨k0, hp⟩ := hp
  refine lv_aload_n (pc := 0) hx hb d_Mo_lost_0 rfl (lv_at hl 0 rfl) ?_
  refine gf_Mo_156 (pc := 1) hC hw k0 d_Mo_lost_1 ?_
  exact ret_ip hC hr hlk hw hp d_Mo_lost_4
set_option maxHeartbeats 4000000 in
set_option maxRecDepth 100000 in
theorem c_Mo_record (l : Launch) (D : va_G) (dA : Nat → ClassId) (b n : Nat) (T : mT) (R : mR) (M : mM) (sz : Nat) (h : Nat) (x1 : Int32) (Q : Int32 → Prop) : Met l y_Mo_record (Cond.code y_Mo_record b_Mo_record 2 (some .int) :: tW) ({ frames := 1, cells := 0, slots := 0, locals := 21 }) (Pm D dA b n T R M sz [.ref (b + h), .int x1] (w_Mo_record n T R M h x1 Q)) (Qip D dA (An b n) b n T R M sz Q) 0 0 (An b n) := by
  refine fm_body (An b n) (by decide) (Nat.le_of_ble_eq_true rfl) (fun k h0 h1 => ⟨by omega, by omega⟩) (fun p e s m below meth c ls hC hr hlk hnm hl hw hp => ?_)
  have hx := hC.1.1
  have hb := hC.1.2.1
  have hl : lv_has ls 2 [(0, .ref (b + h)), (1, .int x1)] := hl
  generalize hav : (List.toArray ([.ref (b + h), .int x1] : List Value)) = av at hC ⊢
  unfold w_Mo_record at hp
  obtain ⟨k0, hp⟩ := hp
  refine lv_aload_n (pc := 0) hx hb d_Mo_record_0 rfl (lv_at hl 0 rfl) ?_
  refine lv_iload_n (pc := 1) hx hb d_Mo_record_1 rfl (lv_at hl 1 rfl) ?_
  refine call_zp (pc := 2) (fun _ h => h) hw (fm_runV (As := [.int x1]) (rest := []) hC hw (c_Mo_isRecord l D dA b n T R M sz h x1 _) cy_Mo_isRecord hp rfl rfl mw_396 mw_397 mw_398 (rfl : classes[11]? = _) (by decide) k0 ⟨Nat.le_of_ble_eq_true rfl, Nat.le_of_ble_eq_true rfl⟩ rfl hl.1 rfl (Nat.le_of_ble_eq_true rfl) d_Mo_record_2 ⟨(Nat.le_of_ble_eq_true rfl), (Nat.le_of_ble_eq_true rfl)⟩) (fun r1 H locs hp z2 hw => ?_)
  refine lv_if_eq (pc := 5) (tgt := 52) hx hb d_Mo_record_5 rfl (fun hc => ?_) (fun hc => ?_)
  · have hp := hp.1 hc
    refine lv_iconst (v := -1) (pc := 52) hx hb d_Mo_record_52 (by decide) ?_
    exact ret_ip hC hr hlk hw hp d_Mo_record_53
  · have hp := hp.2 hc
    refine lv_ldc (v := 1000000) (pc := 8) hx hb hC.1.2.2.2.1 (hC.1.2.2.2.2 _ mw_435) d_Mo_record_8 ?_
    refine lv_aload_n (pc := 10) hx hb d_Mo_record_10 rfl (lv_at hl 0 rfl) ?_
    obtain ⟨k3, hp⟩ := hp
    refine gf_Mo_7 (pc := 11) hC hw k0 (Nat.ne_of_gt k3.1) d_Mo_record_11 ?_
    refine lv_iload_n (pc := 14) hx hb d_Mo_record_14 rfl (lv_at hl 1 rfl) ?_
    obtain ⟨k4, hp⟩ := hp
    refine fm_iald (pc := 15) hC hw k3 k4 rfl d_Mo_record_15 ?_
    refine lv_imul (pc := 16) hx hb d_Mo_record_16 ?_
    refine lv_ldc (v := 100000) (pc := 17) hx hb hC.1.2.2.2.1 (hC.1.2.2.2.2 _ mw_436) d_Mo_record_17 ?_
    refine lv_aload_n (pc := 19) hx hb d_Mo_record_19 rfl (lv_at hl 0 rfl) ?_
    obtain ⟨k5, hp⟩ := hp
    refine gf_Mo_13 (pc := 20) hC hw k0 (Nat.ne_of_gt k5.1) d_Mo_record_20 ?_
    refine lv_iload_n (pc := 23) hx hb d_Mo_record_23 rfl (lv_at hl 1 rfl) ?_
    obtain ⟨k6, hp⟩ := hp
    refine fm_iald (pc := 24) hC hw k5 k6 rfl d_Mo_record_24 ?_
    refine lv_imul (pc := 25) hx hb d_Mo_record_25 ?_
    refine lv_iadd (pc := 26) hx hb d_Mo_record_26 ?_
    refine lv_sipush (v := 10000) (pc := 27) hx hb d_Mo_record_27 (by decide) ?_
    refine lv_aload_n (pc := 30) hx hb d_Mo_record_30 rfl (lv_at hl 0 rfl) ?_
    obtain ⟨k7, hp⟩ := hp
    refine gf_Mo_16 (pc := 31) hC hw k0 (Nat.ne_of_gt k7.1) d_Mo_record_31 ?_
    refine lv_iload_n (pc := 34) hx hb d_Mo_record_34 rfl (lv_at hl 1 rfl) ?_
    obtain ⟨k8, hp⟩ := hp
    refine fm_iald (pc := 35) hC hw k7 k8 rfl d_Mo_record_35 ?_
    refine lv_imul (pc := 36) hx hb d_Mo_record_36 ?_
    refine lv_iadd (pc := 37) hx hb d_Mo_record_37 ?_
    refine lv_aload_n (pc := 38) hx hb d_Mo_record_38 rfl (lv_at hl 0 rfl) ?_
    obtain ⟨k9, hp⟩ := hp
    refine gf_Mo_19 (pc := 39) hC hw k0 (Nat.ne_of_gt k9.1) d_Mo_record_39 ?_
    refine lv_iload_n (pc := 42) hx hb d_Mo_record_42 rfl (lv_at hl 1 rfl) ?_
    obtain ⟨k10, hp⟩ := hp
    refine fm_iald (pc := 43) hC hw k9 k10 rfl d_Mo_record_43 ?_
    refine lv_sipush (v := 10000) (pc := 44) hx hb d_Mo_record_44 (by decide) ?_
    refine lv_irem (pc := 47) hx hb d_Mo_record_47 (by decide) ?_
    refine lv_iadd (pc := 48) hx hb d_Mo_record_48 ?_
    refine lv_goto (pc := 49) (tgt := 53) hx hb d_Mo_record_49 rfl ?_
    exact ret_ip hC hr hlk hw hp d_Mo_record_53
set_option maxHeartbeats 4000000 in
set_option maxRecDepth 100000 in
theorem c_Mo_numberOf (l : Launch) (D : va_G) (dA : Nat → ClassId) (b n : Nat) (T : mT) (R : mR) (M : mM) (sz : Nat) (x1 : Int32) (Q : Int32 → Prop) : Met l y_Mo_numberOf (Cond.code y_Mo_numberOf b_Mo_numberOf 1 (some .int) :: tW) ({ frames := 0, cells := 0, slots := 0, locals := 0 }) (Pm D dA b n T R M sz [.int x1] (w_Mo_numberOf n T R M x1 Q)) (Qip D dA (An b n) b n T R M sz Q) 0 0 (An b n) := by
  refine fm_body (An b n) (by decide) (Nat.le_of_ble_eq_true rfl) (fun k h0 h1 => ⟨by omega, by omega⟩) (fun p e s m below meth c ls hC hr hlk hnm hl hw hp => ?_)
  have hx := hC.1.1
  have hb := hC.1.2.1
  have hl : lv_has ls 1 [(0, .int x1)] := hl
  generalize hav : (List.toArray ([.int x1] : List Value)) = av at hC ⊢
  unfold w_Mo_numberOf at hp
  refine lv_iload_n (pc := 0) hx hb d_Mo_numberOf_0 rfl (lv_at hl 0 rfl) ?_
  refine lv_iconst (v := 2) (pc := 1) hx hb d_Mo_numberOf_1 (by decide) ?_
  refine lv_icmp_ne (pc := 2) (tgt := 9) hx hb d_Mo_numberOf_2 rfl (fun hc => ?_) (fun hc => ?_)
  · have hp := hp.2 hc
    refine lv_iload_n (pc := 9) hx hb d_Mo_numberOf_9 rfl (lv_at hl 0 rfl) ?_
    refine lv_bipush (v := 7) (pc := 10) hx hb d_Mo_numberOf_10 (by decide) ?_
    refine lv_icmp_ne (pc := 12) (tgt := 19) hx hb d_Mo_numberOf_12 rfl (fun hc => ?_) (fun hc => ?_)
    · have hp := hp.2 hc
      refine lv_iload_n (pc := 19) hx hb d_Mo_numberOf_19 rfl (lv_at hl 0 rfl) ?_
      refine lv_iconst (v := 2) (pc := 20) hx hb d_Mo_numberOf_20 (by decide) ?_
      refine lv_icmp_ge (pc := 21) (tgt := 28) hx hb d_Mo_numberOf_21 rfl (fun hc => ?_) (fun hc => ?_)
      · have hp := hp.1 hc
        refine lv_iload_n (pc := 28) hx hb d_Mo_numberOf_28 rfl (lv_at hl 0 rfl) ?_
        refine lv_iconst (v := 2) (pc := 29) hx hb d_Mo_numberOf_29 (by decide) ?_
        refine lv_isub (pc := 30) hx hb d_Mo_numberOf_30 ?_
        exact ret_ip hC hr hlk hw hp d_Mo_numberOf_31
      · have hp := hp.2 hc
        refine lv_iconst (v := 0) (pc := 24) hx hb d_Mo_numberOf_24 (by decide) ?_
        refine lv_goto (pc := 25) (tgt := 31) hx hb d_Mo_numberOf_25 rfl ?_
        exact ret_ip hC hr hlk hw hp d_Mo_numberOf_31
    · have hp := hp.1 hc
      refine lv_iconst (v := 2) (pc := 15) hx hb d_Mo_numberOf_15 (by decide) ?_
      refine lv_goto (pc := 16) (tgt := 31) hx hb d_Mo_numberOf_16 rfl ?_
      exact ret_ip hC hr hlk hw hp d_Mo_numberOf_31
  · have hp := hp.1 hc
    refine lv_iconst (v := 1) (pc := 5) hx hb d_Mo_numberOf_5 (by decide) ?_
    refine lv_goto (pc := 6) (tgt := 31) hx hb d_Mo_numberOf_6 rfl ?_
    exact ret_ip hC hr hlk hw hp d_Mo_numberOf_31
set_option maxHeartbeats 4000000 in
set_option maxRecDepth 100000 in
theorem c_Mo_content1 (l : Launch) (D : va_G) (dA : Nat → ClassId) (b n : Nat) (T : mT) (R : mR) (M : mM) (sz : Nat) (h : Nat) (x1 : Int32) (Q : Int32 → Prop) : Met l y_Mo_content1 (Cond.code y_Mo_content1 b_Mo_content1 2 (some .int) :: tW) ({ frames := 1, cells := 0, slots := 0, locals := 21 }) (Pm D dA b n T R M sz [.ref (b + h), .int x1] (w_Mo_content1 n T R M h x1 Q)) (Qip D dA (An b n) b n T R M sz Q) 0 0 (An b n) := by
  refine fm_body (An b n) (by decide) (Nat.le_of_ble_eq_true rfl) (fun k h0 h1 => ⟨by omega, by omega⟩) (fun p e s m below meth c ls hC hr hlk hnm hl hw hp => ?_)
  have hx := hC.1.1
  have hb := hC.1.2.1
  have hl : lv_has ls 2 [(0, .ref (b + h)), (1, .int x1)] := hl
  generalize hav : (List.toArray ([.ref (b + h), .int x1] : List Value)) = av at hC ⊢
  unfold w_Mo_content1 at hp
  obtain ⟨k0, hp⟩ := hp
  refine lv_aload_n (pc := 0) hx hb d_Mo_content1_0 rfl (lv_at hl 0 rfl) ?_
  refine lv_iload_n (pc := 1) hx hb d_Mo_content1_1 rfl (lv_at hl 1 rfl) ?_
  refine call_zp (pc := 2) (fun _ h => h) hw (fm_runV (As := [.int x1]) (rest := []) hC hw (c_Mo_isRecord l D dA b n T R M sz h x1 _) cy_Mo_isRecord hp rfl rfl mw_396 mw_397 mw_398 (rfl : classes[11]? = _) (by decide) k0 ⟨Nat.le_of_ble_eq_true rfl, Nat.le_of_ble_eq_true rfl⟩ rfl hl.1 rfl (Nat.le_of_ble_eq_true rfl) d_Mo_content1_2 ⟨(Nat.le_of_ble_eq_true rfl), (Nat.le_of_ble_eq_true rfl)⟩) (fun r1 H locs hp z2 hw => ?_)
  refine lv_if_ne (pc := 5) (tgt := 10) hx hb d_Mo_content1_5 rfl (fun hc => ?_) (fun hc => ?_)
  · have hp := hp.2 hc
    refine lv_aload_n (pc := 10) hx hb d_Mo_content1_10 rfl (lv_at hl 0 rfl) ?_
    obtain ⟨k3, hp⟩ := hp
    refine gf_Mo_13 (pc := 11) hC hw k0 (Nat.ne_of_gt k3.1) d_Mo_content1_11 ?_
    refine lv_iload_n (pc := 14) hx hb d_Mo_content1_14 rfl (lv_at hl 1 rfl) ?_
    obtain ⟨k4, hp⟩ := hp
    refine fm_iald (pc := 15) hC hw k3 k4 rfl d_Mo_content1_15 ?_
    refine lv_if_ne (pc := 16) (tgt := 52) hx hb d_Mo_content1_16 rfl (fun hc => ?_) (fun hc => ?_)
    · have hp := hp.2 hc
      refine lv_aload_n (pc := 52) hx hb d_Mo_content1_52 rfl (lv_at hl 0 rfl) ?_
      refine gf_Mo_13 (pc := 53) hC hw k0 (Nat.ne_of_gt k3.1) d_Mo_content1_53 ?_
      refine lv_iload_n (pc := 56) hx hb d_Mo_content1_56 rfl (lv_at hl 1 rfl) ?_
      obtain ⟨k12, hp⟩ := hp
      refine fm_iald (pc := 57) hC hw k3 k12 rfl d_Mo_content1_57 ?_
      refine lv_iconst (v := 1) (pc := 58) hx hb d_Mo_content1_58 (by decide) ?_
      refine lv_icmp_ne (pc := 59) (tgt := 71) hx hb d_Mo_content1_59 rfl (fun hc => ?_) (fun hc => ?_)
      · have hp := hp.2 hc
        refine lv_iconst (v := 0) (pc := 71) hx hb d_Mo_content1_71 (by decide) ?_
        exact ret_ip hC hr hlk hw hp d_Mo_content1_72
      · have hp := hp.1 hc
        refine lv_aload_n (pc := 62) hx hb d_Mo_content1_62 rfl (lv_at hl 0 rfl) ?_
        obtain ⟨k13, hp⟩ := hp
        refine gf_Mo_26 (pc := 63) hC hw k0 (Nat.ne_of_gt k13.1) d_Mo_content1_63 ?_
        refine lv_iload_n (pc := 66) hx hb d_Mo_content1_66 rfl (lv_at hl 1 rfl) ?_
        obtain ⟨k14, hp⟩ := hp
        refine fm_iald (pc := 67) hC hw k13 k14 rfl d_Mo_content1_67 ?_
        refine lv_goto (pc := 68) (tgt := 72) hx hb d_Mo_content1_68 rfl ?_
        exact ret_ip hC hr hlk hw hp d_Mo_content1_72
    · have hp := hp.1 hc
      refine lv_sipush (v := 10000) (pc := 19) hx hb d_Mo_content1_19 (by decide) ?_
      refine lv_aload_n (pc := 22) hx hb d_Mo_content1_22 rfl (lv_at hl 0 rfl) ?_
      obtain ⟨k5, hp⟩ := hp
      refine gf_Mo_26 (pc := 23) hC hw k0 (Nat.ne_of_gt k5.1) d_Mo_content1_23 ?_
      refine lv_iload_n (pc := 26) hx hb d_Mo_content1_26 rfl (lv_at hl 1 rfl) ?_
      obtain ⟨k6, hp⟩ := hp
      refine fm_iald (pc := 27) hC hw k5 k6 rfl d_Mo_content1_27 ?_
      refine call_ip (pc := 28) (fun _ h => h) hw (fm_runS (As := [.int (M (R h 16) x1.toNatClampNeg)]) (rest := [.int (10000 : Int32)]) hC hw (c_Mo_numberOf l D dA b n T R M sz (M (R h 16) x1.toNatClampNeg) _) cy_Mo_numberOf hp rfl rfl mw_437 mw_438 ⟨Nat.le_of_ble_eq_true rfl, Nat.le_of_ble_eq_true rfl⟩ rfl hl.1 rfl (Nat.le_of_ble_eq_true rfl) d_Mo_content1_28 ⟨(Nat.le_of_ble_eq_true rfl), (Nat.le_of_ble_eq_true rfl)⟩) (fun r7 H locs hp hw => ?_)
      refine lv_imul (pc := 31) hx hb d_Mo_content1_31 ?_
      refine lv_bipush (v := 100) (pc := 32) hx hb d_Mo_content1_32 (by decide) ?_
      refine lv_aload_n (pc := 34) hx hb d_Mo_content1_34 rfl (lv_at hl 0 rfl) ?_
      obtain ⟨k8, hp⟩ := hp
      refine gf_Mo_29 (pc := 35) hC hw k0 (Nat.ne_of_gt k8.1) d_Mo_content1_35 ?_
      refine lv_iload_n (pc := 38) hx hb d_Mo_content1_38 rfl (lv_at hl 1 rfl) ?_
      obtain ⟨k9, hp⟩ := hp
      refine fm_iald (pc := 39) hC hw k8 k9 rfl d_Mo_content1_39 ?_
      refine lv_imul (pc := 40) hx hb d_Mo_content1_40 ?_
      refine lv_iadd (pc := 41) hx hb d_Mo_content1_41 ?_
      refine lv_aload_n (pc := 42) hx hb d_Mo_content1_42 rfl (lv_at hl 0 rfl) ?_
      obtain ⟨k10, hp⟩ := hp
      refine gf_Mo_32 (pc := 43) hC hw k0 (Nat.ne_of_gt k10.1) d_Mo_content1_43 ?_
      refine lv_iload_n (pc := 46) hx hb d_Mo_content1_46 rfl (lv_at hl 1 rfl) ?_
      obtain ⟨k11, hp⟩ := hp
      refine fm_iald (pc := 47) hC hw k10 k11 rfl d_Mo_content1_47 ?_
      refine lv_iadd (pc := 48) hx hb d_Mo_content1_48 ?_
      refine lv_goto (pc := 49) (tgt := 72) hx hb d_Mo_content1_49 rfl ?_
      exact ret_ip hC hr hlk hw hp d_Mo_content1_72
  · have hp := hp.1 hc
    refine lv_iconst (v := -1) (pc := 8) hx hb d_Mo_content1_8 (by decide) ?_
    exact ret_ip hC hr hlk hw hp d_Mo_content1_9
set_option maxHeartbeats 4000000 in
set_option maxRecDepth 100000 in
theorem c_Mo_byteOf (l : Launch) (D : va_G) (dA : Nat → ClassId) (b n : Nat) (T : mT) (R : mR) (M : mM) (sz : Nat) (h : Nat) (x1 : Int32) (x2 : Int32) (Q : Int32 → Prop) : Met l y_Mo_byteOf (Cond.code y_Mo_byteOf b_Mo_byteOf 3 (some .int) :: tW) ({ frames := 2, cells := 0, slots := 0, locals := 44 }) (Pm D dA b n T R M sz [.ref (b + h), .int x1, .int x2] (w_Mo_byteOf n T R M h x1 x2 Q)) (Qip D dA (An b n) b n T R M sz Q) 0 0 (An b n) := by
  refine fm_body (An b n) (by decide) (Nat.le_of_ble_eq_true rfl) (fun k h0 h1 => ⟨by omega, by omega⟩) (fun p e s m below meth c ls hC hr hlk hnm hl hw hp => ?_)
  have hx := hC.1.1
  have hb := hC.1.2.1
  have hl : lv_has ls 3 [(0, .ref (b + h)), (1, .int x1), (2, .int x2)] := hl
  generalize hav : (List.toArray ([.ref (b + h), .int x1, .int x2] : List Value)) = av at hC ⊢
  unfold w_Mo_byteOf at hp
  obtain ⟨k0, hp⟩ := hp
  refine lv_aload_n (pc := 0) hx hb d_Mo_byteOf_0 rfl (lv_at hl 0 rfl) ?_
  refine lv_iload_n (pc := 1) hx hb d_Mo_byteOf_1 rfl (lv_at hl 1 rfl) ?_
  refine call_zp (pc := 2) (fun _ h => h) hw (fm_runV (As := [.int x1]) (rest := []) hC hw (c_Mo_isRecord l D dA b n T R M sz h x1 _) cy_Mo_isRecord hp rfl rfl mw_396 mw_397 mw_398 (rfl : classes[11]? = _) (by decide) k0 ⟨Nat.le_of_ble_eq_true rfl, Nat.le_of_ble_eq_true rfl⟩ rfl hl.1 rfl (Nat.le_of_ble_eq_true rfl) d_Mo_byteOf_2 ⟨(Nat.le_of_ble_eq_true rfl), (Nat.le_of_ble_eq_true rfl)⟩) (fun r1 H locs hp z2 hw => ?_)
  refine lv_if_eq (pc := 5) (tgt := 52) hx hb d_Mo_byteOf_5 rfl (fun hc => ?_) (fun hc => ?_)
  · have hp := hp.1 hc
    refine lv_iconst (v := -1) (pc := 52) hx hb d_Mo_byteOf_52 (by decide) ?_
    exact ret_ip hC hr hlk hw hp d_Mo_byteOf_53
  · have hp := hp.2 hc
    refine lv_aload_n (pc := 8) hx hb d_Mo_byteOf_8 rfl (lv_at hl 0 rfl) ?_
    obtain ⟨k3, hp⟩ := hp
    refine gf_Mo_13 (pc := 9) hC hw k0 (Nat.ne_of_gt k3.1) d_Mo_byteOf_9 ?_
    refine lv_iload_n (pc := 12) hx hb d_Mo_byteOf_12 rfl (lv_at hl 1 rfl) ?_
    obtain ⟨k4, hp⟩ := hp
    refine fm_iald (pc := 13) hC hw k3 k4 rfl d_Mo_byteOf_13 ?_
    refine lv_if_ne (pc := 14) (tgt := 52) hx hb d_Mo_byteOf_14 rfl (fun hc => ?_) (fun hc => ?_)
    · have hp := hp.2 hc
      refine lv_iconst (v := -1) (pc := 52) hx hb d_Mo_byteOf_52 (by decide) ?_
      exact ret_ip hC hr hlk hw hp d_Mo_byteOf_53
    · have hp := hp.1 hc
      refine lv_iload_n (pc := 17) hx hb d_Mo_byteOf_17 rfl (lv_at hl 2 rfl) ?_
      refine lv_if_lt (pc := 18) (tgt := 52) hx hb d_Mo_byteOf_18 rfl (fun hc => ?_) (fun hc => ?_)
      · have hp := hp.1 hc
        refine lv_iconst (v := -1) (pc := 52) hx hb d_Mo_byteOf_52 (by decide) ?_
        exact ret_ip hC hr hlk hw hp d_Mo_byteOf_53
      · have hp := hp.2 hc
        refine lv_iload_n (pc := 21) hx hb d_Mo_byteOf_21 rfl (lv_at hl 2 rfl) ?_
        refine lv_aload_n (pc := 22) hx hb d_Mo_byteOf_22 rfl (lv_at hl 0 rfl) ?_
        obtain ⟨k5, hp⟩ := hp
        refine gf_Mo_32 (pc := 23) hC hw k0 (Nat.ne_of_gt k5.1) d_Mo_byteOf_23 ?_
        refine lv_iload_n (pc := 26) hx hb d_Mo_byteOf_26 rfl (lv_at hl 1 rfl) ?_
        obtain ⟨k6, hp⟩ := hp
        refine fm_iald (pc := 27) hC hw k5 k6 rfl d_Mo_byteOf_27 ?_
        refine lv_icmp_ge (pc := 28) (tgt := 52) hx hb d_Mo_byteOf_28 rfl (fun hc => ?_) (fun hc => ?_)
        · have hp := hp.1 hc
          refine lv_iconst (v := -1) (pc := 52) hx hb d_Mo_byteOf_52 (by decide) ?_
          exact ret_ip hC hr hlk hw hp d_Mo_byteOf_53
        · have hp := hp.2 hc
          refine lv_aload_n (pc := 31) hx hb d_Mo_byteOf_31 rfl (lv_at hl 0 rfl) ?_
          refine lv_aload_n (pc := 32) hx hb d_Mo_byteOf_32 rfl (lv_at hl 0 rfl) ?_
          obtain ⟨k7, hp⟩ := hp
          refine gf_Mo_26 (pc := 33) hC hw k0 (Nat.ne_of_gt k7.1) d_Mo_byteOf_33 ?_
          refine lv_iload_n (pc := 36) hx hb d_Mo_byteOf_36 rfl (lv_at hl 1 rfl) ?_
          obtain ⟨k8, hp⟩ := hp
          refine fm_iald (pc := 37) hC hw k7 k8 rfl d_Mo_byteOf_37 ?_
          refine lv_aload_n (pc := 38) hx hb d_Mo_byteOf_38 rfl (lv_at hl 0 rfl) ?_
          obtain ⟨k9, hp⟩ := hp
          refine gf_Mo_29 (pc := 39) hC hw k0 (Nat.ne_of_gt k9.1) d_Mo_byteOf_39 ?_
          refine lv_iload_n (pc := 42) hx hb d_Mo_byteOf_42 rfl (lv_at hl 1 rfl) ?_
          obtain ⟨k10, hp⟩ := hp
          refine fm_iald (pc := 43) hC hw k9 k10 rfl d_Mo_byteOf_43 ?_
          refine lv_iload_n (pc := 44) hx hb d_Mo_byteOf_44 rfl (lv_at hl 2 rfl) ?_
          refine lv_iadd (pc := 45) hx hb d_Mo_byteOf_45 ?_
          refine call_ip (pc := 46) (fun _ h => h) hw (fm_runV (As := [.int (M (R h 16) x1.toNatClampNeg), .int ((M (R h 17) x1.toNatClampNeg) + x2)]) (rest := []) hC hw (c_Mo_content2 l D dA b n T R M sz h (M (R h 16) x1.toNatClampNeg) ((M (R h 17) x1.toNatClampNeg) + x2) _) cy_Mo_content2 hp rfl rfl mw_364 mw_365 mw_366 (rfl : classes[11]? = _) (by decide) k0 ⟨Nat.le_of_ble_eq_true rfl, Nat.le_of_ble_eq_true rfl⟩ rfl hl.1 rfl (Nat.le_of_ble_eq_true rfl) d_Mo_byteOf_46 ⟨(Nat.le_of_ble_eq_true rfl), (Nat.le_of_ble_eq_true rfl)⟩) (fun r11 H locs hp hw => ?_)
          refine lv_goto (pc := 49) (tgt := 53) hx hb d_Mo_byteOf_49 rfl ?_
          exact ret_ip hC hr hlk hw hp d_Mo_byteOf_53
set_option maxHeartbeats 4000000 in
set_option maxRecDepth 100000 in
theorem c_Mo_noSide (l : Launch) (D : va_G) (dA : Nat → ClassId) (b n : Nat) (T : mT) (R : mR) (M : mM) (sz : Nat) (x1 : Int32) (Q : Int32 → Prop) : Met l y_Mo_noSide (Cond.code y_Mo_noSide b_Mo_noSide 1 (some .boolean) :: tW) ({ frames := 0, cells := 0, slots := 0, locals := 0 }) (Pm D dA b n T R M sz [.int x1] (w_Mo_noSide n T R M x1 Q)) (Qzp D dA (An b n) b n T R M sz Q) 0 0 (An b n) := by
  refine fm_body (An b n) (by decide) (Nat.le_of_ble_eq_true rfl) (fun k h0 h1 => ⟨by omega, by omega⟩) (fun p e s m below meth c ls hC hr hlk hnm hl hw hp => ?_)
  have hx := hC.1.1
  have hb := hC.1.2.1
  have hl : lv_has ls 1 [(0, .int x1)] := hl
  generalize hav : (List.toArray ([.int x1] : List Value)) = av at hC ⊢
  unfold w_Mo_noSide at hp
  refine lv_iload_n (pc := 0) hx hb d_Mo_noSide_0 rfl (lv_at hl 0 rfl) ?_
  refine lv_if_lt (pc := 1) (tgt := 9) hx hb d_Mo_noSide_1 rfl (fun hc => ?_) (fun hc => ?_)
  · have hp := hp.1 hc
    refine lv_iconst (v := 1) (pc := 9) hx hb d_Mo_noSide_9 (by decide) ?_
    refine lv_goto (pc := 10) (tgt := 14) hx hb d_Mo_noSide_10 rfl ?_
    exact ret_zp hC hr hlk hw (Or.inr rfl) hp d_Mo_noSide_14
  · have hp := hp.2 hc
    refine lv_iload_n (pc := 4) hx hb d_Mo_noSide_4 rfl (lv_at hl 0 rfl) ?_
    refine lv_iconst (v := 1) (pc := 5) hx hb d_Mo_noSide_5 (by decide) ?_
    refine lv_icmp_le (pc := 6) (tgt := 13) hx hb d_Mo_noSide_6 rfl (fun hc => ?_) (fun hc => ?_)
    · have hp := hp.1 hc
      refine lv_iconst (v := 0) (pc := 13) hx hb d_Mo_noSide_13 (by decide) ?_
      exact ret_zp hC hr hlk hw (Or.inl rfl) hp d_Mo_noSide_14
    · have hp := hp.2 hc
      refine lv_iconst (v := 1) (pc := 9) hx hb d_Mo_noSide_9 (by decide) ?_
      refine lv_goto (pc := 10) (tgt := 14) hx hb d_Mo_noSide_10 rfl ?_
      exact ret_zp hC hr hlk hw (Or.inr rfl) hp d_Mo_noSide_14
set_option maxHeartbeats 4000000 in
set_option maxRecDepth 100000 in
theorem c_Mo_state (l : Launch) (D : va_G) (dA : Nat → ClassId) (b n : Nat) (T : mT) (R : mR) (M : mM) (sz : Nat) (h : Nat) (x1 : Int32) (Q : Int32 → Prop) : Met l y_Mo_state (Cond.code y_Mo_state b_Mo_state 2 (some .int) :: tW) ({ frames := 1, cells := 0, slots := 0, locals := 20 }) (Pm D dA b n T R M sz [.ref (b + h), .int x1] (w_Mo_state n T R M h x1 Q)) (Qip D dA (An b n) b n T R M sz Q) 0 0 (An b n) := by
  refine fm_body (An b n) (by decide) (Nat.le_of_ble_eq_true rfl) (fun k h0 h1 => ⟨by omega, by omega⟩) (fun p e s m below meth c ls hC hr hlk hnm hl hw hp => ?_)
  have hx := hC.1.1
  have hb := hC.1.2.1
  have hl : lv_has ls 2 [(0, .ref (b + h)), (1, .int x1)] := hl
  generalize hav : (List.toArray ([.ref (b + h), .int x1] : List Value)) = av at hC ⊢
  unfold w_Mo_state at hp
  obtain ⟨k0, hp⟩ := hp
  refine lv_iload_n (pc := 0) hx hb d_Mo_state_0 rfl (lv_at hl 1 rfl) ?_
  refine call_zp (pc := 1) (fun _ h => h) hw (fm_runS (As := [.int x1]) (rest := []) hC hw (c_Mo_noSide l D dA b n T R M sz x1 _) cy_Mo_noSide hp rfl rfl mw_439 mw_440 ⟨Nat.le_of_ble_eq_true rfl, Nat.le_of_ble_eq_true rfl⟩ rfl hl.1 rfl (Nat.le_of_ble_eq_true rfl) d_Mo_state_1 ⟨(Nat.le_of_ble_eq_true rfl), (Nat.le_of_ble_eq_true rfl)⟩) (fun r1 H locs hp z2 hw => ?_)
  refine lv_if_eq (pc := 4) (tgt := 11) hx hb d_Mo_state_4 rfl (fun hc => ?_) (fun hc => ?_)
  · have hp := hp.1 hc
    refine lv_aload_n (pc := 11) hx hb d_Mo_state_11 rfl (lv_at hl 0 rfl) ?_
    obtain ⟨k3, hp⟩ := hp
    refine gf_Mo_41 (pc := 12) hC hw k0 (Nat.ne_of_gt k3.1) d_Mo_state_12 ?_
    refine lv_iload_n (pc := 15) hx hb d_Mo_state_15 rfl (lv_at hl 1 rfl) ?_
    obtain ⟨k4, hp⟩ := hp
    refine fm_iald (pc := 16) hC hw k3 k4 rfl d_Mo_state_16 ?_
    exact ret_ip hC hr hlk hw hp d_Mo_state_17
  · have hp := hp.2 hc
    refine lv_iconst (v := -1) (pc := 7) hx hb d_Mo_state_7 (by decide) ?_
    refine lv_goto (pc := 8) (tgt := 17) hx hb d_Mo_state_8 rfl ?_
    exact ret_ip hC hr hlk hw hp d_Mo_state_17
set_option maxHeartbeats 4000000 in
set_option maxRecDepth 100000 in
theorem c_Mo_transcript (l : Launch) (D : va_G) (dA : Nat → ClassId) (b n : Nat) (T : mT) (R : mR) (M : mM) (sz : Nat) (h : Nat) (x1 : Int32) (Q : Int32 → Prop) : Met l y_Mo_transcript (Cond.code y_Mo_transcript b_Mo_transcript 2 (some .int) :: tW) ({ frames := 3, cells := 0, slots := 0, locals := 68 }) (Pm D dA b n T R M sz [.ref (b + h), .int x1] (w_Mo_transcript n T R M h x1 Q)) (Qip D dA (An b n) b n T R M sz Q) 0 0 (An b n) := by
  refine fm_body (An b n) (by decide) (Nat.le_of_ble_eq_true rfl) (fun k h0 h1 => ⟨by omega, by omega⟩) (fun p e s m below meth c ls hC hr hlk hnm hl hw hp => ?_)
  have hx := hC.1.1
  have hb := hC.1.2.1
  have hl : lv_has ls 2 [(0, .ref (b + h)), (1, .int x1)] := hl
  generalize hav : (List.toArray ([.ref (b + h), .int x1] : List Value)) = av at hC ⊢
  unfold w_Mo_transcript at hp
  obtain ⟨k0, hp⟩ := hp
  refine lv_iload_n (pc := 0) hx hb d_Mo_transcript_0 rfl (lv_at hl 1 rfl) ?_
  refine call_zp (pc := 1) (fun _ h => h) hw (fm_runS (As := [.int x1]) (rest := []) hC hw (c_Mo_noSide l D dA b n T R M sz x1 _) cy_Mo_noSide hp rfl rfl mw_439 mw_440 ⟨Nat.le_of_ble_eq_true rfl, Nat.le_of_ble_eq_true rfl⟩ rfl hl.1 rfl (Nat.le_of_ble_eq_true rfl) d_Mo_transcript_1 ⟨(Nat.le_of_ble_eq_true rfl), (Nat.le_of_ble_eq_true rfl)⟩) (fun r1 H locs hp z2 hw => ?_)
  refine lv_if_eq (pc := 4) (tgt := 11) hx hb d_Mo_transcript_4 rfl (fun hc => ?_) (fun hc => ?_)
  · have hp := hp.1 hc
    refine lv_aload_n (pc := 11) hx hb d_Mo_transcript_11 rfl (lv_at hl 0 rfl) ?_
    refine lv_aload_n (pc := 12) hx hb d_Mo_transcript_12 rfl (lv_at hl 0 rfl) ?_
    obtain ⟨k3, hp⟩ := hp
    refine gf_Mo_44 (pc := 13) hC hw k0 (Nat.ne_of_gt k3.1) d_Mo_transcript_13 ?_
    refine lv_iload_n (pc := 16) hx hb d_Mo_transcript_16 rfl (lv_at hl 1 rfl) ?_
    obtain ⟨k4, hp⟩ := hp
    refine fm_iald (pc := 17) hC hw k3 k4 rfl d_Mo_transcript_17 ?_
    refine call_ip (pc := 18) (fun _ h => h) hw (fm_runV (As := [.int (M (R h 22) x1.toNatClampNeg)]) (rest := []) hC hw (c_Mo_told l D dA b n T R M sz h (M (R h 22) x1.toNatClampNeg) _) cy_Mo_told hp rfl rfl mw_369 mw_370 mw_371 (rfl : classes[11]? = _) (by decide) k0 ⟨Nat.le_of_ble_eq_true rfl, Nat.le_of_ble_eq_true rfl⟩ rfl hl.1 rfl (Nat.le_of_ble_eq_true rfl) d_Mo_transcript_18 ⟨(Nat.le_of_ble_eq_true rfl), (Nat.le_of_ble_eq_true rfl)⟩) (fun r5 H locs hp hw => ?_)
    exact ret_ip hC hr hlk hw hp d_Mo_transcript_21
  · have hp := hp.2 hc
    refine lv_iconst (v := 0) (pc := 7) hx hb d_Mo_transcript_7 (by decide) ?_
    refine lv_goto (pc := 8) (tgt := 21) hx hb d_Mo_transcript_8 rfl ?_
    exact ret_ip hC hr hlk hw hp d_Mo_transcript_21
set_option maxHeartbeats 4000000 in
set_option maxRecDepth 100000 in
theorem c_Mo_open (l : Launch) (D : va_G) (dA : Nat → ClassId) (b n : Nat) (T : mT) (R : mR) (M : mM) (sz : Nat) (h : Nat) (x1 : Int32) (Q : Int32 → Prop) : Met l y_Mo_open (Cond.code y_Mo_open b_Mo_open 2 (some .int) :: tW) ({ frames := 1, cells := 0, slots := 0, locals := 23 }) (Pm D dA b n T R M sz [.ref (b + h), .int x1] (w_Mo_open n T R M h x1 Q)) (Qip D dA (An b n) b n T R M sz Q) 0 0 (An b n) := by
  refine fm_body (An b n) (by decide) (Nat.le_of_ble_eq_true rfl) (fun k h0 h1 => ⟨by omega, by omega⟩) (fun p e s m below meth c ls hC hr hlk hnm hl hw hp => ?_)
  have hx := hC.1.1
  have hb := hC.1.2.1
  have hl : lv_has ls 2 [(0, .ref (b + h)), (1, .int x1)] := hl
  generalize hav : (List.toArray ([.ref (b + h), .int x1] : List Value)) = av at hC ⊢
  unfold w_Mo_open at hp
  obtain ⟨k0, hp⟩ := hp
  refine lv_iload_n (pc := 0) hx hb d_Mo_open_0 rfl (lv_at hl 1 rfl) ?_
  refine call_zp (pc := 1) (fun _ h => h) hw (fm_runS (As := [.int x1]) (rest := []) hC hw (c_Mo_noSide l D dA b n T R M sz x1 _) cy_Mo_noSide hp rfl rfl mw_439 mw_440 ⟨Nat.le_of_ble_eq_true rfl, Nat.le_of_ble_eq_true rfl⟩ rfl hl.1 rfl (Nat.le_of_ble_eq_true rfl) d_Mo_open_1 ⟨(Nat.le_of_ble_eq_true rfl), (Nat.le_of_ble_eq_true rfl)⟩) (fun r1 H locs hp z2 hw => ?_)
  refine lv_if_eq (pc := 4) (tgt := 11) hx hb d_Mo_open_4 rfl (fun hc => ?_) (fun hc => ?_)
  · have hp := hp.1 hc
    refine lv_aload_n (pc := 11) hx hb d_Mo_open_11 rfl (lv_at hl 0 rfl) ?_
    refine lv_iload_n (pc := 12) hx hb d_Mo_open_12 rfl (lv_at hl 1 rfl) ?_
    refine call_ip (pc := 13) (fun _ h => h) hw (fm_runV (As := [.int x1]) (rest := []) hC hw (c_Mo_openOf l D dA b n T R M sz h x1 _) cy_Mo_openOf hp rfl rfl mw_390 mw_391 mw_392 (rfl : classes[11]? = _) (by decide) k0 ⟨Nat.le_of_ble_eq_true rfl, Nat.le_of_ble_eq_true rfl⟩ rfl hl.1 rfl (Nat.le_of_ble_eq_true rfl) d_Mo_open_13 ⟨(Nat.le_of_ble_eq_true rfl), (Nat.le_of_ble_eq_true rfl)⟩) (fun r3 H locs hp hw => ?_)
    exact ret_ip hC hr hlk hw hp d_Mo_open_16
  · have hp := hp.2 hc
    refine lv_iconst (v := -1) (pc := 7) hx hb d_Mo_open_7 (by decide) ?_
    refine lv_goto (pc := 8) (tgt := 16) hx hb d_Mo_open_8 rfl ?_
    exact ret_ip hC hr hlk hw hp d_Mo_open_16
set_option maxHeartbeats 4000000 in
set_option maxRecDepth 100000 in
theorem c_Mo_kept (l : Launch) (D : va_G) (dA : Nat → ClassId) (b n : Nat) (T : mT) (R : mR) (M : mM) (sz : Nat) (h : Nat) (x1 : Int32) (Q : Int32 → Prop) : Met l y_Mo_kept (Cond.code y_Mo_kept b_Mo_kept 5 (some .int) :: tW) ({ frames := 1, cells := 0, slots := 0, locals := 20 }) (Pm D dA b n T R M sz [.ref (b + h), .int x1] (w_Mo_kept n T R M h x1 Q)) (Qip D dA (An b n) b n T R M sz Q) 0 0 (An b n) := by
  refine fm_body (An b n) (by decide) (Nat.le_of_ble_eq_true rfl) (fun k h0 h1 => ⟨by omega, by omega⟩) (fun p e s m below meth c ls hC hr hlk hnm hl hw hp => ?_)
  have hx := hC.1.1
  have hb := hC.1.2.1
  have hl : lv_has ls 5 [(0, .ref (b + h)), (1, .int x1)] := hl
  generalize hav : (List.toArray ([.ref (b + h), .int x1] : List Value)) = av at hC ⊢
  unfold w_Mo_kept at hp
  obtain ⟨k0, hp⟩ := hp
  have L13 : ∀ (N13 : Nat) (a0 : Nat) (a1 : Int32) (a2 : Int32) (a3 : Int32)   (ls : Array Slot) (H : Heap) (locs : List Loc), ok T n a0 11 → lv_has ls 5 [(0, .ref (b + a0)), (1, .int a1), (2, .int a2), (3, .int a3)] → St D dA (An b n) b n T R M sz s.heap H locs → w_Mo_kept_L13 n T R M Q a0 a1 N13 a2 a3 → W p l e ({ frames := 1, cells := 0, slots := 0, locals := 20 }) s m av below meth c H locs 0 0 (MQ below (Qip D dA (An b n) b n T R M sz Q) av s 0 0 (An b n)) (F0 m 13 ls []) := by
    intro N13
    induction N13 with
    | zero => intro a0 a1 a2 a3 ls H locs f3 hl hw hp; exact False.elim hp
    | succ N13 ih13 =>
      intro a0 a1 a2 a3 ls H locs f3 hl hw hp
      unfold w_Mo_kept_L13 at hp
      refine lv_iload_n (pc := 13) hx hb d_Mo_kept_13 rfl (lv_at hl 3 rfl) ?_
      refine lv_bipush (v := 6) (pc := 14) hx hb d_Mo_kept_14 (by decide) ?_
      refine lv_icmp_gt (pc := 16) (tgt := 80) hx hb d_Mo_kept_16 rfl (fun hc => ?_) (fun hc => ?_)
      · have hp := hp.1 hc
        refine lv_iload_n (pc := 80) hx hb d_Mo_kept_80 rfl (lv_at hl 2 rfl) ?_
        exact ret_ip hC hr hlk hw hp d_Mo_kept_81
      · have hp := hp.2 hc
        refine lv_iconst (v := 0) (pc := 19) hx hb d_Mo_kept_19 (by decide) ?_
        refine lv_istore (pc := 20) hx hb d_Mo_kept_20 hl (by decide) rfl (fun ls hl => ?_)
        have hl : lv_has ls 5 [(4, .int (0 : Int32)), (0, .ref (b + a0)), (1, .int a1), (2, .int a2), (3, .int a3)] := hl
        have L22 : ∀ (N22 : Nat) (a0 : Nat) (a1 : Int32) (a2 : Int32) (a3 : Int32) (a4 : Int32)   (ls : Array Slot) (H : Heap) (locs : List Loc), ok T n a0 11 → lv_has ls 5 [(0, .ref (b + a0)), (1, .int a1), (2, .int a2), (3, .int a3), (4, .int a4)] → St D dA (An b n) b n T R M sz s.heap H locs → w_Mo_kept_L22 n T R M Q (fun a0 a1 a2 a3 => w_Mo_kept_L13 n T R M Q a0 a1 N13 a2 a3) a0 a1 a3 N22 a2 a4 → W p l e ({ frames := 1, cells := 0, slots := 0, locals := 20 }) s m av below meth c H locs 0 0 (MQ below (Qip D dA (An b n) b n T R M sz Q) av s 0 0 (An b n)) (F0 m 22 ls []) := by
          intro N22
          induction N22 with
          | zero => intro a0 a1 a2 a3 a4 ls H locs f4 hl hw hp; exact False.elim hp
          | succ N22 ih22 =>
            intro a0 a1 a2 a3 a4 ls H locs f4 hl hw hp
            unfold w_Mo_kept_L22 at hp
            refine lv_iload (pc := 22) hx hb d_Mo_kept_22 (lv_at hl 4 rfl) ?_
            refine lv_bipush (v := 48) (pc := 24) hx hb d_Mo_kept_24 (by decide) ?_
            refine lv_icmp_ge (pc := 26) (tgt := 74) hx hb d_Mo_kept_26 rfl (fun hc => ?_) (fun hc => ?_)
            · have hp := hp.1 hc
              obtain ⟨v5, ev5⟩ : ∃ z : Int32, z = a3 + (1 : Int32) := ⟨_, rfl⟩
              have hp := hp v5 ev5
              refine lv_iinc (pc := 74) (k := 3) (v := v5) hx hb d_Mo_kept_74 hl rfl ev5.symm (by decide) rfl (fun ls hl => ?_)
              have hl : lv_has ls 5 [(3, .int v5), (0, .ref (b + a0)), (1, .int a1), (2, .int a2), (4, .int a4)] := hl
              refine lv_goto (pc := 77) (tgt := 13) hx hb d_Mo_kept_77 rfl ?_
              exact ih13  a0 a1 a2 v5 ls _ _ f4 (lv_sub hl [1, 2, 3, 0] rfl) hw hp
            · have hp := hp.2 hc
              refine lv_iload_n (pc := 29) hx hb d_Mo_kept_29 rfl (lv_at hl 2 rfl) ?_
              refine lv_iload_n (pc := 30) hx hb d_Mo_kept_30 rfl (lv_at hl 1 rfl) ?_
              refine lv_if_ne (pc := 31) (tgt := 65) hx hb d_Mo_kept_31 rfl (fun hc => ?_) (fun hc => ?_)
              · have hp := hp.2 hc
                refine lv_iconst (v := 0) (pc := 65) hx hb d_Mo_kept_65 (by decide) ?_
                refine lv_iadd (pc := 66) hx hb d_Mo_kept_66 ?_
                refine lv_topi (fun v16 ev16 => ?_)
                have hp := hp v16 ev16
                refine lv_istore_n (pc := 67) hx hb d_Mo_kept_67 rfl hl (by decide) rfl (fun ls hl => ?_)
                have hl : lv_has ls 5 [(2, .int v16), (0, .ref (b + a0)), (1, .int a1), (3, .int a3), (4, .int a4)] := hl
                obtain ⟨v17, ev17⟩ : ∃ z : Int32, z = a4 + (1 : Int32) := ⟨_, rfl⟩
                have hp := hp v17 ev17
                refine lv_iinc (pc := 68) (k := 4) (v := v17) hx hb d_Mo_kept_68 hl rfl ev17.symm (by decide) rfl (fun ls hl => ?_)
                have hl : lv_has ls 5 [(4, .int v17), (2, .int v16), (0, .ref (b + a0)), (1, .int a1), (3, .int a3)] := hl
                refine lv_goto (pc := 71) (tgt := 22) hx hb d_Mo_kept_71 rfl ?_
                exact ih22  a0 a1 v16 a3 v17 ls _ _ f4 (lv_sub hl [2, 3, 1, 4, 0] rfl) hw hp
              · have hp := hp.1 hc
                refine lv_iload_n (pc := 34) hx hb d_Mo_kept_34 rfl (lv_at hl 3 rfl) ?_
                refine lv_aload_n (pc := 35) hx hb d_Mo_kept_35 rfl (lv_at hl 0 rfl) ?_
                obtain ⟨k6, hp⟩ := hp
                refine gf_Mo_44 (pc := 36) hC hw f4 (Nat.ne_of_gt k6.1) d_Mo_kept_36 ?_
                refine lv_iconst (v := 0) (pc := 39) hx hb d_Mo_kept_39 (by decide) ?_
                obtain ⟨k7, hp⟩ := hp
                refine fm_iald (pc := 40) hC hw k6 k7 (show Int32.toNatClampNeg (0 : Int32) = 0 by decide) d_Mo_kept_40 ?_
                refine lv_icmp_lt (pc := 41) (tgt := 65) hx hb d_Mo_kept_41 rfl (fun hc => ?_) (fun hc => ?_)
                · have hp := hp.1 hc
                  refine lv_iconst (v := 0) (pc := 65) hx hb d_Mo_kept_65 (by decide) ?_
                  refine lv_iadd (pc := 66) hx hb d_Mo_kept_66 ?_
                  refine lv_topi (fun v8 ev8 => ?_)
                  have hp := hp v8 ev8
                  refine lv_istore_n (pc := 67) hx hb d_Mo_kept_67 rfl hl (by decide) rfl (fun ls hl => ?_)
                  have hl : lv_has ls 5 [(2, .int v8), (0, .ref (b + a0)), (1, .int a1), (3, .int a3), (4, .int a4)] := hl
                  obtain ⟨v9, ev9⟩ : ∃ z : Int32, z = a4 + (1 : Int32) := ⟨_, rfl⟩
                  have hp := hp v9 ev9
                  refine lv_iinc (pc := 68) (k := 4) (v := v9) hx hb d_Mo_kept_68 hl rfl ev9.symm (by decide) rfl (fun ls hl => ?_)
                  have hl : lv_has ls 5 [(4, .int v9), (2, .int v8), (0, .ref (b + a0)), (1, .int a1), (3, .int a3)] := hl
                  refine lv_goto (pc := 71) (tgt := 22) hx hb d_Mo_kept_71 rfl ?_
                  exact ih22  a0 a1 v8 a3 v9 ls _ _ f4 (lv_sub hl [2, 3, 1, 4, 0] rfl) hw hp
                · have hp := hp.2 hc
                  refine lv_aload_n (pc := 44) hx hb d_Mo_kept_44 rfl (lv_at hl 0 rfl) ?_
                  obtain ⟨k10, hp⟩ := hp
                  refine gf_Mo_101 (pc := 45) hC hw f4 (Nat.ne_of_gt k10.1) d_Mo_kept_45 ?_
                  refine lv_bipush (v := 48) (pc := 48) hx hb d_Mo_kept_48 (by decide) ?_
                  refine lv_iload_n (pc := 50) hx hb d_Mo_kept_50 rfl (lv_at hl 3 rfl) ?_
                  refine lv_iconst (v := 3) (pc := 51) hx hb d_Mo_kept_51 (by decide) ?_
                  refine lv_isub (pc := 52) hx hb d_Mo_kept_52 ?_
                  refine lv_imul (pc := 53) hx hb d_Mo_kept_53 ?_
                  refine lv_iload (pc := 54) hx hb d_Mo_kept_54 (lv_at hl 4 rfl) ?_
                  refine lv_iadd (pc := 56) hx hb d_Mo_kept_56 ?_
                  obtain ⟨k11, hp⟩ := hp
                  refine fm_zald (pc := 57) hC hw k10 k11 rfl d_Mo_kept_57 ?_
                  refine lv_if_eq (pc := 58) (tgt := 65) hx hb d_Mo_kept_58 rfl (fun hc => ?_) (fun hc => ?_)
                  · have hp := hp.1 hc
                    refine lv_iconst (v := 0) (pc := 65) hx hb d_Mo_kept_65 (by decide) ?_
                    refine lv_iadd (pc := 66) hx hb d_Mo_kept_66 ?_
                    refine lv_topi (fun v12 ev12 => ?_)
                    have hp := hp v12 ev12
                    refine lv_istore_n (pc := 67) hx hb d_Mo_kept_67 rfl hl (by decide) rfl (fun ls hl => ?_)
                    have hl : lv_has ls 5 [(2, .int v12), (0, .ref (b + a0)), (1, .int a1), (3, .int a3), (4, .int a4)] := hl
                    obtain ⟨v13, ev13⟩ : ∃ z : Int32, z = a4 + (1 : Int32) := ⟨_, rfl⟩
                    have hp := hp v13 ev13
                    refine lv_iinc (pc := 68) (k := 4) (v := v13) hx hb d_Mo_kept_68 hl rfl ev13.symm (by decide) rfl (fun ls hl => ?_)
                    have hl : lv_has ls 5 [(4, .int v13), (2, .int v12), (0, .ref (b + a0)), (1, .int a1), (3, .int a3)] := hl
                    refine lv_goto (pc := 71) (tgt := 22) hx hb d_Mo_kept_71 rfl ?_
                    exact ih22  a0 a1 v12 a3 v13 ls _ _ f4 (lv_sub hl [2, 3, 1, 4, 0] rfl) hw hp
                  · have hp := hp.2 hc
                    refine lv_iconst (v := 1) (pc := 61) hx hb d_Mo_kept_61 (by decide) ?_
                    refine lv_goto (pc := 62) (tgt := 66) hx hb d_Mo_kept_62 rfl ?_
                    refine lv_iadd (pc := 66) hx hb d_Mo_kept_66 ?_
                    refine lv_topi (fun v14 ev14 => ?_)
                    have hp := hp v14 ev14
                    refine lv_istore_n (pc := 67) hx hb d_Mo_kept_67 rfl hl (by decide) rfl (fun ls hl => ?_)
                    have hl : lv_has ls 5 [(2, .int v14), (0, .ref (b + a0)), (1, .int a1), (3, .int a3), (4, .int a4)] := hl
                    obtain ⟨v15, ev15⟩ : ∃ z : Int32, z = a4 + (1 : Int32) := ⟨_, rfl⟩
                    have hp := hp v15 ev15
                    refine lv_iinc (pc := 68) (k := 4) (v := v15) hx hb d_Mo_kept_68 hl rfl ev15.symm (by decide) rfl (fun ls hl => ?_)
                    have hl : lv_has ls 5 [(4, .int v15), (2, .int v14), (0, .ref (b + a0)), (1, .int a1), (3, .int a3)] := hl
                    refine lv_goto (pc := 71) (tgt := 22) hx hb d_Mo_kept_71 rfl ?_
                    exact ih22  a0 a1 v14 a3 v15 ls _ _ f4 (lv_sub hl [2, 3, 1, 4, 0] rfl) hw hp
        obtain ⟨N22, hp⟩ := hp
        exact L22 N22 a0 a1 a2 a3 (0 : Int32) ls _ _ f3 (lv_sub hl [1, 2, 3, 4, 0] rfl) hw hp
  refine lv_iload_n (pc := 0) hx hb d_Mo_kept_0 rfl (lv_at hl 1 rfl) ?_
  refine call_zp (pc := 1) (fun _ h => h) hw (fm_runS (As := [.int x1]) (rest := []) hC hw (c_Mo_noSide l D dA b n T R M sz x1 _) cy_Mo_noSide hp rfl rfl mw_439 mw_440 ⟨Nat.le_of_ble_eq_true rfl, Nat.le_of_ble_eq_true rfl⟩ rfl hl.1 rfl (Nat.le_of_ble_eq_true rfl) d_Mo_kept_1 ⟨(Nat.le_of_ble_eq_true rfl), (Nat.le_of_ble_eq_true rfl)⟩) (fun r1 H locs hp z2 hw => ?_)
  refine lv_if_eq (pc := 4) (tgt := 9) hx hb d_Mo_kept_4 rfl (fun hc => ?_) (fun hc => ?_)
  · have hp := hp.1 hc
    refine lv_iconst (v := 0) (pc := 9) hx hb d_Mo_kept_9 (by decide) ?_
    refine lv_istore_n (pc := 10) hx hb d_Mo_kept_10 rfl hl (by decide) rfl (fun ls hl => ?_)
    have hl : lv_has ls 5 [(2, .int (0 : Int32)), (0, .ref (b + h)), (1, .int x1)] := hl
    refine lv_iconst (v := 3) (pc := 11) hx hb d_Mo_kept_11 (by decide) ?_
    refine lv_istore_n (pc := 12) hx hb d_Mo_kept_12 rfl hl (by decide) rfl (fun ls hl => ?_)
    have hl : lv_has ls 5 [(3, .int (3 : Int32)), (2, .int (0 : Int32)), (0, .ref (b + h)), (1, .int x1)] := hl
    obtain ⟨N13, hp⟩ := hp
    exact L13 N13 h x1 (0 : Int32) (3 : Int32) ls _ _ k0 (lv_sub hl [2, 3, 1, 0] rfl) hw hp
  · have hp := hp.2 hc
    refine lv_iconst (v := -1) (pc := 7) hx hb d_Mo_kept_7 (by decide) ?_
    exact ret_ip hC hr hlk hw hp d_Mo_kept_8
set_option maxHeartbeats 4000000 in
set_option maxRecDepth 100000 in
theorem c_Mo_received (l : Launch) (D : va_G) (dA : Nat → ClassId) (b n : Nat) (T : mT) (R : mR) (M : mM) (sz : Nat) (h : Nat) (x1 : Int32) (Q : Int32 → Prop) : Met l y_Mo_received (Cond.code y_Mo_received b_Mo_received 2 (some .int) :: tW) ({ frames := 1, cells := 0, slots := 0, locals := 20 }) (Pm D dA b n T R M sz [.ref (b + h), .int x1] (w_Mo_received n T R M h x1 Q)) (Qip D dA (An b n) b n T R M sz Q) 0 0 (An b n) := by
  refine fm_body (An b n) (by decide) (Nat.le_of_ble_eq_true rfl) (fun k h0 h1 => ⟨by omega, by omega⟩) (fun p e s m below meth c ls hC hr hlk hnm hl hw hp => ?_)
  have hx := hC.1.1
  have hb := hC.1.2.1
  have hl : lv_has ls 2 [(0, .ref (b + h)), (1, .int x1)] := hl
  generalize hav : (List.toArray ([.ref (b + h), .int x1] : List Value)) = av at hC ⊢
  unfold w_Mo_received at hp
  obtain ⟨k0, hp⟩ := hp
  refine lv_iload_n (pc := 0) hx hb d_Mo_received_0 rfl (lv_at hl 1 rfl) ?_
  refine call_zp (pc := 1) (fun _ h => h) hw (fm_runS (As := [.int x1]) (rest := []) hC hw (c_Mo_noSide l D dA b n T R M sz x1 _) cy_Mo_noSide hp rfl rfl mw_439 mw_440 ⟨Nat.le_of_ble_eq_true rfl, Nat.le_of_ble_eq_true rfl⟩ rfl hl.1 rfl (Nat.le_of_ble_eq_true rfl) d_Mo_received_1 ⟨(Nat.le_of_ble_eq_true rfl), (Nat.le_of_ble_eq_true rfl)⟩) (fun r1 H locs hp z2 hw => ?_)
  refine lv_if_eq (pc := 4) (tgt := 11) hx hb d_Mo_received_4 rfl (fun hc => ?_) (fun hc => ?_)
  · have hp := hp.1 hc
    refine lv_aload_n (pc := 11) hx hb d_Mo_received_11 rfl (lv_at hl 0 rfl) ?_
    obtain ⟨k3, hp⟩ := hp
    refine gf_Mo_107 (pc := 12) hC hw k0 (Nat.ne_of_gt k3.1) d_Mo_received_12 ?_
    refine lv_iload_n (pc := 15) hx hb d_Mo_received_15 rfl (lv_at hl 1 rfl) ?_
    obtain ⟨k4, hp⟩ := hp
    refine fm_iald (pc := 16) hC hw k3 k4 rfl d_Mo_received_16 ?_
    exact ret_ip hC hr hlk hw hp d_Mo_received_17
  · have hp := hp.2 hc
    refine lv_iconst (v := -1) (pc := 7) hx hb d_Mo_received_7 (by decide) ?_
    refine lv_goto (pc := 8) (tgt := 17) hx hb d_Mo_received_8 rfl ?_
    exact ret_ip hC hr hlk hw hp d_Mo_received_17
set_option maxHeartbeats 4000000 in
set_option maxRecDepth 100000 in
theorem c_Mo_value (l : Launch) (D : va_G) (dA : Nat → ClassId) (b n : Nat) (T : mT) (R : mR) (M : mM) (sz : Nat) (h : Nat) (x1 : Int32) (x2 : Int32) (Q : Int32 → Prop) : Met l y_Mo_value (Cond.code y_Mo_value b_Mo_value 3 (some .int) :: tW) ({ frames := 1, cells := 0, slots := 0, locals := 20 }) (Pm D dA b n T R M sz [.ref (b + h), .int x1, .int x2] (w_Mo_value n T R M h x1 x2 Q)) (Qip D dA (An b n) b n T R M sz Q) 0 0 (An b n) := by
  refine fm_body (An b n) (by decide) (Nat.le_of_ble_eq_true rfl) (fun k h0 h1 => ⟨by omega, by omega⟩) (fun p e s m below meth c ls hC hr hlk hnm hl hw hp => ?_)
  have hx := hC.1.1
  have hb := hC.1.2.1
  have hl : lv_has ls 3 [(0, .ref (b + h)), (1, .int x1), (2, .int x2)] := hl
  generalize hav : (List.toArray ([.ref (b + h), .int x1, .int x2] : List Value)) = av at hC ⊢
  unfold w_Mo_value at hp
  obtain ⟨k0, hp⟩ := hp
  refine lv_iload_n (pc := 0) hx hb d_Mo_value_0 rfl (lv_at hl 1 rfl) ?_
  refine call_zp (pc := 1) (fun _ h => h) hw (fm_runS (As := [.int x1]) (rest := []) hC hw (c_Mo_noSide l D dA b n T R M sz x1 _) cy_Mo_noSide hp rfl rfl mw_439 mw_440 ⟨Nat.le_of_ble_eq_true rfl, Nat.le_of_ble_eq_true rfl⟩ rfl hl.1 rfl (Nat.le_of_ble_eq_true rfl) d_Mo_value_1 ⟨(Nat.le_of_ble_eq_true rfl), (Nat.le_of_ble_eq_true rfl)⟩) (fun r1 H locs hp z2 hw => ?_)
  refine lv_if_ne (pc := 4) (tgt := 21) hx hb d_Mo_value_4 rfl (fun hc => ?_) (fun hc => ?_)
  · have hp := hp.2 hc
    refine lv_iconst (v := 0) (pc := 21) hx hb d_Mo_value_21 (by decide) ?_
    refine lv_goto (pc := 22) (tgt := 36) hx hb d_Mo_value_22 rfl ?_
    exact ret_ip hC hr hlk hw hp d_Mo_value_36
  · have hp := hp.1 hc
    refine lv_iload_n (pc := 7) hx hb d_Mo_value_7 rfl (lv_at hl 2 rfl) ?_
    refine lv_if_lt (pc := 8) (tgt := 21) hx hb d_Mo_value_8 rfl (fun hc => ?_) (fun hc => ?_)
    · have hp := hp.1 hc
      refine lv_iconst (v := 0) (pc := 21) hx hb d_Mo_value_21 (by decide) ?_
      refine lv_goto (pc := 22) (tgt := 36) hx hb d_Mo_value_22 rfl ?_
      exact ret_ip hC hr hlk hw hp d_Mo_value_36
    · have hp := hp.2 hc
      refine lv_iload_n (pc := 11) hx hb d_Mo_value_11 rfl (lv_at hl 2 rfl) ?_
      refine lv_aload_n (pc := 12) hx hb d_Mo_value_12 rfl (lv_at hl 0 rfl) ?_
      obtain ⟨k3, hp⟩ := hp
      refine gf_Mo_107 (pc := 13) hC hw k0 (Nat.ne_of_gt k3.1) d_Mo_value_13 ?_
      refine lv_iload_n (pc := 16) hx hb d_Mo_value_16 rfl (lv_at hl 1 rfl) ?_
      obtain ⟨k4, hp⟩ := hp
      refine fm_iald (pc := 17) hC hw k3 k4 rfl d_Mo_value_17 ?_
      refine lv_icmp_lt (pc := 18) (tgt := 25) hx hb d_Mo_value_18 rfl (fun hc => ?_) (fun hc => ?_)
      · have hp := hp.1 hc
        refine lv_aload_n (pc := 25) hx hb d_Mo_value_25 rfl (lv_at hl 0 rfl) ?_
        obtain ⟨k5, hp⟩ := hp
        refine gf_Mo_104 (pc := 26) hC hw k0 (Nat.ne_of_gt k5.1) d_Mo_value_26 ?_
        refine lv_bipush (v := 60) (pc := 29) hx hb d_Mo_value_29 (by decide) ?_
        refine lv_iload_n (pc := 31) hx hb d_Mo_value_31 rfl (lv_at hl 1 rfl) ?_
        refine lv_imul (pc := 32) hx hb d_Mo_value_32 ?_
        refine lv_iload_n (pc := 33) hx hb d_Mo_value_33 rfl (lv_at hl 2 rfl) ?_
        refine lv_iadd (pc := 34) hx hb d_Mo_value_34 ?_
        obtain ⟨k6, hp⟩ := hp
        refine fm_iald (pc := 35) hC hw k5 k6 rfl d_Mo_value_35 ?_
        exact ret_ip hC hr hlk hw hp d_Mo_value_36
      · have hp := hp.2 hc
        refine lv_iconst (v := 0) (pc := 21) hx hb d_Mo_value_21 (by decide) ?_
        refine lv_goto (pc := 22) (tgt := 36) hx hb d_Mo_value_22 rfl ?_
        exact ret_ip hC hr hlk hw hp d_Mo_value_36
