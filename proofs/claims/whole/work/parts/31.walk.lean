set_option maxHeartbeats 4000000 in
set_option maxRecDepth 100000 in
theorem c_Msg_init (l : Launch) (D : va_G) (dA : Nat → ClassId) (b n : Nat) (T : mT) (R : mR) (M : mM) (h : Nat) (x1 : Int32) (x2 : Int32) (x3 : Int32) (Q : Nat → mT → mR → mM → Prop) : Met l y_Msg_init (Cond.code y_Msg_init b_Msg_init 4 none :: tW) ({ frames := 1, cells := 1, slots := 64, locals := 12 }) (Pm D dA b n T R M (b + n + 1) [.ref (b + h), .int x1, .int x2, .int x3] (w_Msg_init n T R M h x1 x2 x3 Q)) (Qva D dA b  Q) 1 64 (Ab b) := by
  refine fm_body (Ab b) (by decide) (Nat.le_of_ble_eq_true rfl) (fun k h0 _ => show b < b + k by omega) (fun p e s m below meth c ls hC hr hlk hnm hl hw hp => ?_)
  have hx := hC.1.1
  have hb := hC.1.2.1
  have hl : lv_has ls 4 [(0, .ref (b + h)), (1, .int x1), (2, .int x2), (3, .int x3)] := hl
  generalize hav : (List.toArray ([.ref (b + h), .int x1, .int x2, .int x3] : List Value)) = av at hC ⊢
  unfold w_Msg_init at hp
  obtain ⟨k0, hp⟩ := hp
  refine lv_aload_n (pc := 0) hx hb d_Msg_init_0 rfl (lv_at hl 0 rfl) ?_
  refine W.objInit hx hb hC.1.2.2.2.1 (hC.1.2.2.2.2 _ mw_32) (hC.1.2.2.2.2 _ mw_1) (hC.1.2.2.2.2 _ mw_2) rfl (hl.1.trans hC.1.2.2.1.symm) rfl d_Msg_init_1 (Nat.le_of_ble_eq_true rfl) (Nat.le_of_ble_eq_true rfl) ?_
  refine W.eq (g2 := F0 m 4 ls []) rfl ?_
  refine lv_aload_n (pc := 4) hx hb d_Msg_init_4 rfl (lv_at hl 0 rfl) ?_
  refine lv_iload_n (pc := 5) hx hb d_Msg_init_5 rfl (lv_at hl 1 rfl) ?_
  refine pf_Msg_9 (pc := 6) hC hw k0 hnm d_Msg_init_6 (fun M1 H locs eM1 hw => ?_)
  have hp := hp M1 eM1
  refine lv_aload_n (pc := 9) hx hb d_Msg_init_9 rfl (lv_at hl 0 rfl) ?_
  refine lv_iload_n (pc := 10) hx hb d_Msg_init_10 rfl (lv_at hl 2 rfl) ?_
  refine pf_Msg_15 (pc := 11) hC hw k0 hnm d_Msg_init_11 (fun M2 H locs eM2 hw => ?_)
  have hp := hp M2 eM2
  refine lv_aload_n (pc := 14) hx hb d_Msg_init_14 rfl (lv_at hl 0 rfl) ?_
  refine lv_iload_n (pc := 15) hx hb d_Msg_init_15 rfl (lv_at hl 3 rfl) ?_
  obtain ⟨k6, hp⟩ := hp
  refine fm_newi (pc := 16) (N' := x3.toNatClampNeg) hC hw mw_3 k6.1 rfl (by have := k6.2; omega) (Nat.le_of_ble_eq_true rfl) (Nat.le_trans (Nat.add_le_add_left k6.2 _) (Nat.le_of_ble_eq_true rfl)) d_Msg_init_16 (fun T3 R4 M5 H eT3 eR4 eM5 hw => ?_)
  have hp := hp T3 R4 M5 eT3 eR4 eM5
  have k0 := (ok_push eT3 k0 : _)
  have k7 := ok_new eT3
  refine W.widen (k := 1) (n := 64) (Nat.le_refl _) (by have := k6.2; omega) ?_
  refine pf_Msg_18 (pc := 18) hC hw k0 hnm (Nat.ne_of_gt k7.1) d_Msg_init_18 (fun R8 H locs eR8 hw => ?_)
  have hp := hp R8 eR8
  refine W.widen (k := 1) (n := 64) (by decide) (by decide) ?_
  exact ret_va hC hr hlk hw hp d_Msg_init_21
set_option maxHeartbeats 4000000 in
set_option maxRecDepth 100000 in
theorem c_X_mix (l : Launch) (D : va_G) (dA : Nat → ClassId) (b n : Nat) (T : mT) (R : mR) (M : mM) (sz : Nat) (x1 : Int32) (x2 : Int32) (Q : Int32 → Prop) : Met l y_X_mix (Cond.code y_X_mix b_X_mix 3 (some .int) :: tW) ({ frames := 0, cells := 0, slots := 0, locals := 0 }) (Pm D dA b n T R M sz [.int x1, .int x2] (w_X_mix n T R M x1 x2 Q)) (Qip D dA (An b n) b n T R M sz Q) 0 0 (An b n) := by
  refine fm_body (An b n) (by decide) (Nat.le_of_ble_eq_true rfl) (fun k h0 h1 => ⟨by omega, by omega⟩) (fun p e s m below meth c ls hC hr hlk hnm hl hw hp => ?_)
  have hx := hC.1.1
  have hb := hC.1.2.1
  have hl : lv_has ls 3 [(0, .int x1), (1, .int x2)] := hl
  generalize hav : (List.toArray ([.int x1, .int x2] : List Value)) = av at hC ⊢
  unfold w_X_mix at hp
  refine lv_iload_n (pc := 0) hx hb d_X_mix_0 rfl (lv_at hl 0 rfl) ?_
  refine lv_bipush (v := 31) (pc := 1) hx hb d_X_mix_1 (by decide) ?_
  refine lv_imul (pc := 3) hx hb d_X_mix_3 ?_
  refine lv_iload_n (pc := 4) hx hb d_X_mix_4 rfl (lv_at hl 1 rfl) ?_
  refine lv_iadd (pc := 5) hx hb d_X_mix_5 ?_
  refine lv_ldc (v := 739982445) (pc := 6) hx hb hC.1.2.2.2.1 (hC.1.2.2.2.2 _ mw_33) d_X_mix_6 ?_
  refine lv_imul (pc := 8) hx hb d_X_mix_8 ?_
  refine lv_topi (fun v1 ev1 => ?_)
  have hp := hp v1 ev1
  refine lv_istore_n (pc := 9) hx hb d_X_mix_9 rfl hl (by decide) rfl (fun ls hl => ?_)
  have hl : lv_has ls 3 [(2, .int v1), (0, .int x1), (1, .int x2)] := hl
  refine lv_iload_n (pc := 10) hx hb d_X_mix_10 rfl (lv_at hl 0 rfl) ?_
  refine lv_iload_n (pc := 11) hx hb d_X_mix_11 rfl (lv_at hl 0 rfl) ?_
  refine lv_bipush (v := 15) (pc := 12) hx hb d_X_mix_12 (by decide) ?_
  refine lv_iushr (v := jushr v1 (15 : Int32)) (pc := 14) hx hb d_X_mix_14 rfl ?_
  refine lv_ixor (pc := 15) hx hb d_X_mix_15 ?_
  exact ret_ip hC hr hlk hw hp d_X_mix_16
set_option maxHeartbeats 4000000 in
set_option maxRecDepth 100000 in
theorem c_X_clientNumber (l : Launch) (D : va_G) (dA : Nat → ClassId) (b n : Nat) (T : mT) (R : mR) (M : mM) (sz : Nat) (x1 : Int32) (Q : Int32 → Prop) : Met l y_X_clientNumber (Cond.code y_X_clientNumber b_X_clientNumber 1 (some .int) :: tW) ({ frames := 1, cells := 0, slots := 0, locals := 22 }) (Pm D dA b n T R M sz [.int x1] (w_X_clientNumber n T R M x1 Q)) (Qip D dA (An b n) b n T R M sz Q) 0 0 (An b n) := by
  refine fm_body (An b n) (by decide) (Nat.le_of_ble_eq_true rfl) (fun k h0 h1 => ⟨by omega, by omega⟩) (fun p e s m below meth c ls hC hr hlk hnm hl hw hp => ?_)
  have hx := hC.1.1
  have hb := hC.1.2.1
  have hl : lv_has ls 1 [(0, .int x1)] := hl
  generalize hav : (List.toArray ([.int x1] : List Value)) = av at hC ⊢
  unfold w_X_clientNumber at hp
  refine lv_iload_n (pc := 0) hx hb d_X_clientNumber_0 rfl (lv_at hl 0 rfl) ?_
  refine lv_iconst (v := 1) (pc := 1) hx hb d_X_clientNumber_1 (by decide) ?_
  refine call_ip (pc := 2) (fun _ h => h) hw (fm_runS (As := [.int x1, .int (1 : Int32)]) (rest := []) hC hw (c_X_mix l D dA b n T R M sz x1 (1 : Int32) _) cy_X_mix hp rfl rfl mw_34 mw_35 ⟨Nat.le_of_ble_eq_true rfl, Nat.le_of_ble_eq_true rfl⟩ rfl hl.1 rfl (Nat.le_of_ble_eq_true rfl) d_X_clientNumber_2 ⟨(Nat.le_of_ble_eq_true rfl), (Nat.le_of_ble_eq_true rfl)⟩) (fun r1 H locs hp hw => ?_)
  exact ret_ip hC hr hlk hw hp d_X_clientNumber_5
set_option maxHeartbeats 4000000 in
set_option maxRecDepth 100000 in
theorem c_X_proofLength (l : Launch) (D : va_G) (dA : Nat → ClassId) (b n : Nat) (T : mT) (R : mR) (M : mM) (sz : Nat) (x1 : Int32) (Q : Int32 → Prop) : Met l y_X_proofLength (Cond.code y_X_proofLength b_X_proofLength 1 (some .int) :: tW) ({ frames := 0, cells := 0, slots := 0, locals := 0 }) (Pm D dA b n T R M sz [.int x1] (w_X_proofLength n T R M x1 Q)) (Qip D dA (An b n) b n T R M sz Q) 0 0 (An b n) := by
  refine fm_body (An b n) (by decide) (Nat.le_of_ble_eq_true rfl) (fun k h0 h1 => ⟨by omega, by omega⟩) (fun p e s m below meth c ls hC hr hlk hnm hl hw hp => ?_)
  have hx := hC.1.1
  have hb := hC.1.2.1
  have hl : lv_has ls 1 [(0, .int x1)] := hl
  generalize hav : (List.toArray ([.int x1] : List Value)) = av at hC ⊢
  unfold w_X_proofLength at hp
  refine lv_bipush (v := 12) (pc := 0) hx hb d_X_proofLength_0 (by decide) ?_
  refine lv_iload_n (pc := 2) hx hb d_X_proofLength_2 rfl (lv_at hl 0 rfl) ?_
  refine lv_bipush (v := 31) (pc := 3) hx hb d_X_proofLength_3 (by decide) ?_
  refine lv_iand (pc := 5) hx hb d_X_proofLength_5 ?_
  refine lv_iadd (pc := 6) hx hb d_X_proofLength_6 ?_
  exact ret_ip hC hr hlk hw hp d_X_proofLength_7
set_option maxHeartbeats 4000000 in
set_option maxRecDepth 100000 in
theorem c_Client_init (l : Launch) (D : va_G) (dA : Nat → ClassId) (b n : Nat) (T : mT) (R : mR) (M : mM) (h : Nat) (x1 : Int32) (x2 : Int32) (x3 : Nat) (Q : Nat → mT → mR → mM → Prop) : Met l y_Client_init (Cond.code y_Client_init b_Client_init 4 none :: tW) ({ frames := 4, cells := 47, slots := 725, locals := 79 }) (Pm D dA b n T R M (b + n + 1) [.ref (b + h), .int x1, .int x2, .ref (b + x3)] (w_Client_init n T R M h x1 x2 x3 Q)) (Qva D dA b  Q) 47 725 (Ab b) := by
  refine fm_body (Ab b) (by decide) (Nat.le_of_ble_eq_true rfl) (fun k h0 _ => show b < b + k by omega) (fun p e s m below meth c ls hC hr hlk hnm hl hw hp => ?_)
  have hx := hC.1.1
  have hb := hC.1.2.1
  have hl : lv_has ls 4 [(0, .ref (b + h)), (1, .int x1), (2, .int x2), (3, .ref (b + x3))] := hl
  generalize hav : (List.toArray ([.ref (b + h), .int x1, .int x2, .ref (b + x3)] : List Value)) = av at hC ⊢
  unfold w_Client_init at hp
  obtain ⟨k0, hp⟩ := hp
  refine lv_aload_n (pc := 0) hx hb d_Client_init_0 rfl (lv_at hl 0 rfl) ?_
  refine lv_iconst (v := 0) (pc := 1) hx hb d_Client_init_1 (by decide) ?_
  refine lv_iload_n (pc := 2) hx hb d_Client_init_2 rfl (lv_at hl 2 rfl) ?_
  refine lv_aload_n (pc := 3) hx hb d_Client_init_3 rfl (lv_at hl 3 rfl) ?_
  refine lv_iconst (v := 1) (pc := 4) hx hb d_Client_init_4 (by decide) ?_
  refine call_va (pc := 5) (fun _ h => h) hw (fm_runI (As := [.int (0 : Int32), .int x2, .ref (b + x3), .int (1 : Int32)]) (rest := []) hC hw (c_Side_init l D dA b n T R M h (0 : Int32) x2 x3 (1 : Int32) _) cy_Side_init hp rfl rfl mw_36 mw_37 rfl ⟨Nat.le_of_ble_eq_true rfl, Nat.le_of_ble_eq_true rfl⟩ rfl hl.1 rfl (Nat.le_of_ble_eq_true rfl) d_Client_init_5 ⟨(Nat.le_of_ble_eq_true rfl), (Nat.le_of_ble_eq_true rfl)⟩) (fun n1 T2 R3 M4 H locs hp hw => ?_)
  refine W.widen (k := 38) (n := 451) (Nat.le_of_ble_eq_true rfl) (Nat.le_of_ble_eq_true rfl) ?_
  refine lv_aload_n (pc := 8) hx hb d_Client_init_8 rfl (lv_at hl 0 rfl) ?_
  refine fm_new (pc := 9) hC hw hin_Msg t_Msg t_Msg_ok mw_38 mw_39 mw_40 (rfl : classes[0]? = _) (by decide) (by decide) df_Msg (Nat.le_of_ble_eq_true rfl) (Nat.le_of_ble_eq_true rfl) d_Client_init_9 (fun T5 R6 M7 H eT5 eR6 eM7 hw => ?_)
  have hp := hp T5 R6 M7 eT5 eR6 eM7
  have k8 := ok_new eT5
  refine W.widen (k := 39) (n := 454) (Nat.le_of_ble_eq_true rfl) (Nat.le_of_ble_eq_true rfl) ?_
  refine lv_dup (pc := 12) hx hb d_Client_init_12 rfl ?_
  refine lv_iconst (v := 0) (pc := 13) hx hb d_Client_init_13 (by decide) ?_
  refine lv_iconst (v := 0) (pc := 14) hx hb d_Client_init_14 (by decide) ?_
  refine lv_bipush (v := 8) (pc := 15) hx hb d_Client_init_15 (by decide) ?_
  refine call_va (pc := 17) (fun _ h => h) hw (fm_runI (As := [.int (0 : Int32), .int (0 : Int32), .int (8 : Int32)]) (rest := [.ref (b + (n1 + 1)), .ref (b + h)]) hC hw (c_Msg_init l D dA b (n1 + 1) T5 R6 M7 (n1 + 1) (0 : Int32) (0 : Int32) (8 : Int32) _) cy_Msg_init hp rfl rfl mw_41 mw_42 rfl ⟨Nat.le_of_ble_eq_true rfl, Nat.le_of_ble_eq_true rfl⟩ rfl hl.1 rfl (Nat.le_of_ble_eq_true rfl) d_Client_init_17 ⟨(Nat.le_of_ble_eq_true rfl), (Nat.le_of_ble_eq_true rfl)⟩) (fun n9 T10 R11 M12 H locs hp hw => ?_)
  refine W.widen (k := 40) (n := 518) (Nat.le_of_ble_eq_true rfl) (Nat.le_of_ble_eq_true rfl) ?_
  obtain ⟨k13, hp⟩ := hp
  obtain ⟨k14, hp⟩ := hp
  refine pf_Client_14 (pc := 20) hC hw k13 hnm (Nat.ne_of_gt k14.1) d_Client_init_20 (fun R15 H locs eR15 hw => ?_)
  have hp := hp R15 eR15
  refine lv_aload_n (pc := 23) hx hb d_Client_init_23 rfl (lv_at hl 0 rfl) ?_
  refine fm_new (pc := 24) hC hw hin_Msg t_Msg t_Msg_ok mw_38 mw_39 mw_40 (rfl : classes[0]? = _) (by decide) (by decide) df_Msg (Nat.le_of_ble_eq_true rfl) (Nat.le_of_ble_eq_true rfl) d_Client_init_24 (fun T16 R17 M18 H eT16 eR17 eM18 hw => ?_)
  have hp := hp T16 R17 M18 eT16 eR17 eM18
  have k13 := (ok_push eT16 k13 : _)
  have k14 := (ok_push eT16 k14 : _)
  have k19 := ok_new eT16
  refine W.widen (k := 41) (n := 521) (Nat.le_of_ble_eq_true rfl) (Nat.le_of_ble_eq_true rfl) ?_
  refine lv_dup (pc := 27) hx hb d_Client_init_27 rfl ?_
  refine lv_iconst (v := 1) (pc := 28) hx hb d_Client_init_28 (by decide) ?_
  refine lv_iconst (v := 0) (pc := 29) hx hb d_Client_init_29 (by decide) ?_
  refine lv_bipush (v := 8) (pc := 30) hx hb d_Client_init_30 (by decide) ?_
  refine call_va (pc := 32) (fun _ h => h) hw (fm_runI (As := [.int (1 : Int32), .int (0 : Int32), .int (8 : Int32)]) (rest := [.ref (b + (n9 + 1)), .ref (b + h)]) hC hw (c_Msg_init l D dA b (n9 + 1) T16 R17 M18 (n9 + 1) (1 : Int32) (0 : Int32) (8 : Int32) _) cy_Msg_init hp rfl rfl mw_41 mw_42 rfl ⟨Nat.le_of_ble_eq_true rfl, Nat.le_of_ble_eq_true rfl⟩ rfl hl.1 rfl (Nat.le_of_ble_eq_true rfl) d_Client_init_32 ⟨(Nat.le_of_ble_eq_true rfl), (Nat.le_of_ble_eq_true rfl)⟩) (fun n20 T21 R22 M23 H locs hp hw => ?_)
  refine W.widen (k := 42) (n := 585) (Nat.le_of_ble_eq_true rfl) (Nat.le_of_ble_eq_true rfl) ?_
  obtain ⟨k24, hp⟩ := hp
  obtain ⟨k25, hp⟩ := hp
  refine pf_Client_20 (pc := 35) hC hw k24 hnm (Nat.ne_of_gt k25.1) d_Client_init_35 (fun R26 H locs eR26 hw => ?_)
  have hp := hp R26 eR26
  refine lv_aload_n (pc := 38) hx hb d_Client_init_38 rfl (lv_at hl 0 rfl) ?_
  refine fm_new (pc := 39) hC hw hin_Msg t_Msg t_Msg_ok mw_38 mw_39 mw_40 (rfl : classes[0]? = _) (by decide) (by decide) df_Msg (Nat.le_of_ble_eq_true rfl) (Nat.le_of_ble_eq_true rfl) d_Client_init_39 (fun T27 R28 M29 H eT27 eR28 eM29 hw => ?_)
  have hp := hp T27 R28 M29 eT27 eR28 eM29
  have k24 := (ok_push eT27 k24 : _)
  have k25 := (ok_push eT27 k25 : _)
  have k30 := ok_new eT27
  refine W.widen (k := 43) (n := 588) (Nat.le_of_ble_eq_true rfl) (Nat.le_of_ble_eq_true rfl) ?_
  refine lv_dup (pc := 42) hx hb d_Client_init_42 rfl ?_
  refine lv_iconst (v := 2) (pc := 43) hx hb d_Client_init_43 (by decide) ?_
  refine lv_iconst (v := 2) (pc := 44) hx hb d_Client_init_44 (by decide) ?_
  refine lv_iconst (v := 4) (pc := 45) hx hb d_Client_init_45 (by decide) ?_
  refine call_va (pc := 46) (fun _ h => h) hw (fm_runI (As := [.int (2 : Int32), .int (2 : Int32), .int (4 : Int32)]) (rest := [.ref (b + (n20 + 1)), .ref (b + h)]) hC hw (c_Msg_init l D dA b (n20 + 1) T27 R28 M29 (n20 + 1) (2 : Int32) (2 : Int32) (4 : Int32) _) cy_Msg_init hp rfl rfl mw_41 mw_42 rfl ⟨Nat.le_of_ble_eq_true rfl, Nat.le_of_ble_eq_true rfl⟩ rfl hl.1 rfl (Nat.le_of_ble_eq_true rfl) d_Client_init_46 ⟨(Nat.le_of_ble_eq_true rfl), (Nat.le_of_ble_eq_true rfl)⟩) (fun n31 T32 R33 M34 H locs hp hw => ?_)
  refine W.widen (k := 44) (n := 652) (Nat.le_of_ble_eq_true rfl) (Nat.le_of_ble_eq_true rfl) ?_
  obtain ⟨k35, hp⟩ := hp
  obtain ⟨k36, hp⟩ := hp
  refine pf_Client_23 (pc := 49) hC hw k35 hnm (Nat.ne_of_gt k36.1) d_Client_init_49 (fun R37 H locs eR37 hw => ?_)
  have hp := hp R37 eR37
  refine lv_aload_n (pc := 52) hx hb d_Client_init_52 rfl (lv_at hl 0 rfl) ?_
  refine lv_iload_n (pc := 53) hx hb d_Client_init_53 rfl (lv_at hl 1 rfl) ?_
  refine call_ip (pc := 54) (fun _ h => h.1) hw (fm_runSN (As := [.int x1]) (rest := [.ref (b + h)]) hC hw (c_X_clientNumber l D dA b n31 T32 R37 M34 (b + n31 + 1) x1 _) cy_X_clientNumber hp rfl rfl nw_3 mw_43 ⟨Nat.le_of_ble_eq_true rfl, Nat.le_of_ble_eq_true rfl⟩ rfl hl.1 rfl (Nat.le_of_ble_eq_true rfl) d_Client_init_54 ⟨(Nat.le_of_ble_eq_true rfl), (Nat.le_of_ble_eq_true rfl)⟩) (fun r38 H locs hp hw => ?_)
  refine pf_Client_30 (pc := 57) hC hw k35 hnm d_Client_init_57 (fun M39 H locs eM39 hw => ?_)
  have hp := hp M39 eM39
  refine lv_aload_n (pc := 60) hx hb d_Client_init_60 rfl (lv_at hl 0 rfl) ?_
  refine fm_new (pc := 61) hC hw hin_Asm t_Asm t_Asm_ok mw_44 mw_45 mw_46 (rfl : classes[7]? = _) (by decide) (by decide) df_Asm (Nat.le_of_ble_eq_true rfl) (Nat.le_of_ble_eq_true rfl) d_Client_init_61 (fun T40 R41 M42 H eT40 eR41 eM42 hw => ?_)
  have hp := hp T40 R41 M42 eT40 eR41 eM42
  have k35 := (ok_push eT40 k35 : _)
  have k36 := (ok_push eT40 k36 : _)
  have k43 := ok_new eT40
  refine W.widen (k := 45) (n := 655) (Nat.le_of_ble_eq_true rfl) (Nat.le_of_ble_eq_true rfl) ?_
  refine lv_dup (pc := 64) hx hb d_Client_init_64 rfl ?_
  refine lv_iload_n (pc := 65) hx hb d_Client_init_65 rfl (lv_at hl 1 rfl) ?_
  refine call_ip (pc := 66) (fun _ h => h.1) hw (fm_runSN (As := [.int x1]) (rest := [.ref (b + (n31 + 1)), .ref (b + (n31 + 1)), .ref (b + h)]) hC hw (c_X_proofLength l D dA b (n31 + 1) T40 R41 M42 (b + (n31 + 1) + 1) x1 _) cy_X_proofLength hp rfl rfl nw_4 mw_47 ⟨Nat.le_of_ble_eq_true rfl, Nat.le_of_ble_eq_true rfl⟩ rfl hl.1 rfl (Nat.le_of_ble_eq_true rfl) d_Client_init_66 ⟨(Nat.le_of_ble_eq_true rfl), (Nat.le_of_ble_eq_true rfl)⟩) (fun r44 H locs hp hw => ?_)
  refine call_va (pc := 69) (fun _ h => h) hw (fm_runI (As := [.int r44]) (rest := [.ref (b + (n31 + 1)), .ref (b + h)]) hC hw (c_Asm_init l D dA b (n31 + 1) T40 R41 M42 (n31 + 1) r44 _) cy_Asm_init hp rfl rfl mw_48 mw_49 rfl ⟨Nat.le_of_ble_eq_true rfl, Nat.le_of_ble_eq_true rfl⟩ rfl hl.1 rfl (Nat.le_of_ble_eq_true rfl) d_Client_init_69 ⟨(Nat.le_of_ble_eq_true rfl), (Nat.le_of_ble_eq_true rfl)⟩) (fun n45 T46 R47 M48 H locs hp hw => ?_)
  refine W.widen (k := 47) (n := 725) (Nat.le_of_ble_eq_true rfl) (Nat.le_of_ble_eq_true rfl) ?_
  obtain ⟨k49, hp⟩ := hp
  obtain ⟨k50, hp⟩ := hp
  refine pf_Client_42 (pc := 72) hC hw k49 hnm (Nat.ne_of_gt k50.1) d_Client_init_72 (fun R51 H locs eR51 hw => ?_)
  have hp := hp R51 eR51
  refine W.widen (k := 47) (n := 725) (by decide) (by decide) ?_
  exact ret_va hC hr hlk hw hp d_Client_init_75
set_option maxHeartbeats 4000000 in
set_option maxRecDepth 100000 in
theorem c_Msg_writeInt (l : Launch) (D : va_G) (dA : Nat → ClassId) (b n : Nat) (T : mT) (R : mR) (M : mM) (sz : Nat) (h : Nat) (x1 : Int32) (x2 : Int32) (Q : mM → Prop) : Met l y_Msg_writeInt (Cond.code y_Msg_writeInt b_Msg_writeInt 4 none :: tW) ({ frames := 0, cells := 0, slots := 0, locals := 0 }) (Pm D dA b n T R M sz [.ref (b + h), .int x1, .int x2] (w_Msg_writeInt n T R M h x1 x2 Q)) (Qvm D dA (An b n) b n T R sz Q) 0 0 (An b n) := by
  refine fm_body (An b n) (by decide) (Nat.le_of_ble_eq_true rfl) (fun k h0 h1 => ⟨by omega, by omega⟩) (fun p e s m below meth c ls hC hr hlk hnm hl hw hp => ?_)
  have hx := hC.1.1
  have hb := hC.1.2.1
  have hl : lv_has ls 4 [(0, .ref (b + h)), (1, .int x1), (2, .int x2)] := hl
  generalize hav : (List.toArray ([.ref (b + h), .int x1, .int x2] : List Value)) = av at hC ⊢
  unfold w_Msg_writeInt at hp
  obtain ⟨k0, hp⟩ := hp
  have L2 : ∀ (N2 : Nat) (a0 : Nat) (a1 : Int32) (a2 : Int32) (a3 : Int32) (M : mM)  (ls : Array Slot) (H : Heap) (locs : List Loc), ok T n a0 0 → lv_has ls 4 [(0, .ref (b + a0)), (1, .int a1), (2, .int a2), (3, .int a3)] → St D dA (An b n) b n T R M sz s.heap H locs → w_Msg_writeInt_L2 n T R Q a0 a1 a2 N2 a3 M → W p l e ({ frames := 0, cells := 0, slots := 0, locals := 0 }) s m av below meth c H locs 0 0 (MQ below (Qvm D dA (An b n) b n T R sz Q) av s 0 0 (An b n)) (F0 m 2 ls []) := by
    intro N2
    induction N2 with
    | zero => intro a0 a1 a2 a3 M ls H locs f1 hl hw hp; exact False.elim hp
    | succ N2 ih2 =>
      intro a0 a1 a2 a3 M ls H locs f1 hl hw hp
      unfold w_Msg_writeInt_L2 at hp
      refine lv_iload_n (pc := 2) hx hb d_Msg_writeInt_2 rfl (lv_at hl 3 rfl) ?_
      refine lv_iconst (v := 4) (pc := 3) hx hb d_Msg_writeInt_3 (by decide) ?_
      refine lv_icmp_ge (pc := 4) (tgt := 42) hx hb d_Msg_writeInt_4 rfl (fun hc => ?_) (fun hc => ?_)
      · have hp := hp.1 hc
        exact ret_vm hC hr hlk hw hp d_Msg_writeInt_42
      · have hp := hp.2 hc
        refine lv_iload_n (pc := 7) hx hb d_Msg_writeInt_7 rfl (lv_at hl 1 rfl) ?_
        refine lv_iload_n (pc := 8) hx hb d_Msg_writeInt_8 rfl (lv_at hl 3 rfl) ?_
        refine lv_iadd (pc := 9) hx hb d_Msg_writeInt_9 ?_
        refine lv_aload_n (pc := 10) hx hb d_Msg_writeInt_10 rfl (lv_at hl 0 rfl) ?_
        obtain ⟨k2, hp⟩ := hp
        refine gf_Msg_18 (pc := 11) hC hw f1 (Nat.ne_of_gt k2.1) d_Msg_writeInt_11 ?_
        refine fm_alen (pc := 14) (t0 := 0) hC hw k2 rfl (by decide) d_Msg_writeInt_14 ?_
        refine lv_icmp_ge (pc := 15) (tgt := 42) hx hb d_Msg_writeInt_15 rfl (fun hc => ?_) (fun hc => ?_)
        · have hp := hp.1 hc
          exact ret_vm hC hr hlk hw hp d_Msg_writeInt_42
        · have hp := hp.2 hc
          refine lv_aload_n (pc := 18) hx hb d_Msg_writeInt_18 rfl (lv_at hl 0 rfl) ?_
          refine gf_Msg_18 (pc := 19) hC hw f1 (Nat.ne_of_gt k2.1) d_Msg_writeInt_19 ?_
          refine lv_iload_n (pc := 22) hx hb d_Msg_writeInt_22 rfl (lv_at hl 1 rfl) ?_
          refine lv_iload_n (pc := 23) hx hb d_Msg_writeInt_23 rfl (lv_at hl 3 rfl) ?_
          refine lv_iadd (pc := 24) hx hb d_Msg_writeInt_24 ?_
          refine lv_iload_n (pc := 25) hx hb d_Msg_writeInt_25 rfl (lv_at hl 2 rfl) ?_
          refine lv_bipush (v := 8) (pc := 26) hx hb d_Msg_writeInt_26 (by decide) ?_
          refine lv_iload_n (pc := 28) hx hb d_Msg_writeInt_28 rfl (lv_at hl 3 rfl) ?_
          refine lv_imul (pc := 29) hx hb d_Msg_writeInt_29 ?_
          refine lv_iushr (v := jushr a2 ((8 : Int32) * a3)) (pc := 30) hx hb d_Msg_writeInt_30 rfl ?_
          refine lv_sipush (v := 255) (pc := 31) hx hb d_Msg_writeInt_31 (by decide) ?_
          refine lv_iand (pc := 34) hx hb d_Msg_writeInt_34 ?_
          obtain ⟨k3, hp⟩ := hp
          refine fm_iast (pc := 35) hC hw k2 k3 rfl d_Msg_writeInt_35 (fun M4 H locs eM4 hw => ?_)
          have hp := hp M4 eM4
          obtain ⟨v5, ev5⟩ : ∃ z : Int32, z = a3 + (1 : Int32) := ⟨_, rfl⟩
          have hp := hp v5 ev5
          refine lv_iinc (pc := 36) (k := 3) (v := v5) hx hb d_Msg_writeInt_36 hl rfl ev5.symm (by decide) rfl (fun ls hl => ?_)
          have hl : lv_has ls 4 [(3, .int v5), (0, .ref (b + a0)), (1, .int a1), (2, .int a2)] := hl
          refine lv_goto (pc := 39) (tgt := 2) hx hb d_Msg_writeInt_39 rfl ?_
          exact ih2  a0 a1 a2 v5 M4 ls _ _ f1 (lv_sub hl [1, 2, 3, 0] rfl) hw hp
  refine lv_iconst (v := 0) (pc := 0) hx hb d_Msg_writeInt_0 (by decide) ?_
  refine lv_istore_n (pc := 1) hx hb d_Msg_writeInt_1 rfl hl (by decide) rfl (fun ls hl => ?_)
  have hl : lv_has ls 4 [(3, .int (0 : Int32)), (0, .ref (b + h)), (1, .int x1), (2, .int x2)] := hl
  obtain ⟨N2, hp⟩ := hp
  exact L2 N2 h x1 x2 (0 : Int32) M ls _ _ k0 (lv_sub hl [1, 2, 3, 0] rfl) hw hp
set_option maxHeartbeats 4000000 in
set_option maxRecDepth 100000 in
theorem c_Side_addBytesToTranscript (l : Launch) (D : va_G) (dA : Nat → ClassId) (b n : Nat) (T : mT) (R : mR) (M : mM) (sz : Nat) (h : Nat) (x1 : Nat) (x2 : Int32) (x3 : Int32) (Q : mM → Prop) : Met l y_Side_addBytesToTranscript (Cond.code y_Side_addBytesToTranscript b_Side_addBytesToTranscript 5 none :: tW) ({ frames := 0, cells := 0, slots := 0, locals := 0 }) (Pm D dA b n T R M sz [.ref (b + h), .ref (b + x1), .int x2, .int x3] (w_Side_addBytesToTranscript n T R M h x1 x2 x3 Q)) (Qvm D dA (An b n) b n T R sz Q) 0 0 (An b n) := by
  refine fm_body (An b n) (by decide) (Nat.le_of_ble_eq_true rfl) (fun k h0 h1 => ⟨by omega, by omega⟩) (fun p e s m below meth c ls hC hr hlk hnm hl hw hp => ?_)
  have hx := hC.1.1
  have hb := hC.1.2.1
  have hl : lv_has ls 5 [(0, .ref (b + h)), (1, .ref (b + x1)), (2, .int x2), (3, .int x3)] := hl
  generalize hav : (List.toArray ([.ref (b + h), .ref (b + x1), .int x2, .int x3] : List Value)) = av at hC ⊢
  unfold w_Side_addBytesToTranscript at hp
  obtain ⟨k0, hp⟩ := hp
  have L3 : ∀ (N3 : Nat) (a0 : Nat) (a1 : Nat) (a3 : Int32) (a4 : Int32) (M : mM)  (ls : Array Slot) (H : Heap) (locs : List Loc), okS T n a0 → lv_has ls 5 [(0, .ref (b + a0)), (1, .ref (b + a1)), (3, .int a3), (4, .int a4)] → St D dA (An b n) b n T R M sz s.heap H locs → w_Side_addBytesToTranscript_L3 n T R Q a0 a1 a3 N3 a4 M → W p l e ({ frames := 0, cells := 0, slots := 0, locals := 0 }) s m av below meth c H locs 0 0 (MQ below (Qvm D dA (An b n) b n T R sz Q) av s 0 0 (An b n)) (F0 m 3 ls []) := by
    intro N3
    induction N3 with
    | zero => intro a0 a1 a3 a4 M ls H locs f1 hl hw hp; exact False.elim hp
    | succ N3 ih3 =>
      intro a0 a1 a3 a4 M ls H locs f1 hl hw hp
      unfold w_Side_addBytesToTranscript_L3 at hp
      refine lv_iload (pc := 3) hx hb d_Side_addBytesToTranscript_3 (lv_at hl 3 rfl) ?_
      refine lv_iload_n (pc := 5) hx hb d_Side_addBytesToTranscript_5 rfl (lv_at hl 2 rfl) ?_
      refine lv_icmp_ge (pc := 6) (tgt := 40) hx hb d_Side_addBytesToTranscript_6 rfl (fun hc => ?_) (fun hc => ?_)
      · have hp := hp.1 hc
        exact ret_vm hC hr hlk hw hp d_Side_addBytesToTranscript_40
      · have hp := hp.2 hc
        refine lv_iload (pc := 9) hx hb d_Side_addBytesToTranscript_9 (lv_at hl 3 rfl) ?_
        refine lv_aload_n (pc := 11) hx hb d_Side_addBytesToTranscript_11 rfl (lv_at hl 1 rfl) ?_
        obtain ⟨k2, hp⟩ := hp
        refine fm_alen (pc := 12) (t0 := 0) hC hw k2 rfl (by decide) d_Side_addBytesToTranscript_12 ?_
        refine lv_icmp_ge (pc := 13) (tgt := 40) hx hb d_Side_addBytesToTranscript_13 rfl (fun hc => ?_) (fun hc => ?_)
        · have hp := hp.1 hc
          exact ret_vm hC hr hlk hw hp d_Side_addBytesToTranscript_40
        · have hp := hp.2 hc
          refine lv_aload_n (pc := 16) hx hb d_Side_addBytesToTranscript_16 rfl (lv_at hl 0 rfl) ?_
          refine lv_aload_n (pc := 17) hx hb d_Side_addBytesToTranscript_17 rfl (lv_at hl 0 rfl) ?_
          refine gf_Side_64 (pc := 18) hC hw f1 d_Side_addBytesToTranscript_18 ?_
          refine lv_bipush (v := 31) (pc := 21) hx hb d_Side_addBytesToTranscript_21 (by decide) ?_
          refine lv_imul (pc := 23) hx hb d_Side_addBytesToTranscript_23 ?_
          refine lv_aload_n (pc := 24) hx hb d_Side_addBytesToTranscript_24 rfl (lv_at hl 1 rfl) ?_
          refine lv_iload (pc := 25) hx hb d_Side_addBytesToTranscript_25 (lv_at hl 3 rfl) ?_
          obtain ⟨k3, hp⟩ := hp
          refine fm_iald (pc := 27) hC hw k2 k3 rfl d_Side_addBytesToTranscript_27 ?_
          refine lv_iadd (pc := 28) hx hb d_Side_addBytesToTranscript_28 ?_
          refine lv_iconst (v := 1) (pc := 29) hx hb d_Side_addBytesToTranscript_29 (by decide) ?_
          refine lv_iadd (pc := 30) hx hb d_Side_addBytesToTranscript_30 ?_
          refine pf_Side_64 (pc := 31) hC hw f1 d_Side_addBytesToTranscript_31 (fun M4 H locs eM4 hw => ?_)
          have hp := hp M4 eM4
          obtain ⟨v5, ev5⟩ : ∃ z : Int32, z = a4 + (1 : Int32) := ⟨_, rfl⟩
          have hp := hp v5 ev5
          refine lv_iinc (pc := 34) (k := 3) (v := v5) hx hb d_Side_addBytesToTranscript_34 hl rfl ev5.symm (by decide) rfl (fun ls hl => ?_)
          have hl : lv_has ls 5 [(4, .int v5), (0, .ref (b + a0)), (1, .ref (b + a1)), (3, .int a3)] := hl
          refine lv_goto (pc := 37) (tgt := 3) hx hb d_Side_addBytesToTranscript_37 rfl ?_
          exact ih3  a0 a1 a3 v5 M4 ls _ _ f1 (lv_sub hl [1, 2, 3, 0] rfl) hw hp
  refine lv_iload_n (pc := 0) hx hb d_Side_addBytesToTranscript_0 rfl (lv_at hl 2 rfl) ?_
  refine lv_istore (pc := 1) hx hb d_Side_addBytesToTranscript_1 hl (by decide) rfl (fun ls hl => ?_)
  have hl : lv_has ls 5 [(4, .int x2), (0, .ref (b + h)), (1, .ref (b + x1)), (2, .int x2), (3, .int x3)] := hl
  obtain ⟨N3, hp⟩ := hp
  exact L3 N3 h x1 x3 x2 M ls _ _ k0 (lv_sub hl [1, 2, 4, 0] rfl) hw hp
set_option maxHeartbeats 4000000 in
set_option maxRecDepth 100000 in
theorem c_Side_addToTranscript (l : Launch) (D : va_G) (dA : Nat → ClassId) (b n : Nat) (T : mT) (R : mR) (M : mM) (sz : Nat) (h : Nat) (x1 : Nat) (Q : mM → Prop) : Met l y_Side_addToTranscript (Cond.code y_Side_addToTranscript b_Side_addToTranscript 2 none :: tW) ({ frames := 1, cells := 0, slots := 0, locals := 24 }) (Pm D dA b n T R M sz [.ref (b + h), .ref (b + x1)] (w_Side_addToTranscript n T R M h x1 Q)) (Qvm D dA (An b n) b n T R sz Q) 0 0 (An b n) := by
  refine fm_body (An b n) (by decide) (Nat.le_of_ble_eq_true rfl) (fun k h0 h1 => ⟨by omega, by omega⟩) (fun p e s m below meth c ls hC hr hlk hnm hl hw hp => ?_)
  have hx := hC.1.1
  have hb := hC.1.2.1
  have hl : lv_has ls 2 [(0, .ref (b + h)), (1, .ref (b + x1))] := hl
  generalize hav : (List.toArray ([.ref (b + h), .ref (b + x1)] : List Value)) = av at hC ⊢
  unfold w_Side_addToTranscript at hp
  obtain ⟨k0, hp⟩ := hp
  refine lv_aload_n (pc := 0) hx hb d_Side_addToTranscript_0 rfl (lv_at hl 0 rfl) ?_
  refine lv_aload_n (pc := 1) hx hb d_Side_addToTranscript_1 rfl (lv_at hl 1 rfl) ?_
  obtain ⟨k1, hp⟩ := hp
  obtain ⟨k2, hp⟩ := hp
  refine gf_Side_67 (pc := 2) hC hw k1 (Nat.ne_of_gt k2.1) d_Side_addToTranscript_2 ?_
  refine lv_iconst (v := 0) (pc := 5) hx hb d_Side_addToTranscript_5 (by decide) ?_
  refine lv_aload_n (pc := 6) hx hb d_Side_addToTranscript_6 rfl (lv_at hl 1 rfl) ?_
  refine gf_Side_67 (pc := 7) hC hw k1 (Nat.ne_of_gt k2.1) d_Side_addToTranscript_7 ?_
  refine fm_alen (pc := 10) (t0 := 0) hC hw k2 rfl (by decide) d_Side_addToTranscript_10 ?_
  refine call_vm (pc := 11) (fun _ h => h) hw (Or.elim k0 (fun kS => fm_runU (x := (⟨"LossyHandshake$Side", "addBytesToTranscript", "([III)V"⟩ : MethodName)) (As := [.ref (b + (R x1 2)), .int (0 : Int32), .int (nI (T (R x1 2)).2)]) (rest := []) hC hw (c_Side_addBytesToTranscript l D dA b n T R M sz h (R x1 2) (0 : Int32) (nI (T (R x1 2)).2) _) cy_Side_addBytesToTranscript hp rfl rfl rfl mw_50 mw_51 mw_52 mw_53 (rfl : classes[8]? = _) (by decide) kS ⟨Nat.le_of_ble_eq_true rfl, Nat.le_of_ble_eq_true rfl⟩ rfl hl.1 rfl (Nat.le_of_ble_eq_true rfl) d_Side_addToTranscript_11 ⟨(Nat.le_of_ble_eq_true rfl), (Nat.le_of_ble_eq_true rfl)⟩) (fun kS => fm_runU (x := (⟨"LossyHandshake$Side", "addBytesToTranscript", "([III)V"⟩ : MethodName)) (As := [.ref (b + (R x1 2)), .int (0 : Int32), .int (nI (T (R x1 2)).2)]) (rest := []) hC hw (c_Side_addBytesToTranscript l D dA b n T R M sz h (R x1 2) (0 : Int32) (nI (T (R x1 2)).2) _) cy_Side_addBytesToTranscript hp rfl rfl rfl mw_50 mw_51 mw_52 mw_54 (rfl : classes[9]? = _) (by decide) kS ⟨Nat.le_of_ble_eq_true rfl, Nat.le_of_ble_eq_true rfl⟩ rfl hl.1 rfl (Nat.le_of_ble_eq_true rfl) d_Side_addToTranscript_11 ⟨(Nat.le_of_ble_eq_true rfl), (Nat.le_of_ble_eq_true rfl)⟩)) (fun M3 H locs hp hw => ?_)
  exact ret_vm hC hr hlk hw hp d_Side_addToTranscript_14
set_option maxHeartbeats 4000000 in
set_option maxRecDepth 100000 in
theorem c_Flight_begin (l : Launch) (D : va_G) (dA : Nat → ClassId) (b n : Nat) (T : mT) (R : mR) (M : mM) (sz : Nat) (h : Nat) (Q : mM → Prop) : Met l y_Flight_begin (Cond.code y_Flight_begin b_Flight_begin 1 none :: tW) ({ frames := 0, cells := 0, slots := 0, locals := 0 }) (Pm D dA b n T R M sz [.ref (b + h)] (w_Flight_begin n T R M h Q)) (Qvm D dA (An b n) b n T R sz Q) 0 0 (An b n) := by
  refine fm_body (An b n) (by decide) (Nat.le_of_ble_eq_true rfl) (fun k h0 h1 => ⟨by omega, by omega⟩) (fun p e s m below meth c ls hC hr hlk hnm hl hw hp => ?_)
  have hx := hC.1.1
  have hb := hC.1.2.1
  have hl : lv_has ls 1 [(0, .ref (b + h))] := hl
  generalize hav : (List.toArray ([.ref (b + h)] : List Value)) = av at hC ⊢
  unfold w_Flight_begin at hp
  obtain ⟨k0, hp⟩ := hp
  refine lv_aload_n (pc := 0) hx hb d_Flight_begin_0 rfl (lv_at hl 0 rfl) ?_
  refine lv_iconst (v := 0) (pc := 1) hx hb d_Flight_begin_1 (by decide) ?_
  refine pf_Flight_18 (pc := 2) hC hw k0 d_Flight_begin_2 (fun M1 H locs eM1 hw => ?_)
  have hp := hp M1 eM1
  refine lv_aload_n (pc := 5) hx hb d_Flight_begin_5 rfl (lv_at hl 0 rfl) ?_
  refine lv_iconst (v := 4) (pc := 6) hx hb d_Flight_begin_6 (by decide) ?_
  refine pf_Flight_22 (pc := 7) hC hw k0 d_Flight_begin_7 (fun M2 H locs eM2 hw => ?_)
  have hp := hp M2 eM2
  refine lv_aload_n (pc := 10) hx hb d_Flight_begin_10 rfl (lv_at hl 0 rfl) ?_
  refine lv_iconst (v := 4) (pc := 11) hx hb d_Flight_begin_11 (by decide) ?_
  refine pf_Flight_25 (pc := 12) hC hw k0 d_Flight_begin_12 (fun M3 H locs eM3 hw => ?_)
  have hp := hp M3 eM3
  refine lv_aload_n (pc := 15) hx hb d_Flight_begin_15 rfl (lv_at hl 0 rfl) ?_
  refine lv_iconst (v := 0) (pc := 16) hx hb d_Flight_begin_16 (by decide) ?_
  refine pf_Flight_28 (pc := 17) hC hw k0 d_Flight_begin_17 (fun M4 H locs eM4 hw => ?_)
  have hp := hp M4 eM4
  exact ret_vm hC hr hlk hw hp d_Flight_begin_20
set_option maxHeartbeats 4000000 in
set_option maxRecDepth 100000 in
theorem c_Frag_cutFrom (l : Launch) (D : va_G) (dA : Nat → ClassId) (b n : Nat) (T : mT) (R : mR) (M : mM) (sz : Nat) (h : Nat) (x1 : Nat) (x2 : Int32) (x3 : Int32) (Q : mM → Prop) : Met l y_Frag_cutFrom (Cond.code y_Frag_cutFrom b_Frag_cutFrom 5 none :: tW) ({ frames := 1, cells := 0, slots := 0, locals := 14 }) (Pm D dA b n T R M sz [.ref (b + h), .ref (b + x1), .int x2, .int x3] (w_Frag_cutFrom n T R M h x1 x2 x3 Q)) (Qvm D dA (An b n) b n T R sz Q) 0 0 (An b n) := by
  refine fm_body (An b n) (by decide) (Nat.le_of_ble_eq_true rfl) (fun k h0 h1 => ⟨by omega, by omega⟩) (fun p e s m below meth c ls hC hr hlk hnm hl hw hp => ?_)
  have hx := hC.1.1
  have hb := hC.1.2.1
  have hl : lv_has ls 5 [(0, .ref (b + h)), (1, .ref (b + x1)), (2, .int x2), (3, .int x3)] := hl
  generalize hav : (List.toArray ([.ref (b + h), .ref (b + x1), .int x2, .int x3] : List Value)) = av at hC ⊢
  unfold w_Frag_cutFrom at hp
  obtain ⟨k0, hp⟩ := hp
  have L47 : ∀ (N47 : Nat) (a0 : Nat) (a1 : Nat) (a2 : Int32) (a4 : Int32) (M : mM)  (ls : Array Slot) (H : Heap) (locs : List Loc), ok T n a0 1 → ok T n a1 0 → lv_has ls 5 [(0, .ref (b + a0)), (1, .ref (b + a1)), (2, .int a2), (4, .int a4)] → St D dA (An b n) b n T R M sz s.heap H locs → w_Frag_cutFrom_L47 n T R Q a0 a1 a2 N47 a4 M → W p l e ({ frames := 1, cells := 0, slots := 0, locals := 14 }) s m av below meth c H locs 0 0 (MQ below (Qvm D dA (An b n) b n T R sz Q) av s 0 0 (An b n)) (F0 m 47 ls []) := by
    intro N47
    induction N47 with
    | zero => intro a0 a1 a2 a4 M ls H locs f8 f9 hl hw hp; exact False.elim hp
    | succ N47 ih47 =>
      intro a0 a1 a2 a4 M ls H locs f8 f9 hl hw hp
      unfold w_Frag_cutFrom_L47 at hp
      refine lv_iload (pc := 47) hx hb d_Frag_cutFrom_47 (lv_at hl 3 rfl) ?_
      refine lv_aload_n (pc := 49) hx hb d_Frag_cutFrom_49 rfl (lv_at hl 0 rfl) ?_
      refine gf_Frag_41 (pc := 50) hC hw f8 d_Frag_cutFrom_50 ?_
      refine lv_icmp_ge (pc := 53) (tgt := 78) hx hb d_Frag_cutFrom_53 rfl (fun hc => ?_) (fun hc => ?_)
      · have hp := hp.1 hc
        refine lv_aload_n (pc := 78) hx hb d_Frag_cutFrom_78 rfl (lv_at hl 0 rfl) ?_
        refine lv_iconst (v := 0) (pc := 79) hx hb d_Frag_cutFrom_79 (by decide) ?_
        refine pf_Frag_44 (pc := 80) hC hw f8 d_Frag_cutFrom_80 (fun M10 H locs eM10 hw => ?_)
        have hp := hp M10 eM10
        refine lv_aload_n (pc := 83) hx hb d_Frag_cutFrom_83 rfl (lv_at hl 0 rfl) ?_
        refine lv_iconst (v := 1) (pc := 84) hx hb d_Frag_cutFrom_84 (by decide) ?_
        refine pf_Frag_47 (pc := 85) hC hw f8 (Or.inr rfl) d_Frag_cutFrom_85 (fun M11 H locs eM11 hw => ?_)
        have hp := hp M11 eM11
        exact ret_vm hC hr hlk hw hp d_Frag_cutFrom_88
      · have hp := hp.2 hc
        refine lv_aload_n (pc := 56) hx hb d_Frag_cutFrom_56 rfl (lv_at hl 0 rfl) ?_
        obtain ⟨k12, hp⟩ := hp
        refine gf_Frag_9 (pc := 57) hC hw f8 (Nat.ne_of_gt k12.1) d_Frag_cutFrom_57 ?_
        refine lv_iload (pc := 60) hx hb d_Frag_cutFrom_60 (lv_at hl 3 rfl) ?_
        refine lv_aload_n (pc := 62) hx hb d_Frag_cutFrom_62 rfl (lv_at hl 1 rfl) ?_
        obtain ⟨k13, hp⟩ := hp
        refine gf_Frag_40 (pc := 63) hC hw f9 (Nat.ne_of_gt k13.1) d_Frag_cutFrom_63 ?_
        refine lv_iload_n (pc := 66) hx hb d_Frag_cutFrom_66 rfl (lv_at hl 2 rfl) ?_
        refine lv_iload (pc := 67) hx hb d_Frag_cutFrom_67 (lv_at hl 3 rfl) ?_
        refine lv_iadd (pc := 69) hx hb d_Frag_cutFrom_69 ?_
        obtain ⟨k14, hp⟩ := hp
        refine fm_iald (pc := 70) hC hw k13 k14 rfl d_Frag_cutFrom_70 ?_
        obtain ⟨k15, hp⟩ := hp
        refine fm_iast (pc := 71) hC hw k12 k15 rfl d_Frag_cutFrom_71 (fun M16 H locs eM16 hw => ?_)
        have hp := hp M16 eM16
        obtain ⟨v17, ev17⟩ : ∃ z : Int32, z = a4 + (1 : Int32) := ⟨_, rfl⟩
        have hp := hp v17 ev17
        refine lv_iinc (pc := 72) (k := 3) (v := v17) hx hb d_Frag_cutFrom_72 hl rfl ev17.symm (by decide) rfl (fun ls hl => ?_)
        have hl : lv_has ls 5 [(4, .int v17), (0, .ref (b + a0)), (1, .ref (b + a1)), (2, .int a2)] := hl
        refine lv_goto (pc := 75) (tgt := 47) hx hb d_Frag_cutFrom_75 rfl ?_
        exact ih47  a0 a1 a2 v17 M16 ls _ _ f8 f9 (lv_sub hl [1, 2, 3, 0] rfl) hw hp
  refine lv_aload_n (pc := 0) hx hb d_Frag_cutFrom_0 rfl (lv_at hl 0 rfl) ?_
  refine lv_aload_n (pc := 1) hx hb d_Frag_cutFrom_1 rfl (lv_at hl 1 rfl) ?_
  obtain ⟨k1, hp⟩ := hp
  refine gf_Frag_18 (pc := 2) hC hw k1 d_Frag_cutFrom_2 ?_
  refine pf_Frag_24 (pc := 5) hC hw k0 d_Frag_cutFrom_5 (fun M2 H locs eM2 hw => ?_)
  have hp := hp M2 eM2
  refine lv_aload_n (pc := 8) hx hb d_Frag_cutFrom_8 rfl (lv_at hl 0 rfl) ?_
  refine lv_aload_n (pc := 9) hx hb d_Frag_cutFrom_9 rfl (lv_at hl 1 rfl) ?_
  refine gf_Frag_27 (pc := 10) hC hw k1 d_Frag_cutFrom_10 ?_
  refine pf_Frag_30 (pc := 13) hC hw k0 d_Frag_cutFrom_13 (fun M3 H locs eM3 hw => ?_)
  have hp := hp M3 eM3
  refine lv_aload_n (pc := 16) hx hb d_Frag_cutFrom_16 rfl (lv_at hl 0 rfl) ?_
  refine lv_iload_n (pc := 17) hx hb d_Frag_cutFrom_17 rfl (lv_at hl 2 rfl) ?_
  refine pf_Frag_31 (pc := 18) hC hw k0 d_Frag_cutFrom_18 (fun M4 H locs eM4 hw => ?_)
  have hp := hp M4 eM4
  refine lv_aload_n (pc := 21) hx hb d_Frag_cutFrom_21 rfl (lv_at hl 0 rfl) ?_
  refine lv_iload_n (pc := 22) hx hb d_Frag_cutFrom_22 rfl (lv_at hl 3 rfl) ?_
  refine lv_aload_n (pc := 23) hx hb d_Frag_cutFrom_23 rfl (lv_at hl 0 rfl) ?_
  obtain ⟨k5, hp⟩ := hp
  refine gf_Frag_9 (pc := 24) hC hw k0 (Nat.ne_of_gt k5.1) d_Frag_cutFrom_24 ?_
  refine fm_alen (pc := 27) (t0 := 0) hC hw k5 rfl (by decide) d_Frag_cutFrom_27 ?_
  refine va_mmin (pc := 28) hx hb (hC.1.2.2.1.trans hl.1.symm) hC.1.2.2.2.1 (hC.1.2.2.2.2 _ mw_55) (hC.1.2.2.2.2 _ mw_56) (hC.1.2.2.2.2 _ mw_57) (hC.1.2.2.2.2 _ mw_58) (Nat.le_of_ble_eq_true rfl) (Nat.le_of_ble_eq_true rfl) (Nat.le_of_ble_eq_true rfl) (Nat.le_of_ble_eq_true rfl) d_Frag_cutFrom_28 ?_
  refine lv_aload_n (pc := 31) hx hb d_Frag_cutFrom_31 rfl (lv_at hl 1 rfl) ?_
  obtain ⟨k6, hp⟩ := hp
  refine gf_Frag_40 (pc := 32) hC hw k1 (Nat.ne_of_gt k6.1) d_Frag_cutFrom_32 ?_
  refine fm_alen (pc := 35) (t0 := 0) hC hw k6 rfl (by decide) d_Frag_cutFrom_35 ?_
  refine lv_iload_n (pc := 36) hx hb d_Frag_cutFrom_36 rfl (lv_at hl 2 rfl) ?_
  refine lv_isub (pc := 37) hx hb d_Frag_cutFrom_37 ?_
  refine va_mmin (pc := 38) hx hb (hC.1.2.2.1.trans hl.1.symm) hC.1.2.2.2.1 (hC.1.2.2.2.2 _ mw_55) (hC.1.2.2.2.2 _ mw_56) (hC.1.2.2.2.2 _ mw_57) (hC.1.2.2.2.2 _ mw_58) (Nat.le_of_ble_eq_true rfl) (Nat.le_of_ble_eq_true rfl) (Nat.le_of_ble_eq_true rfl) (Nat.le_of_ble_eq_true rfl) d_Frag_cutFrom_38 ?_
  refine pf_Frag_41 (pc := 41) hC hw k0 d_Frag_cutFrom_41 (fun M7 H locs eM7 hw => ?_)
  have hp := hp M7 eM7
  refine lv_iconst (v := 0) (pc := 44) hx hb d_Frag_cutFrom_44 (by decide) ?_
  refine lv_istore (pc := 45) hx hb d_Frag_cutFrom_45 hl (by decide) rfl (fun ls hl => ?_)
  have hl : lv_has ls 5 [(4, .int (0 : Int32)), (0, .ref (b + h)), (1, .ref (b + x1)), (2, .int x2), (3, .int x3)] := hl
  obtain ⟨N47, hp⟩ := hp
  exact L47 N47 h x1 x2 (0 : Int32) M7 ls _ _ k0 k1 (lv_sub hl [1, 2, 3, 0] rfl) hw hp
set_option maxHeartbeats 4000000 in
set_option maxRecDepth 100000 in
theorem c_Flight_add (l : Launch) (D : va_G) (dA : Nat → ClassId) (b n : Nat) (T : mT) (R : mR) (M : mM) (sz : Nat) (h : Nat) (x1 : Nat) (x2 : Int32) (Q : mM → Prop) : Met l y_Flight_add (Cond.code y_Flight_add b_Flight_add 4 none :: tW) ({ frames := 2, cells := 0, slots := 0, locals := 38 }) (Pm D dA b n T R M sz [.ref (b + h), .ref (b + x1), .int x2] (w_Flight_add n T R M h x1 x2 Q)) (Qvm D dA (An b n) b n T R sz Q) 0 0 (An b n) := by
  refine fm_body (An b n) (by decide) (Nat.le_of_ble_eq_true rfl) (fun k h0 h1 => ⟨by omega, by omega⟩) (fun p e s m below meth c ls hC hr hlk hnm hl hw hp => ?_)
  have hx := hC.1.1
  have hb := hC.1.2.1
  have hl : lv_has ls 4 [(0, .ref (b + h)), (1, .ref (b + x1)), (2, .int x2)] := hl
  generalize hav : (List.toArray ([.ref (b + h), .ref (b + x1), .int x2] : List Value)) = av at hC ⊢
  unfold w_Flight_add at hp
  obtain ⟨k0, hp⟩ := hp
  have L2 : ∀ (N2 : Nat) (a0 : Nat) (a1 : Nat) (a2 : Int32) (a3 : Int32) (M : mM)  (ls : Array Slot) (H : Heap) (locs : List Loc), ok T n a0 2 → lv_has ls 4 [(0, .ref (b + a0)), (1, .ref (b + a1)), (2, .int a2), (3, .int a3)] → St D dA (An b n) b n T R M sz s.heap H locs → w_Flight_add_L2 n T R Q a0 a1 a2 N2 a3 M → W p l e ({ frames := 2, cells := 0, slots := 0, locals := 38 }) s m av below meth c H locs 0 0 (MQ below (Qvm D dA (An b n) b n T R sz Q) av s 0 0 (An b n)) (F0 m 2 ls []) := by
    intro N2
    induction N2 with
    | zero => intro a0 a1 a2 a3 M ls H locs f1 hl hw hp; exact False.elim hp
    | succ N2 ih2 =>
      intro a0 a1 a2 a3 M ls H locs f1 hl hw hp
      unfold w_Flight_add_L2 at hp
      refine lv_iload_n (pc := 2) hx hb d_Flight_add_2 rfl (lv_at hl 3 rfl) ?_
      refine lv_aload_n (pc := 3) hx hb d_Flight_add_3 rfl (lv_at hl 1 rfl) ?_
      obtain ⟨k2, hp⟩ := hp
      obtain ⟨k3, hp⟩ := hp
      refine gf_Flight_31 (pc := 4) hC hw k2 (Nat.ne_of_gt k3.1) d_Flight_add_4 ?_
      refine fm_alen (pc := 7) (t0 := 0) hC hw k3 rfl (by decide) d_Flight_add_7 ?_
      refine lv_icmp_ge (pc := 8) (tgt := 55) hx hb d_Flight_add_8 rfl (fun hc => ?_) (fun hc => ?_)
      · have hp := hp.1 hc
        exact ret_vm hC hr hlk hw hp d_Flight_add_55
      · have hp := hp.2 hc
        refine lv_aload_n (pc := 11) hx hb d_Flight_add_11 rfl (lv_at hl 0 rfl) ?_
        refine gf_Flight_18 (pc := 12) hC hw f1 d_Flight_add_12 ?_
        refine lv_aload_n (pc := 15) hx hb d_Flight_add_15 rfl (lv_at hl 0 rfl) ?_
        obtain ⟨k4, hp⟩ := hp
        refine gf_Flight_11 (pc := 16) hC hw f1 (Nat.ne_of_gt k4.1) d_Flight_add_16 ?_
        refine fm_alen (pc := 19) (t0 := 3) hC hw k4 rfl (by decide) d_Flight_add_19 ?_
        refine lv_icmp_ge (pc := 20) (tgt := 55) hx hb d_Flight_add_20 rfl (fun hc => ?_) (fun hc => ?_)
        · have hp := hp.1 hc
          exact ret_vm hC hr hlk hw hp d_Flight_add_55
        · have hp := hp.2 hc
          refine lv_aload_n (pc := 23) hx hb d_Flight_add_23 rfl (lv_at hl 0 rfl) ?_
          refine gf_Flight_11 (pc := 24) hC hw f1 (Nat.ne_of_gt k4.1) d_Flight_add_24 ?_
          refine lv_aload_n (pc := 27) hx hb d_Flight_add_27 rfl (lv_at hl 0 rfl) ?_
          refine gf_Flight_18 (pc := 28) hC hw f1 d_Flight_add_28 ?_
          obtain ⟨k5, hp⟩ := hp
          obtain ⟨k6, hp⟩ := hp
          refine fm_aald (pc := 31) hC hw 3 rfl (by decide) k4 k5 rfl (Nat.ne_of_gt k6.1) d_Flight_add_31 ?_
          refine lv_aload_n (pc := 32) hx hb d_Flight_add_32 rfl (lv_at hl 1 rfl) ?_
          refine lv_iload_n (pc := 33) hx hb d_Flight_add_33 rfl (lv_at hl 3 rfl) ?_
          refine lv_iload_n (pc := 34) hx hb d_Flight_add_34 rfl (lv_at hl 2 rfl) ?_
          refine call_vm (pc := 35) (fun _ h => h) hw (fm_runV (As := [.ref (b + a1), .int a3, .int a2]) (rest := []) hC hw (c_Frag_cutFrom l D dA b n T R M sz (R (R a0 0) (M a0 1).toNatClampNeg) a1 a3 a2 _) cy_Frag_cutFrom hp rfl rfl mw_59 mw_60 mw_61 (rfl : classes[1]? = _) (by decide) k6 ⟨Nat.le_of_ble_eq_true rfl, Nat.le_of_ble_eq_true rfl⟩ rfl hl.1 rfl (Nat.le_of_ble_eq_true rfl) d_Flight_add_35 ⟨(Nat.le_of_ble_eq_true rfl), (Nat.le_of_ble_eq_true rfl)⟩) (fun M7 H locs hp hw => ?_)
          refine lv_aload_n (pc := 38) hx hb d_Flight_add_38 rfl (lv_at hl 0 rfl) ?_
          refine lv_dup (pc := 39) hx hb d_Flight_add_39 rfl ?_
          refine gf_Flight_18 (pc := 40) hC hw f1 d_Flight_add_40 ?_
          refine lv_iconst (v := 1) (pc := 43) hx hb d_Flight_add_43 (by decide) ?_
          refine lv_iadd (pc := 44) hx hb d_Flight_add_44 ?_
          refine pf_Flight_18 (pc := 45) hC hw f1 d_Flight_add_45 (fun M8 H locs eM8 hw => ?_)
          have hp := hp M8 eM8
          refine lv_iload_n (pc := 48) hx hb d_Flight_add_48 rfl (lv_at hl 3 rfl) ?_
          refine lv_iload_n (pc := 49) hx hb d_Flight_add_49 rfl (lv_at hl 2 rfl) ?_
          refine lv_iadd (pc := 50) hx hb d_Flight_add_50 ?_
          refine lv_topi (fun v9 ev9 => ?_)
          have hp := hp v9 ev9
          refine lv_istore_n (pc := 51) hx hb d_Flight_add_51 rfl hl (by decide) rfl (fun ls hl => ?_)
          have hl : lv_has ls 4 [(3, .int v9), (0, .ref (b + a0)), (1, .ref (b + a1)), (2, .int a2)] := hl
          refine lv_goto (pc := 52) (tgt := 2) hx hb d_Flight_add_52 rfl ?_
          exact ih2  a0 a1 a2 v9 M8 ls _ _ f1 (lv_sub hl [1, 2, 3, 0] rfl) hw hp
  refine lv_iconst (v := 0) (pc := 0) hx hb d_Flight_add_0 (by decide) ?_
  refine lv_istore_n (pc := 1) hx hb d_Flight_add_1 rfl hl (by decide) rfl (fun ls hl => ?_)
  have hl : lv_has ls 4 [(3, .int (0 : Int32)), (0, .ref (b + h)), (1, .ref (b + x1)), (2, .int x2)] := hl
  obtain ⟨N2, hp⟩ := hp
  exact L2 N2 h x1 x2 (0 : Int32) M ls _ _ k0 (lv_sub hl [1, 2, 3, 0] rfl) hw hp
set_option maxHeartbeats 4000000 in
set_option maxRecDepth 100000 in
theorem c_Side_takeNumber (l : Launch) (D : va_G) (dA : Nat → ClassId) (b n : Nat) (T : mT) (R : mR) (M : mM) (sz : Nat) (h : Nat) (x1 : Int32) (Q : Int32 → mM → Prop) : Met l y_Side_takeNumber (Cond.code y_Side_takeNumber b_Side_takeNumber 3 (some .int) :: tW) ({ frames := 0, cells := 0, slots := 0, locals := 0 }) (Pm D dA b n T R M sz [.ref (b + h), .int x1] (w_Side_takeNumber n T R M h x1 Q)) (Qim D dA (An b n) b n T R sz Q) 0 0 (An b n) := by
  refine fm_body (An b n) (by decide) (Nat.le_of_ble_eq_true rfl) (fun k h0 h1 => ⟨by omega, by omega⟩) (fun p e s m below meth c ls hC hr hlk hnm hl hw hp => ?_)
  have hx := hC.1.1
  have hb := hC.1.2.1
  have hl : lv_has ls 3 [(0, .ref (b + h)), (1, .int x1)] := hl
  generalize hav : (List.toArray ([.ref (b + h), .int x1] : List Value)) = av at hC ⊢
  unfold w_Side_takeNumber at hp
  obtain ⟨k0, hp⟩ := hp
  refine lv_aload_n (pc := 0) hx hb d_Side_takeNumber_0 rfl (lv_at hl 0 rfl) ?_
  obtain ⟨k1, hp⟩ := hp
  refine gf_Side_24 (pc := 1) hC hw k0 (Nat.ne_of_gt k1.1) d_Side_takeNumber_1 ?_
  refine lv_iload_n (pc := 4) hx hb d_Side_takeNumber_4 rfl (lv_at hl 1 rfl) ?_
  obtain ⟨k2, hp⟩ := hp
  refine fm_iald (pc := 5) hC hw k1 k2 rfl d_Side_takeNumber_5 ?_
  refine lv_topi (fun v3 ev3 => ?_)
  have hp := hp v3 ev3
  refine lv_istore_n (pc := 6) hx hb d_Side_takeNumber_6 rfl hl (by decide) rfl (fun ls hl => ?_)
  have hl : lv_has ls 3 [(2, .int v3), (0, .ref (b + h)), (1, .int x1)] := hl
  refine lv_aload_n (pc := 7) hx hb d_Side_takeNumber_7 rfl (lv_at hl 1 rfl) ?_
  refine gf_Side_24 (pc := 8) hC hw k0 (Nat.ne_of_gt k1.1) d_Side_takeNumber_8 ?_
  refine lv_iload_n (pc := 11) hx hb d_Side_takeNumber_11 rfl (lv_at hl 2 rfl) ?_
  refine lv_iload_n (pc := 12) hx hb d_Side_takeNumber_12 rfl (lv_at hl 0 rfl) ?_
  refine lv_iconst (v := 1) (pc := 13) hx hb d_Side_takeNumber_13 (by decide) ?_
  refine lv_iadd (pc := 14) hx hb d_Side_takeNumber_14 ?_
  obtain ⟨k4, hp⟩ := hp
  refine fm_iast (pc := 15) hC hw k1 k4 rfl d_Side_takeNumber_15 (fun M5 H locs eM5 hw => ?_)
  have hp := hp M5 eM5
  refine lv_iload_n (pc := 16) hx hb d_Side_takeNumber_16 rfl (lv_at hl 0 rfl) ?_
  exact ret_im hC hr hlk hw hp d_Side_takeNumber_17
set_option maxHeartbeats 4000000 in
set_option maxRecDepth 100000 in
theorem c_X_nameOf (l : Launch) (D : va_G) (dA : Nat → ClassId) (b n : Nat) (T : mT) (R : mR) (M : mM) (sz : Nat) (x1 : Int32) (x2 : Int32) (Q : Int32 → Prop) : Met l y_X_nameOf (Cond.code y_X_nameOf b_X_nameOf 2 (some .int) :: tW) ({ frames := 0, cells := 0, slots := 0, locals := 0 }) (Pm D dA b n T R M sz [.int x1, .int x2] (w_X_nameOf n T R M x1 x2 Q)) (Qip D dA (An b n) b n T R M sz Q) 0 0 (An b n) := by
  refine fm_body (An b n) (by decide) (Nat.le_of_ble_eq_true rfl) (fun k h0 h1 => ⟨by omega, by omega⟩) (fun p e s m below meth c ls hC hr hlk hnm hl hw hp => ?_)
  have hx := hC.1.1
  have hb := hC.1.2.1
  have hl : lv_has ls 2 [(0, .int x1), (1, .int x2)] := hl
  generalize hav : (List.toArray ([.int x1, .int x2] : List Value)) = av at hC ⊢
  unfold w_X_nameOf at hp
  refine lv_iload_n (pc := 0) hx hb d_X_nameOf_0 rfl (lv_at hl 1 rfl) ?_
  refine lv_iconst (v := 4) (pc := 1) hx hb d_X_nameOf_1 (by decide) ?_
  refine lv_imul (pc := 2) hx hb d_X_nameOf_2 ?_
  refine lv_iload_n (pc := 3) hx hb d_X_nameOf_3 rfl (lv_at hl 0 rfl) ?_
  refine lv_iadd (pc := 4) hx hb d_X_nameOf_4 ?_
  exact ret_ip hC hr hlk hw hp d_X_nameOf_5
set_option maxHeartbeats 4000000 in
set_option maxRecDepth 100000 in
theorem c_Frag_rememberSending (l : Launch) (D : va_G) (dA : Nat → ClassId) (b n : Nat) (T : mT) (R : mR) (M : mM) (sz : Nat) (h : Nat) (x1 : Int32) (Q : mM → Prop) : Met l y_Frag_rememberSending (Cond.code y_Frag_rememberSending b_Frag_rememberSending 2 none :: tW) ({ frames := 1, cells := 0, slots := 0, locals := 21 }) (Pm D dA b n T R M sz [.ref (b + h), .int x1] (w_Frag_rememberSending n T R M h x1 Q)) (Qvm D dA (An b n) b n T R sz Q) 0 0 (An b n) := by
  refine fm_body (An b n) (by decide) (Nat.le_of_ble_eq_true rfl) (fun k h0 h1 => ⟨by omega, by omega⟩) (fun p e s m below meth c ls hC hr hlk hnm hl hw hp => ?_)
  have hx := hC.1.1
  have hb := hC.1.2.1
  have hl : lv_has ls 2 [(0, .ref (b + h)), (1, .int x1)] := hl
  generalize hav : (List.toArray ([.ref (b + h), .int x1] : List Value)) = av at hC ⊢
  unfold w_Frag_rememberSending at hp
  obtain ⟨k0, hp⟩ := hp
  refine lv_aload_n (pc := 0) hx hb d_Frag_rememberSending_0 rfl (lv_at hl 0 rfl) ?_
  refine gf_Frag_44 (pc := 1) hC hw k0 d_Frag_rememberSending_1 ?_
  refine lv_aload_n (pc := 4) hx hb d_Frag_rememberSending_4 rfl (lv_at hl 0 rfl) ?_
  obtain ⟨k1, hp⟩ := hp
  refine gf_Frag_15 (pc := 5) hC hw k0 (Nat.ne_of_gt k1.1) d_Frag_rememberSending_5 ?_
  refine fm_alen (pc := 8) (t0 := 0) hC hw k1 rfl (by decide) d_Frag_rememberSending_8 ?_
  refine lv_icmp_ge (pc := 9) (tgt := 39) hx hb d_Frag_rememberSending_9 rfl (fun hc => ?_) (fun hc => ?_)
  · have hp := hp.1 hc
    exact ret_vm hC hr hlk hw hp d_Frag_rememberSending_39
  · have hp := hp.2 hc
    refine lv_aload_n (pc := 12) hx hb d_Frag_rememberSending_12 rfl (lv_at hl 0 rfl) ?_
    refine gf_Frag_15 (pc := 13) hC hw k0 (Nat.ne_of_gt k1.1) d_Frag_rememberSending_13 ?_
    refine lv_aload_n (pc := 16) hx hb d_Frag_rememberSending_16 rfl (lv_at hl 0 rfl) ?_
    refine gf_Frag_44 (pc := 17) hC hw k0 d_Frag_rememberSending_17 ?_
    refine lv_aload_n (pc := 20) hx hb d_Frag_rememberSending_20 rfl (lv_at hl 0 rfl) ?_
    refine gf_Frag_30 (pc := 21) hC hw k0 d_Frag_rememberSending_21 ?_
    refine lv_iload_n (pc := 24) hx hb d_Frag_rememberSending_24 rfl (lv_at hl 1 rfl) ?_
    refine call_ip (pc := 25) (fun _ h => h) hw (fm_runSN (As := [.int (M h 3), .int x1]) (rest := [.int (M h 6), .ref (b + (R h 1))]) hC hw (c_X_nameOf l D dA b n T R M sz (M h 3) x1 _) cy_X_nameOf hp rfl rfl nw_5 mw_62 ⟨Nat.le_of_ble_eq_true rfl, Nat.le_of_ble_eq_true rfl⟩ rfl hl.1 rfl (Nat.le_of_ble_eq_true rfl) d_Frag_rememberSending_25 ⟨(Nat.le_of_ble_eq_true rfl), (Nat.le_of_ble_eq_true rfl)⟩) (fun r2 H locs hp hw => ?_)
    obtain ⟨k3, hp⟩ := hp
    refine fm_iast (pc := 28) hC hw k1 k3 rfl d_Frag_rememberSending_28 (fun M4 H locs eM4 hw => ?_)
    have hp := hp M4 eM4
    refine lv_aload_n (pc := 29) hx hb d_Frag_rememberSending_29 rfl (lv_at hl 0 rfl) ?_
    refine lv_dup (pc := 30) hx hb d_Frag_rememberSending_30 rfl ?_
    refine gf_Frag_44 (pc := 31) hC hw k0 d_Frag_rememberSending_31 ?_
    refine lv_iconst (v := 1) (pc := 34) hx hb d_Frag_rememberSending_34 (by decide) ?_
    refine lv_iadd (pc := 35) hx hb d_Frag_rememberSending_35 ?_
    refine pf_Frag_44 (pc := 36) hC hw k0 d_Frag_rememberSending_36 (fun M5 H locs eM5 hw => ?_)
    have hp := hp M5 eM5
    exact ret_vm hC hr hlk hw hp d_Frag_rememberSending_39
set_option maxHeartbeats 4000000 in
set_option maxRecDepth 100000 in
theorem c_Rec_address (l : Launch) (D : va_G) (dA : Nat → ClassId) (b n : Nat) (T : mT) (R : mR) (M : mM) (sz : Nat) (h : Nat) (x1 : Int32) (x2 : Int32) (x3 : Int32) (x4 : Int32) (Q : mM → Prop) : Met l y_Rec_address (Cond.code y_Rec_address b_Rec_address 5 none :: tW) ({ frames := 0, cells := 0, slots := 0, locals := 0 }) (Pm D dA b n T R M sz [.ref (b + h), .int x1, .int x2, .int x3, .int x4] (w_Rec_address n T R M h x1 x2 x3 x4 Q)) (Qvm D dA (An b n) b n T R sz Q) 0 0 (An b n) := by
  refine fm_body (An b n) (by decide) (Nat.le_of_ble_eq_true rfl) (fun k h0 h1 => ⟨by omega, by omega⟩) (fun p e s m below meth c ls hC hr hlk hnm hl hw hp => ?_)
  have hx := hC.1.1
  have hb := hC.1.2.1
  have hl : lv_has ls 5 [(0, .ref (b + h)), (1, .int x1), (2, .int x2), (3, .int x3), (4, .int x4)] := hl
  generalize hav : (List.toArray ([.ref (b + h), .int x1, .int x2, .int x3, .int x4] : List Value)) = av at hC ⊢
  unfold w_Rec_address at hp
  obtain ⟨k0, hp⟩ := hp
  refine lv_aload_n (pc := 0) hx hb d_Rec_address_0 rfl (lv_at hl 0 rfl) ?_
  refine lv_iload_n (pc := 1) hx hb d_Rec_address_1 rfl (lv_at hl 1 rfl) ?_
  refine pf_Rec_15 (pc := 2) hC hw k0 d_Rec_address_2 (fun M1 H locs eM1 hw => ?_)
  have hp := hp M1 eM1
  refine lv_aload_n (pc := 5) hx hb d_Rec_address_5 rfl (lv_at hl 0 rfl) ?_
  refine lv_iload_n (pc := 6) hx hb d_Rec_address_6 rfl (lv_at hl 2 rfl) ?_
  refine pf_Rec_19 (pc := 7) hC hw k0 d_Rec_address_7 (fun M2 H locs eM2 hw => ?_)
  have hp := hp M2 eM2
  refine lv_aload_n (pc := 10) hx hb d_Rec_address_10 rfl (lv_at hl 0 rfl) ?_
  refine lv_iload_n (pc := 11) hx hb d_Rec_address_11 rfl (lv_at hl 3 rfl) ?_
  refine pf_Rec_22 (pc := 12) hC hw k0 d_Rec_address_12 (fun M3 H locs eM3 hw => ?_)
  have hp := hp M3 eM3
  refine lv_aload_n (pc := 15) hx hb d_Rec_address_15 rfl (lv_at hl 0 rfl) ?_
  refine lv_iload (pc := 16) hx hb d_Rec_address_16 (lv_at hl 4 rfl) ?_
  refine pf_Rec_25 (pc := 18) hC hw k0 d_Rec_address_18 (fun M4 H locs eM4 hw => ?_)
  have hp := hp M4 eM4
  refine lv_aload_n (pc := 21) hx hb d_Rec_address_21 rfl (lv_at hl 0 rfl) ?_
  refine lv_iconst (v := 0) (pc := 22) hx hb d_Rec_address_22 (by decide) ?_
  refine pf_Rec_28 (pc := 23) hC hw k0 d_Rec_address_23 (fun M5 H locs eM5 hw => ?_)
  have hp := hp M5 eM5
  refine lv_aload_n (pc := 26) hx hb d_Rec_address_26 rfl (lv_at hl 0 rfl) ?_
  refine lv_iconst (v := 0) (pc := 27) hx hb d_Rec_address_27 (by decide) ?_
  refine pf_Rec_31 (pc := 28) hC hw k0 d_Rec_address_28 (fun M6 H locs eM6 hw => ?_)
  have hp := hp M6 eM6
  refine lv_aload_n (pc := 31) hx hb d_Rec_address_31 rfl (lv_at hl 0 rfl) ?_
  refine lv_iconst (v := 0) (pc := 32) hx hb d_Rec_address_32 (by decide) ?_
  refine pf_Rec_34 (pc := 33) hC hw k0 d_Rec_address_33 (fun M7 H locs eM7 hw => ?_)
  have hp := hp M7 eM7
  refine lv_aload_n (pc := 36) hx hb d_Rec_address_36 rfl (lv_at hl 0 rfl) ?_
  refine lv_iconst (v := 0) (pc := 37) hx hb d_Rec_address_37 (by decide) ?_
  refine pf_Rec_37 (pc := 38) hC hw k0 (Or.inl rfl) d_Rec_address_38 (fun M8 H locs eM8 hw => ?_)
  have hp := hp M8 eM8
  exact ret_vm hC hr hlk hw hp d_Rec_address_41
set_option maxHeartbeats 4000000 in
set_option maxRecDepth 100000 in
theorem c_Net_append (l : Launch) (D : va_G) (dA : Nat → ClassId) (b n : Nat) (T : mT) (R : mR) (M : mM) (sz : Nat) (h : Nat) (x1 : Int32) (x2 : Int32) (x3 : Int32) (x4 : Int32) (Q : Nat → mM → Prop) : Met l y_Net_append (Cond.code y_Net_append b_Net_append 6 (some (.object "LossyHandshake$NetRecord")) :: tW) ({ frames := 1, cells := 0, slots := 0, locals := 24 }) (Pm D dA b n T R M sz [.ref (b + h), .int x1, .int x2, .int x3, .int x4] (w_Net_append n T R M h x1 x2 x3 x4 Q)) (Qrm D dA (An b n) b n T R sz Q) 0 0 (An b n) := by
  refine fm_body (An b n) (by decide) (Nat.le_of_ble_eq_true rfl) (fun k h0 h1 => ⟨by omega, by omega⟩) (fun p e s m below meth c ls hC hr hlk hnm hl hw hp => ?_)
  have hx := hC.1.1
  have hb := hC.1.2.1
  have hl : lv_has ls 6 [(0, .ref (b + h)), (1, .int x1), (2, .int x2), (3, .int x3), (4, .int x4)] := hl
  generalize hav : (List.toArray ([.ref (b + h), .int x1, .int x2, .int x3, .int x4] : List Value)) = av at hC ⊢
  unfold w_Net_append at hp
  obtain ⟨k0, hp⟩ := hp
  have B62 : ∀ (a1 : Int32) (a2 : Int32) (a3 : Int32) (a4 : Int32) (a5 : Nat) (M : mM)  (ls : Array Slot) (H : Heap) (locs : List Loc), ok T n a5 3 → lv_has ls 6 [(1, .int a1), (2, .int a2), (3, .int a3), (4, .int a4), (5, .ref (b + a5))] → St D dA (An b n) b n T R M sz s.heap H locs → w_Net_append_B62 n T R Q a1 a2 a3 a4 a5 M → W p l e ({ frames := 1, cells := 0, slots := 0, locals := 24 }) s m av below meth c H locs 0 0 (MQ below (Qrm D dA (An b n) b n T R sz Q) av s 0 0 (An b n)) (F0 m 62 ls []) := by
    intro a1 a2 a3 a4 a5 M ls H locs f5 hl hw hp
    unfold w_Net_append_B62 at hp
    refine lv_aload (pc := 62) hx hb d_Net_append_62 (lv_at hl 4 rfl) ?_
    refine lv_iload_n (pc := 64) hx hb d_Net_append_64 rfl (lv_at hl 0 rfl) ?_
    refine lv_iload_n (pc := 65) hx hb d_Net_append_65 rfl (lv_at hl 1 rfl) ?_
    refine lv_iload_n (pc := 66) hx hb d_Net_append_66 rfl (lv_at hl 2 rfl) ?_
    refine lv_iload (pc := 67) hx hb d_Net_append_67 (lv_at hl 3 rfl) ?_
    refine call_vm (pc := 69) (fun _ h => h) hw (fm_runV (As := [.int a1, .int a2, .int a3, .int a4]) (rest := []) hC hw (c_Rec_address l D dA b n T R M sz a5 a1 a2 a3 a4 _) cy_Rec_address hp rfl rfl mw_63 mw_64 mw_65 (rfl : classes[3]? = _) (by decide) f5 ⟨Nat.le_of_ble_eq_true rfl, Nat.le_of_ble_eq_true rfl⟩ rfl hl.1 rfl (Nat.le_of_ble_eq_true rfl) d_Net_append_69 ⟨(Nat.le_of_ble_eq_true rfl), (Nat.le_of_ble_eq_true rfl)⟩) (fun M6 H locs hp hw => ?_)
    refine lv_aload (pc := 72) hx hb d_Net_append_72 (lv_at hl 4 rfl) ?_
    exact ret_rm hC hr hlk hw (Nat.ne_of_gt f5.1) hp d_Net_append_74
  refine lv_aload_n (pc := 0) hx hb d_Net_append_0 rfl (lv_at hl 0 rfl) ?_
  refine lv_dup (pc := 1) hx hb d_Net_append_1 rfl ?_
  refine gf_Net_29 (pc := 2) hC hw k0 d_Net_append_2 ?_
  refine lv_iconst (v := 1) (pc := 5) hx hb d_Net_append_5 (by decide) ?_
  refine lv_iadd (pc := 6) hx hb d_Net_append_6 ?_
  refine pf_Net_29 (pc := 7) hC hw k0 d_Net_append_7 (fun M1 H locs eM1 hw => ?_)
  have hp := hp M1 eM1
  refine lv_aload_n (pc := 10) hx hb d_Net_append_10 rfl (lv_at hl 0 rfl) ?_
  obtain ⟨k2, hp⟩ := hp
  refine gf_Net_22 (pc := 11) hC hw k0 (Nat.ne_of_gt k2.1) d_Net_append_11 ?_
  refine lv_astore (pc := 14) hx hb d_Net_append_14 hl (by decide) rfl (fun ls hl => ?_)
  have hl : lv_has ls 6 [(5, .ref (b + (R h 2))), (0, .ref (b + h)), (1, .int x1), (2, .int x2), (3, .int x3), (4, .int x4)] := hl
  refine lv_aload_n (pc := 16) hx hb d_Net_append_16 rfl (lv_at hl 1 rfl) ?_
  refine gf_Net_25 (pc := 17) hC hw k0 d_Net_append_17 ?_
  refine lv_aload_n (pc := 20) hx hb d_Net_append_20 rfl (lv_at hl 1 rfl) ?_
  obtain ⟨k3, hp⟩ := hp
  refine gf_Net_11 (pc := 21) hC hw k0 (Nat.ne_of_gt k3.1) d_Net_append_21 ?_
  refine fm_alen (pc := 24) (t0 := 2) hC hw k3 rfl (by decide) d_Net_append_24 ?_
  refine lv_icmp_ge (pc := 25) (tgt := 52) hx hb d_Net_append_25 rfl (fun hc => ?_) (fun hc => ?_)
  · have hp := hp.1 hc
    refine lv_aload_n (pc := 52) hx hb d_Net_append_52 rfl (lv_at hl 1 rfl) ?_
    refine lv_dup (pc := 53) hx hb d_Net_append_53 rfl ?_
    refine gf_Net_32 (pc := 54) hC hw k0 d_Net_append_54 ?_
    refine lv_iconst (v := 1) (pc := 57) hx hb d_Net_append_57 (by decide) ?_
    refine lv_iadd (pc := 58) hx hb d_Net_append_58 ?_
    refine pf_Net_32 (pc := 59) hC hw k0 d_Net_append_59 (fun M4 H locs eM4 hw => ?_)
    have hp := hp M4 eM4
    exact B62  x1 x2 x3 x4 (R h 2) M4 ls _ _ k2 (lv_sub hl [2, 3, 4, 5, 0] rfl) hw hp
  · have hp := hp.2 hc
    refine lv_aload_n (pc := 28) hx hb d_Net_append_28 rfl (lv_at hl 1 rfl) ?_
    refine gf_Net_11 (pc := 29) hC hw k0 (Nat.ne_of_gt k3.1) d_Net_append_29 ?_
    refine lv_aload_n (pc := 32) hx hb d_Net_append_32 rfl (lv_at hl 1 rfl) ?_
    refine gf_Net_25 (pc := 33) hC hw k0 d_Net_append_33 ?_
    obtain ⟨k7, hp⟩ := hp
    obtain ⟨k8, hp⟩ := hp
    refine fm_aald (pc := 36) hC hw 2 rfl (by decide) k3 k7 rfl (Nat.ne_of_gt k8.1) d_Net_append_36 ?_
    refine lv_astore (pc := 37) hx hb d_Net_append_37 hl (by decide) rfl (fun ls hl => ?_)
    have hl : lv_has ls 6 [(5, .ref (b + (R (R h 0) (M1 h 3).toNatClampNeg))), (0, .ref (b + h)), (1, .int x1), (2, .int x2), (3, .int x3), (4, .int x4)] := hl
    refine lv_aload_n (pc := 39) hx hb d_Net_append_39 rfl (lv_at hl 1 rfl) ?_
    refine lv_dup (pc := 40) hx hb d_Net_append_40 rfl ?_
    refine gf_Net_25 (pc := 41) hC hw k0 d_Net_append_41 ?_
    refine lv_iconst (v := 1) (pc := 44) hx hb d_Net_append_44 (by decide) ?_
    refine lv_iadd (pc := 45) hx hb d_Net_append_45 ?_
    refine pf_Net_25 (pc := 46) hC hw k0 d_Net_append_46 (fun M9 H locs eM9 hw => ?_)
    have hp := hp M9 eM9
    refine lv_goto (pc := 49) (tgt := 62) hx hb d_Net_append_49 rfl ?_
    exact B62  x1 x2 x3 x4 (R (R h 0) (M1 h 3).toNatClampNeg) M9 ls _ _ k8 (lv_sub hl [2, 3, 4, 5, 0] rfl) hw hp
