set_option maxHeartbeats 4000000 in
set_option maxRecDepth 100000 in
theorem c_Server_addFirstThreeToTranscript (l : Launch) (D : va_G) (dA : Nat → ClassId) (b n : Nat) (T : mT) (R : mR) (M : mM) (sz : Nat) (h : Nat) (x1 : Nat) (Q : mM → Prop) : Met l y_Server_addFirstThreeToTranscript (Cond.code y_Server_addFirstThreeToTranscript b_Server_addFirstThreeToTranscript 3 none :: tW) ({ frames := 1, cells := 0, slots := 0, locals := 24 }) (Pm D dA b n T R M sz [.ref (b + h), .ref (b + x1)] (w_Server_addFirstThreeToTranscript n T R M h x1 Q)) (Qvm D dA (An b n) b n T R sz Q) 0 0 (An b n) := by
  refine fm_body (An b n) (by decide) (Nat.le_of_ble_eq_true rfl) (fun k h0 h1 => ⟨by omega, by omega⟩) (fun p e s m below meth c ls hC hr hlk hnm hl hw hp => ?_)
  have hx := hC.1.1
  have hb := hC.1.2.1
  have hl : lv_has ls 3 [(0, .ref (b + h)), (1, .ref (b + x1))] := hl
  generalize hav : (List.toArray ([.ref (b + h), .ref (b + x1)] : List Value)) = av at hC ⊢
  unfold w_Server_addFirstThreeToTranscript at hp
  obtain ⟨k0, hp⟩ := hp
  have L12 : ∀ (N12 : Nat) (a0 : Nat) (a1 : Nat) (a2 : Int32) (M : mM)  (ls : Array Slot) (H : Heap) (locs : List Loc), ok T n a0 9 → ok T n a1 3 → lv_has ls 3 [(0, .ref (b + a0)), (1, .ref (b + a1)), (2, .int a2)] → St D dA (An b n) b n T R M sz s.heap H locs → w_Server_addFirstThreeToTranscript_L12 n T R Q a0 a1 N12 a2 M → W p l e ({ frames := 1, cells := 0, slots := 0, locals := 24 }) s m av below meth c H locs 0 0 (MQ below (Qvm D dA (An b n) b n T R sz Q) av s 0 0 (An b n)) (F0 m 12 ls []) := by
    intro N12
    induction N12 with
    | zero => intro a0 a1 a2 M ls H locs f4 f5 hl hw hp; exact False.elim hp
    | succ N12 ih12 =>
      intro a0 a1 a2 M ls H locs f4 f5 hl hw hp
      unfold w_Server_addFirstThreeToTranscript_L12 at hp
      refine lv_iload_n (pc := 12) hx hb d_Server_addFirstThreeToTranscript_12 rfl (lv_at hl 2 rfl) ?_
      refine lv_iconst (v := 4) (pc := 13) hx hb d_Server_addFirstThreeToTranscript_13 (by decide) ?_
      refine lv_icmp_ge (pc := 14) (tgt := 36) hx hb d_Server_addFirstThreeToTranscript_14 rfl (fun hc => ?_) (fun hc => ?_)
      · have hp := hp.1 hc
        refine lv_aload_n (pc := 36) hx hb d_Server_addFirstThreeToTranscript_36 rfl (lv_at hl 0 rfl) ?_
        refine lv_aload_n (pc := 37) hx hb d_Server_addFirstThreeToTranscript_37 rfl (lv_at hl 1 rfl) ?_
        obtain ⟨k6, hp⟩ := hp
        refine gf_Server_69 (pc := 38) hC hw f5 (Nat.ne_of_gt k6.1) d_Server_addFirstThreeToTranscript_38 ?_
        refine lv_iconst (v := 4) (pc := 41) hx hb d_Server_addFirstThreeToTranscript_41 (by decide) ?_
        refine lv_bipush (v := 8) (pc := 42) hx hb d_Server_addFirstThreeToTranscript_42 (by decide) ?_
        refine call_vm (pc := 44) (fun _ h => h) hw (fm_runU (x := (⟨"LossyHandshake$Server", "addBytesToTranscript", "([III)V"⟩ : MethodName)) (As := [.ref (b + (R a1 0)), .int (4 : Int32), .int (8 : Int32)]) (rest := []) hC hw (c_Side_addBytesToTranscript l D dA b n T R M sz a0 (R a1 0) (4 : Int32) (8 : Int32) _) cy_Side_addBytesToTranscript hp rfl rfl rfl mw_202 mw_203 mw_52 mw_204 (rfl : classes[9]? = _) (by decide) f4 ⟨Nat.le_of_ble_eq_true rfl, Nat.le_of_ble_eq_true rfl⟩ rfl hl.1 rfl (Nat.le_of_ble_eq_true rfl) d_Server_addFirstThreeToTranscript_44 ⟨(Nat.le_of_ble_eq_true rfl), (Nat.le_of_ble_eq_true rfl)⟩) (fun M7 H locs hp hw => ?_)
        refine lv_aload_n (pc := 47) hx hb d_Server_addFirstThreeToTranscript_47 rfl (lv_at hl 0 rfl) ?_
        refine lv_aload_n (pc := 48) hx hb d_Server_addFirstThreeToTranscript_48 rfl (lv_at hl 1 rfl) ?_
        refine gf_Server_69 (pc := 49) hC hw f5 (Nat.ne_of_gt k6.1) d_Server_addFirstThreeToTranscript_49 ?_
        refine lv_iconst (v := 0) (pc := 52) hx hb d_Server_addFirstThreeToTranscript_52 (by decide) ?_
        refine lv_bipush (v := 8) (pc := 53) hx hb d_Server_addFirstThreeToTranscript_53 (by decide) ?_
        refine call_vm (pc := 55) (fun _ h => h) hw (fm_runU (x := (⟨"LossyHandshake$Server", "addBytesToTranscript", "([III)V"⟩ : MethodName)) (As := [.ref (b + (R a1 0)), .int (0 : Int32), .int (8 : Int32)]) (rest := []) hC hw (c_Side_addBytesToTranscript l D dA b n T R M7 sz a0 (R a1 0) (0 : Int32) (8 : Int32) _) cy_Side_addBytesToTranscript hp rfl rfl rfl mw_202 mw_203 mw_52 mw_204 (rfl : classes[9]? = _) (by decide) f4 ⟨Nat.le_of_ble_eq_true rfl, Nat.le_of_ble_eq_true rfl⟩ rfl hl.1 rfl (Nat.le_of_ble_eq_true rfl) d_Server_addFirstThreeToTranscript_55 ⟨(Nat.le_of_ble_eq_true rfl), (Nat.le_of_ble_eq_true rfl)⟩) (fun M8 H locs hp hw => ?_)
        exact ret_vm hC hr hlk hw hp d_Server_addFirstThreeToTranscript_58
      · have hp := hp.2 hc
        refine lv_aload_n (pc := 17) hx hb d_Server_addFirstThreeToTranscript_17 rfl (lv_at hl 0 rfl) ?_
        refine lv_aload_n (pc := 18) hx hb d_Server_addFirstThreeToTranscript_18 rfl (lv_at hl 0 rfl) ?_
        refine gf_Server_150 (pc := 19) hC hw f4 d_Server_addFirstThreeToTranscript_19 ?_
        refine lv_bipush (v := 31) (pc := 22) hx hb d_Server_addFirstThreeToTranscript_22 (by decide) ?_
        refine lv_imul (pc := 24) hx hb d_Server_addFirstThreeToTranscript_24 ?_
        refine lv_iconst (v := 1) (pc := 25) hx hb d_Server_addFirstThreeToTranscript_25 (by decide) ?_
        refine lv_iadd (pc := 26) hx hb d_Server_addFirstThreeToTranscript_26 ?_
        refine pf_Server_150 (pc := 27) hC hw f4 d_Server_addFirstThreeToTranscript_27 (fun M9 H locs eM9 hw => ?_)
        have hp := hp M9 eM9
        obtain ⟨v10, ev10⟩ : ∃ z : Int32, z = a2 + (1 : Int32) := ⟨_, rfl⟩
        have hp := hp v10 ev10
        refine lv_iinc (pc := 30) (k := 2) (v := v10) hx hb d_Server_addFirstThreeToTranscript_30 hl rfl ev10.symm (by decide) rfl (fun ls hl => ?_)
        have hl : lv_has ls 3 [(2, .int v10), (0, .ref (b + a0)), (1, .ref (b + a1))] := hl
        refine lv_goto (pc := 33) (tgt := 12) hx hb d_Server_addFirstThreeToTranscript_33 rfl ?_
        exact ih12  a0 a1 v10 M9 ls _ _ f4 f5 (lv_sub hl [1, 2, 0] rfl) hw hp
  refine lv_aload_n (pc := 0) hx hb d_Server_addFirstThreeToTranscript_0 rfl (lv_at hl 0 rfl) ?_
  refine lv_aload_n (pc := 1) hx hb d_Server_addFirstThreeToTranscript_1 rfl (lv_at hl 1 rfl) ?_
  obtain ⟨k1, hp⟩ := hp
  obtain ⟨k2, hp⟩ := hp
  refine gf_Server_69 (pc := 2) hC hw k1 (Nat.ne_of_gt k2.1) d_Server_addFirstThreeToTranscript_2 ?_
  refine lv_iconst (v := 0) (pc := 5) hx hb d_Server_addFirstThreeToTranscript_5 (by decide) ?_
  refine lv_iconst (v := 4) (pc := 6) hx hb d_Server_addFirstThreeToTranscript_6 (by decide) ?_
  refine call_vm (pc := 7) (fun _ h => h) hw (fm_runU (x := (⟨"LossyHandshake$Server", "addBytesToTranscript", "([III)V"⟩ : MethodName)) (As := [.ref (b + (R x1 0)), .int (0 : Int32), .int (4 : Int32)]) (rest := []) hC hw (c_Side_addBytesToTranscript l D dA b n T R M sz h (R x1 0) (0 : Int32) (4 : Int32) _) cy_Side_addBytesToTranscript hp rfl rfl rfl mw_202 mw_203 mw_52 mw_204 (rfl : classes[9]? = _) (by decide) k0 ⟨Nat.le_of_ble_eq_true rfl, Nat.le_of_ble_eq_true rfl⟩ rfl hl.1 rfl (Nat.le_of_ble_eq_true rfl) d_Server_addFirstThreeToTranscript_7 ⟨(Nat.le_of_ble_eq_true rfl), (Nat.le_of_ble_eq_true rfl)⟩) (fun M3 H locs hp hw => ?_)
  refine lv_iconst (v := 0) (pc := 10) hx hb d_Server_addFirstThreeToTranscript_10 (by decide) ?_
  refine lv_istore_n (pc := 11) hx hb d_Server_addFirstThreeToTranscript_11 rfl hl (by decide) rfl (fun ls hl => ?_)
  have hl : lv_has ls 3 [(2, .int (0 : Int32)), (0, .ref (b + h)), (1, .ref (b + x1))] := hl
  obtain ⟨N12, hp⟩ := hp
  exact L12 N12 h x1 (0 : Int32) M3 ls _ _ k0 k1 (lv_sub hl [1, 2, 0] rfl) hw hp
set_option maxHeartbeats 4000000 in
set_option maxRecDepth 100000 in
theorem c_Server_workOutFlight (l : Launch) (D : va_G) (dA : Nat → ClassId) (b n : Nat) (T : mT) (R : mR) (M : mM) (sz : Nat) (h : Nat) (x1 : Int32) (Q : mM → Prop) : Met l y_Server_workOutFlight (Cond.code y_Server_workOutFlight b_Server_workOutFlight 2 none :: tW) ({ frames := 3, cells := 0, slots := 0, locals := 61 }) (Pm D dA b n T R M sz [.ref (b + h), .int x1] (w_Server_workOutFlight n T R M h x1 Q)) (Qvm D dA (An b n) b n T R sz Q) 0 0 (An b n) := by
  refine fm_body (An b n) (by decide) (Nat.le_of_ble_eq_true rfl) (fun k h0 h1 => ⟨by omega, by omega⟩) (fun p e s m below meth c ls hC hr hlk hnm hl hw hp => ?_)
  have hx := hC.1.1
  have hb := hC.1.2.1
  have hl : lv_has ls 2 [(0, .ref (b + h)), (1, .int x1)] := hl
  generalize hav : (List.toArray ([.ref (b + h), .int x1] : List Value)) = av at hC ⊢
  unfold w_Server_workOutFlight at hp
  obtain ⟨k0, hp⟩ := hp
  refine lv_aload_n (pc := 0) hx hb d_Server_workOutFlight_0 rfl (lv_at hl 0 rfl) ?_
  obtain ⟨k1, hp⟩ := hp
  refine gf_Server_20 (pc := 1) hC hw k0 (Nat.ne_of_gt k1.1) d_Server_workOutFlight_1 ?_
  refine lv_iconst (v := 0) (pc := 4) hx hb d_Server_workOutFlight_4 (by decide) ?_
  refine lv_aload_n (pc := 5) hx hb d_Server_workOutFlight_5 rfl (lv_at hl 0 rfl) ?_
  refine gf_Server_33 (pc := 6) hC hw k0 d_Server_workOutFlight_6 ?_
  refine lv_iconst (v := 1) (pc := 9) hx hb d_Server_workOutFlight_9 (by decide) ?_
  refine lv_iadd (pc := 10) hx hb d_Server_workOutFlight_10 ?_
  refine lv_iload_n (pc := 11) hx hb d_Server_workOutFlight_11 rfl (lv_at hl 1 rfl) ?_
  refine call_ip (pc := 12) (fun _ h => h) hw (fm_runSN (As := [.int ((M h 14) + (1 : Int32)), .int x1]) (rest := [.int (0 : Int32), .ref (b + (R h 16))]) hC hw (c_X_mix l D dA b n T R M sz ((M h 14) + (1 : Int32)) x1 _) cy_X_mix hp rfl rfl nw_12 mw_35 ⟨Nat.le_of_ble_eq_true rfl, Nat.le_of_ble_eq_true rfl⟩ rfl hl.1 rfl (Nat.le_of_ble_eq_true rfl) d_Server_workOutFlight_12 ⟨(Nat.le_of_ble_eq_true rfl), (Nat.le_of_ble_eq_true rfl)⟩) (fun r2 H locs hp hw => ?_)
  refine call_vm (pc := 15) (fun _ h => h) hw (fm_runV (As := [.int (0 : Int32), .int r2]) (rest := []) hC hw (c_Msg_writeInt l D dA b n T R M sz (R h 16) (0 : Int32) r2 _) cy_Msg_writeInt hp rfl rfl mw_198 mw_99 mw_100 (rfl : classes[0]? = _) (by decide) k1 ⟨Nat.le_of_ble_eq_true rfl, Nat.le_of_ble_eq_true rfl⟩ rfl hl.1 rfl (Nat.le_of_ble_eq_true rfl) d_Server_workOutFlight_15 ⟨(Nat.le_of_ble_eq_true rfl), (Nat.le_of_ble_eq_true rfl)⟩) (fun M3 H locs hp hw => ?_)
  refine lv_aload_n (pc := 18) hx hb d_Server_workOutFlight_18 rfl (lv_at hl 0 rfl) ?_
  obtain ⟨k4, hp⟩ := hp
  refine gf_Server_23 (pc := 19) hC hw k0 (Nat.ne_of_gt k4.1) d_Server_workOutFlight_19 ?_
  refine lv_iload_n (pc := 22) hx hb d_Server_workOutFlight_22 rfl (lv_at hl 1 rfl) ?_
  refine call_vm (pc := 23) (fun _ h => h) hw (fm_runV (As := [.int x1]) (rest := []) hC hw (c_Msg_writeMixes l D dA b n T R M3 sz (R h 17) x1 _) cy_Msg_writeMixes hp rfl rfl mw_205 mw_206 mw_207 (rfl : classes[0]? = _) (by decide) k4 ⟨Nat.le_of_ble_eq_true rfl, Nat.le_of_ble_eq_true rfl⟩ rfl hl.1 rfl (Nat.le_of_ble_eq_true rfl) d_Server_workOutFlight_23 ⟨(Nat.le_of_ble_eq_true rfl), (Nat.le_of_ble_eq_true rfl)⟩) (fun M5 H locs hp hw => ?_)
  refine lv_aload_n (pc := 26) hx hb d_Server_workOutFlight_26 rfl (lv_at hl 0 rfl) ?_
  obtain ⟨k6, hp⟩ := hp
  refine gf_Server_40 (pc := 27) hC hw k0 (Nat.ne_of_gt k6.1) d_Server_workOutFlight_27 ?_
  refine lv_aload_n (pc := 30) hx hb d_Server_workOutFlight_30 rfl (lv_at hl 0 rfl) ?_
  refine gf_Server_33 (pc := 31) hC hw k0 d_Server_workOutFlight_31 ?_
  refine lv_iconst (v := 2) (pc := 34) hx hb d_Server_workOutFlight_34 (by decide) ?_
  refine lv_iadd (pc := 35) hx hb d_Server_workOutFlight_35 ?_
  refine call_vm (pc := 36) (fun _ h => h) hw (fm_runV (As := [.int ((M5 h 14) + (2 : Int32))]) (rest := []) hC hw (c_Msg_writeMixes l D dA b n T R M5 sz (R h 18) ((M5 h 14) + (2 : Int32)) _) cy_Msg_writeMixes hp rfl rfl mw_205 mw_206 mw_207 (rfl : classes[0]? = _) (by decide) k6 ⟨Nat.le_of_ble_eq_true rfl, Nat.le_of_ble_eq_true rfl⟩ rfl hl.1 rfl (Nat.le_of_ble_eq_true rfl) d_Server_workOutFlight_36 ⟨(Nat.le_of_ble_eq_true rfl), (Nat.le_of_ble_eq_true rfl)⟩) (fun M7 H locs hp hw => ?_)
  refine lv_aload_n (pc := 39) hx hb d_Server_workOutFlight_39 rfl (lv_at hl 0 rfl) ?_
  refine lv_aload_n (pc := 40) hx hb d_Server_workOutFlight_40 rfl (lv_at hl 0 rfl) ?_
  refine gf_Server_20 (pc := 41) hC hw k0 (Nat.ne_of_gt k1.1) d_Server_workOutFlight_41 ?_
  refine call_vm (pc := 44) (fun _ h => h) hw (fm_runU (x := (⟨"LossyHandshake$Server", "addToTranscript", "(LLossyHandshake$Message;)V"⟩ : MethodName)) (As := [.ref (b + (R h 16))]) (rest := []) hC hw (c_Side_addToTranscript l D dA b n T R M7 sz h (R h 16) _) cy_Side_addToTranscript hp rfl rfl rfl mw_208 mw_209 mw_86 mw_210 (rfl : classes[9]? = _) (by decide) k0 ⟨Nat.le_of_ble_eq_true rfl, Nat.le_of_ble_eq_true rfl⟩ rfl hl.1 rfl (Nat.le_of_ble_eq_true rfl) d_Server_workOutFlight_44 ⟨(Nat.le_of_ble_eq_true rfl), (Nat.le_of_ble_eq_true rfl)⟩) (fun M8 H locs hp hw => ?_)
  refine lv_aload_n (pc := 47) hx hb d_Server_workOutFlight_47 rfl (lv_at hl 0 rfl) ?_
  refine lv_aload_n (pc := 48) hx hb d_Server_workOutFlight_48 rfl (lv_at hl 0 rfl) ?_
  refine gf_Server_23 (pc := 49) hC hw k0 (Nat.ne_of_gt k4.1) d_Server_workOutFlight_49 ?_
  refine call_vm (pc := 52) (fun _ h => h) hw (fm_runU (x := (⟨"LossyHandshake$Server", "addToTranscript", "(LLossyHandshake$Message;)V"⟩ : MethodName)) (As := [.ref (b + (R h 17))]) (rest := []) hC hw (c_Side_addToTranscript l D dA b n T R M8 sz h (R h 17) _) cy_Side_addToTranscript hp rfl rfl rfl mw_208 mw_209 mw_86 mw_210 (rfl : classes[9]? = _) (by decide) k0 ⟨Nat.le_of_ble_eq_true rfl, Nat.le_of_ble_eq_true rfl⟩ rfl hl.1 rfl (Nat.le_of_ble_eq_true rfl) d_Server_workOutFlight_52 ⟨(Nat.le_of_ble_eq_true rfl), (Nat.le_of_ble_eq_true rfl)⟩) (fun M9 H locs hp hw => ?_)
  refine lv_aload_n (pc := 55) hx hb d_Server_workOutFlight_55 rfl (lv_at hl 0 rfl) ?_
  refine lv_aload_n (pc := 56) hx hb d_Server_workOutFlight_56 rfl (lv_at hl 0 rfl) ?_
  refine gf_Server_40 (pc := 57) hC hw k0 (Nat.ne_of_gt k6.1) d_Server_workOutFlight_57 ?_
  refine call_vm (pc := 60) (fun _ h => h) hw (fm_runU (x := (⟨"LossyHandshake$Server", "addToTranscript", "(LLossyHandshake$Message;)V"⟩ : MethodName)) (As := [.ref (b + (R h 18))]) (rest := []) hC hw (c_Side_addToTranscript l D dA b n T R M9 sz h (R h 18) _) cy_Side_addToTranscript hp rfl rfl rfl mw_208 mw_209 mw_86 mw_210 (rfl : classes[9]? = _) (by decide) k0 ⟨Nat.le_of_ble_eq_true rfl, Nat.le_of_ble_eq_true rfl⟩ rfl hl.1 rfl (Nat.le_of_ble_eq_true rfl) d_Server_workOutFlight_60 ⟨(Nat.le_of_ble_eq_true rfl), (Nat.le_of_ble_eq_true rfl)⟩) (fun M10 H locs hp hw => ?_)
  refine lv_aload_n (pc := 63) hx hb d_Server_workOutFlight_63 rfl (lv_at hl 0 rfl) ?_
  obtain ⟨k11, hp⟩ := hp
  refine gf_Server_26 (pc := 64) hC hw k0 (Nat.ne_of_gt k11.1) d_Server_workOutFlight_64 ?_
  refine lv_iconst (v := 0) (pc := 67) hx hb d_Server_workOutFlight_67 (by decide) ?_
  refine lv_aload_n (pc := 68) hx hb d_Server_workOutFlight_68 rfl (lv_at hl 0 rfl) ?_
  refine gf_Server_150 (pc := 69) hC hw k0 d_Server_workOutFlight_69 ?_
  refine lv_iconst (v := 2) (pc := 72) hx hb d_Server_workOutFlight_72 (by decide) ?_
  refine call_ip (pc := 73) (fun _ h => h) hw (fm_runSN (As := [.int (M10 h 10), .int (2 : Int32)]) (rest := [.int (0 : Int32), .ref (b + (R h 19))]) hC hw (c_X_mix l D dA b n T R M10 sz (M10 h 10) (2 : Int32) _) cy_X_mix hp rfl rfl nw_12 mw_35 ⟨Nat.le_of_ble_eq_true rfl, Nat.le_of_ble_eq_true rfl⟩ rfl hl.1 rfl (Nat.le_of_ble_eq_true rfl) d_Server_workOutFlight_73 ⟨(Nat.le_of_ble_eq_true rfl), (Nat.le_of_ble_eq_true rfl)⟩) (fun r12 H locs hp hw => ?_)
  refine call_vm (pc := 76) (fun _ h => h) hw (fm_runV (As := [.int (0 : Int32), .int r12]) (rest := []) hC hw (c_Msg_writeInt l D dA b n T R M10 sz (R h 19) (0 : Int32) r12 _) cy_Msg_writeInt hp rfl rfl mw_198 mw_99 mw_100 (rfl : classes[0]? = _) (by decide) k11 ⟨Nat.le_of_ble_eq_true rfl, Nat.le_of_ble_eq_true rfl⟩ rfl hl.1 rfl (Nat.le_of_ble_eq_true rfl) d_Server_workOutFlight_76 ⟨(Nat.le_of_ble_eq_true rfl), (Nat.le_of_ble_eq_true rfl)⟩) (fun M13 H locs hp hw => ?_)
  refine lv_aload_n (pc := 79) hx hb d_Server_workOutFlight_79 rfl (lv_at hl 0 rfl) ?_
  refine lv_aload_n (pc := 80) hx hb d_Server_workOutFlight_80 rfl (lv_at hl 0 rfl) ?_
  refine gf_Server_26 (pc := 81) hC hw k0 (Nat.ne_of_gt k11.1) d_Server_workOutFlight_81 ?_
  refine call_vm (pc := 84) (fun _ h => h) hw (fm_runU (x := (⟨"LossyHandshake$Server", "addToTranscript", "(LLossyHandshake$Message;)V"⟩ : MethodName)) (As := [.ref (b + (R h 19))]) (rest := []) hC hw (c_Side_addToTranscript l D dA b n T R M13 sz h (R h 19) _) cy_Side_addToTranscript hp rfl rfl rfl mw_208 mw_209 mw_86 mw_210 (rfl : classes[9]? = _) (by decide) k0 ⟨Nat.le_of_ble_eq_true rfl, Nat.le_of_ble_eq_true rfl⟩ rfl hl.1 rfl (Nat.le_of_ble_eq_true rfl) d_Server_workOutFlight_84 ⟨(Nat.le_of_ble_eq_true rfl), (Nat.le_of_ble_eq_true rfl)⟩) (fun M14 H locs hp hw => ?_)
  refine lv_aload_n (pc := 87) hx hb d_Server_workOutFlight_87 rfl (lv_at hl 0 rfl) ?_
  obtain ⟨k15, hp⟩ := hp
  refine gf_Server_160 (pc := 88) hC hw k0 (Nat.ne_of_gt k15.1) d_Server_workOutFlight_88 ?_
  refine call_vm (pc := 91) (fun _ h => h) hw (fm_runV (As := []) (rest := []) hC hw (c_Flight_begin l D dA b n T R M14 sz (R h 3) _) cy_Flight_begin hp rfl rfl mw_211 mw_89 mw_90 (rfl : classes[2]? = _) (by decide) k15 ⟨Nat.le_of_ble_eq_true rfl, Nat.le_of_ble_eq_true rfl⟩ rfl hl.1 rfl (Nat.le_of_ble_eq_true rfl) d_Server_workOutFlight_91 ⟨(Nat.le_of_ble_eq_true rfl), (Nat.le_of_ble_eq_true rfl)⟩) (fun M16 H locs hp hw => ?_)
  refine lv_aload_n (pc := 94) hx hb d_Server_workOutFlight_94 rfl (lv_at hl 0 rfl) ?_
  refine gf_Server_160 (pc := 95) hC hw k0 (Nat.ne_of_gt k15.1) d_Server_workOutFlight_95 ?_
  refine lv_aload_n (pc := 98) hx hb d_Server_workOutFlight_98 rfl (lv_at hl 0 rfl) ?_
  refine gf_Server_20 (pc := 99) hC hw k0 (Nat.ne_of_gt k1.1) d_Server_workOutFlight_99 ?_
  refine lv_aload_n (pc := 102) hx hb d_Server_workOutFlight_102 rfl (lv_at hl 0 rfl) ?_
  refine gf_Server_169 (pc := 103) hC hw k0 d_Server_workOutFlight_103 ?_
  refine call_vm (pc := 106) (fun _ h => h) hw (fm_runV (As := [.ref (b + (R h 16)), .int (M16 h 1)]) (rest := []) hC hw (c_Flight_add l D dA b n T R M16 sz (R h 3) (R h 16) (M16 h 1) _) cy_Flight_add hp rfl rfl mw_212 mw_92 mw_93 (rfl : classes[2]? = _) (by decide) k15 ⟨Nat.le_of_ble_eq_true rfl, Nat.le_of_ble_eq_true rfl⟩ rfl hl.1 rfl (Nat.le_of_ble_eq_true rfl) d_Server_workOutFlight_106 ⟨(Nat.le_of_ble_eq_true rfl), (Nat.le_of_ble_eq_true rfl)⟩) (fun M17 H locs hp hw => ?_)
  refine lv_aload_n (pc := 109) hx hb d_Server_workOutFlight_109 rfl (lv_at hl 0 rfl) ?_
  refine gf_Server_160 (pc := 110) hC hw k0 (Nat.ne_of_gt k15.1) d_Server_workOutFlight_110 ?_
  refine lv_aload_n (pc := 113) hx hb d_Server_workOutFlight_113 rfl (lv_at hl 0 rfl) ?_
  refine gf_Server_23 (pc := 114) hC hw k0 (Nat.ne_of_gt k4.1) d_Server_workOutFlight_114 ?_
  refine lv_aload_n (pc := 117) hx hb d_Server_workOutFlight_117 rfl (lv_at hl 0 rfl) ?_
  refine gf_Server_169 (pc := 118) hC hw k0 d_Server_workOutFlight_118 ?_
  refine call_vm (pc := 121) (fun _ h => h) hw (fm_runV (As := [.ref (b + (R h 17)), .int (M17 h 1)]) (rest := []) hC hw (c_Flight_add l D dA b n T R M17 sz (R h 3) (R h 17) (M17 h 1) _) cy_Flight_add hp rfl rfl mw_212 mw_92 mw_93 (rfl : classes[2]? = _) (by decide) k15 ⟨Nat.le_of_ble_eq_true rfl, Nat.le_of_ble_eq_true rfl⟩ rfl hl.1 rfl (Nat.le_of_ble_eq_true rfl) d_Server_workOutFlight_121 ⟨(Nat.le_of_ble_eq_true rfl), (Nat.le_of_ble_eq_true rfl)⟩) (fun M18 H locs hp hw => ?_)
  refine lv_aload_n (pc := 124) hx hb d_Server_workOutFlight_124 rfl (lv_at hl 0 rfl) ?_
  refine gf_Server_160 (pc := 125) hC hw k0 (Nat.ne_of_gt k15.1) d_Server_workOutFlight_125 ?_
  refine lv_aload_n (pc := 128) hx hb d_Server_workOutFlight_128 rfl (lv_at hl 0 rfl) ?_
  refine gf_Server_40 (pc := 129) hC hw k0 (Nat.ne_of_gt k6.1) d_Server_workOutFlight_129 ?_
  refine lv_aload_n (pc := 132) hx hb d_Server_workOutFlight_132 rfl (lv_at hl 0 rfl) ?_
  refine gf_Server_169 (pc := 133) hC hw k0 d_Server_workOutFlight_133 ?_
  refine call_vm (pc := 136) (fun _ h => h) hw (fm_runV (As := [.ref (b + (R h 18)), .int (M18 h 1)]) (rest := []) hC hw (c_Flight_add l D dA b n T R M18 sz (R h 3) (R h 18) (M18 h 1) _) cy_Flight_add hp rfl rfl mw_212 mw_92 mw_93 (rfl : classes[2]? = _) (by decide) k15 ⟨Nat.le_of_ble_eq_true rfl, Nat.le_of_ble_eq_true rfl⟩ rfl hl.1 rfl (Nat.le_of_ble_eq_true rfl) d_Server_workOutFlight_136 ⟨(Nat.le_of_ble_eq_true rfl), (Nat.le_of_ble_eq_true rfl)⟩) (fun M19 H locs hp hw => ?_)
  refine lv_aload_n (pc := 139) hx hb d_Server_workOutFlight_139 rfl (lv_at hl 0 rfl) ?_
  refine gf_Server_160 (pc := 140) hC hw k0 (Nat.ne_of_gt k15.1) d_Server_workOutFlight_140 ?_
  refine lv_aload_n (pc := 143) hx hb d_Server_workOutFlight_143 rfl (lv_at hl 0 rfl) ?_
  refine gf_Server_26 (pc := 144) hC hw k0 (Nat.ne_of_gt k11.1) d_Server_workOutFlight_144 ?_
  refine lv_aload_n (pc := 147) hx hb d_Server_workOutFlight_147 rfl (lv_at hl 0 rfl) ?_
  refine gf_Server_169 (pc := 148) hC hw k0 d_Server_workOutFlight_148 ?_
  refine call_vm (pc := 151) (fun _ h => h) hw (fm_runV (As := [.ref (b + (R h 19)), .int (M19 h 1)]) (rest := []) hC hw (c_Flight_add l D dA b n T R M19 sz (R h 3) (R h 19) (M19 h 1) _) cy_Flight_add hp rfl rfl mw_212 mw_92 mw_93 (rfl : classes[2]? = _) (by decide) k15 ⟨Nat.le_of_ble_eq_true rfl, Nat.le_of_ble_eq_true rfl⟩ rfl hl.1 rfl (Nat.le_of_ble_eq_true rfl) d_Server_workOutFlight_151 ⟨(Nat.le_of_ble_eq_true rfl), (Nat.le_of_ble_eq_true rfl)⟩) (fun M20 H locs hp hw => ?_)
  exact ret_vm hC hr hlk hw hp d_Server_workOutFlight_154
set_option maxHeartbeats 4000000 in
set_option maxRecDepth 100000 in
theorem c_Server_takeHelloAgain (l : Launch) (D : va_G) (dA : Nat → ClassId) (b n : Nat) (T : mT) (R : mR) (M : mM) (sz : Nat) (h : Nat) (x1 : Nat) (Q : mM → Prop) : Met l y_Server_takeHelloAgain (Cond.code y_Server_takeHelloAgain b_Server_takeHelloAgain 2 none :: tW) ({ frames := 4, cells := 0, slots := 0, locals := 82 }) (Pm D dA b n T R M sz [.ref (b + h), .ref (b + x1)] (w_Server_takeHelloAgain n T R M h x1 Q)) (Qvm D dA (An b n) b n T R sz Q) 0 0 (An b n) := by
  refine fm_body (An b n) (by decide) (Nat.le_of_ble_eq_true rfl) (fun k h0 h1 => ⟨by omega, by omega⟩) (fun p e s m below meth c ls hC hr hlk hnm hl hw hp => ?_)
  have hx := hC.1.1
  have hb := hC.1.2.1
  have hl : lv_has ls 2 [(0, .ref (b + h)), (1, .ref (b + x1))] := hl
  generalize hav : (List.toArray ([.ref (b + h), .ref (b + x1)] : List Value)) = av at hC ⊢
  unfold w_Server_takeHelloAgain at hp
  obtain ⟨k0, hp⟩ := hp
  refine lv_aload_n (pc := 0) hx hb d_Server_takeHelloAgain_0 rfl (lv_at hl 0 rfl) ?_
  refine gf_Server_57 (pc := 1) hC hw k0 d_Server_takeHelloAgain_1 ?_
  refine lv_if_eq (pc := 4) (tgt := 8) hx hb d_Server_takeHelloAgain_4 rfl (fun hc => ?_) (fun hc => ?_)
  · have hp := hp.1 hc
    refine lv_aload_n (pc := 8) hx hb d_Server_takeHelloAgain_8 rfl (lv_at hl 0 rfl) ?_
    refine lv_aload_n (pc := 9) hx hb d_Server_takeHelloAgain_9 rfl (lv_at hl 1 rfl) ?_
    refine call_vm (pc := 10) (fun _ h => h) hw (fm_runV (As := [.ref (b + x1)]) (rest := []) hC hw (c_Server_addFirstThreeToTranscript l D dA b n T R M sz h x1 _) cy_Server_addFirstThreeToTranscript hp rfl rfl mw_213 mw_214 mw_215 (rfl : classes[9]? = _) (by decide) k0 ⟨Nat.le_of_ble_eq_true rfl, Nat.le_of_ble_eq_true rfl⟩ rfl hl.1 rfl (Nat.le_of_ble_eq_true rfl) d_Server_takeHelloAgain_10 ⟨(Nat.le_of_ble_eq_true rfl), (Nat.le_of_ble_eq_true rfl)⟩) (fun M1 H locs hp hw => ?_)
    refine lv_aload_n (pc := 13) hx hb d_Server_takeHelloAgain_13 rfl (lv_at hl 0 rfl) ?_
    obtain ⟨k2, hp⟩ := hp
    refine gf_Server_127 (pc := 14) hC hw k0 (Nat.ne_of_gt k2.1) d_Server_takeHelloAgain_14 ?_
    refine lv_iconst (v := 0) (pc := 17) hx hb d_Server_takeHelloAgain_17 (by decide) ?_
    refine lv_aload_n (pc := 18) hx hb d_Server_takeHelloAgain_18 rfl (lv_at hl 1 rfl) ?_
    obtain ⟨k3, hp⟩ := hp
    refine gf_Server_105 (pc := 19) hC hw k3 d_Server_takeHelloAgain_19 ?_
    obtain ⟨k4, hp⟩ := hp
    refine fm_iast (pc := 22) hC hw k2 k4 (show Int32.toNatClampNeg (0 : Int32) = 0 by decide) d_Server_takeHelloAgain_22 (fun M5 H locs eM5 hw => ?_)
    have hp := hp M5 eM5
    refine lv_aload_n (pc := 23) hx hb d_Server_takeHelloAgain_23 rfl (lv_at hl 0 rfl) ?_
    refine lv_iconst (v := 2) (pc := 24) hx hb d_Server_takeHelloAgain_24 (by decide) ?_
    refine pf_Server_130 (pc := 25) hC hw k0 d_Server_takeHelloAgain_25 (fun M6 H locs eM6 hw => ?_)
    have hp := hp M6 eM6
    refine lv_aload_n (pc := 28) hx hb d_Server_takeHelloAgain_28 rfl (lv_at hl 0 rfl) ?_
    refine lv_iconst (v := 2) (pc := 29) hx hb d_Server_takeHelloAgain_29 (by decide) ?_
    refine pf_Server_133 (pc := 30) hC hw k0 d_Server_takeHelloAgain_30 (fun M7 H locs eM7 hw => ?_)
    have hp := hp M7 eM7
    refine lv_aload_n (pc := 33) hx hb d_Server_takeHelloAgain_33 rfl (lv_at hl 0 rfl) ?_
    refine lv_aload_n (pc := 34) hx hb d_Server_takeHelloAgain_34 rfl (lv_at hl 1 rfl) ?_
    refine call_ip (pc := 35) (fun _ h => h) hw (fm_runV (As := []) (rest := [.ref (b + h)]) hC hw (c_Rec_readFirstInt l D dA b n T R M7 sz x1 _) cy_Rec_readFirstInt hp rfl rfl mw_197 mw_131 mw_132 (rfl : classes[3]? = _) (by decide) k3 ⟨Nat.le_of_ble_eq_true rfl, Nat.le_of_ble_eq_true rfl⟩ rfl hl.1 rfl (Nat.le_of_ble_eq_true rfl) d_Server_takeHelloAgain_35 ⟨(Nat.le_of_ble_eq_true rfl), (Nat.le_of_ble_eq_true rfl)⟩) (fun r8 H locs hp hw => ?_)
    refine call_vm (pc := 38) (fun _ h => h) hw (fm_runV (As := [.int r8]) (rest := []) hC hw (c_Server_workOutFlight l D dA b n T R M7 sz h r8 _) cy_Server_workOutFlight hp rfl rfl mw_216 mw_217 mw_218 (rfl : classes[9]? = _) (by decide) k0 ⟨Nat.le_of_ble_eq_true rfl, Nat.le_of_ble_eq_true rfl⟩ rfl hl.1 rfl (Nat.le_of_ble_eq_true rfl) d_Server_takeHelloAgain_38 ⟨(Nat.le_of_ble_eq_true rfl), (Nat.le_of_ble_eq_true rfl)⟩) (fun M9 H locs hp hw => ?_)
    refine lv_aload_n (pc := 41) hx hb d_Server_takeHelloAgain_41 rfl (lv_at hl 0 rfl) ?_
    refine call_vm (pc := 42) (fun _ h => h) hw (fm_runU (x := (⟨"LossyHandshake$Server", "sendOpenFragments", "()V"⟩ : MethodName)) (As := []) (rest := []) hC hw (c_Side_sendOpenFragments l D dA b n T R M9 sz h _) cy_Side_sendOpenFragments hp rfl rfl rfl mw_219 mw_220 mw_96 mw_221 (rfl : classes[9]? = _) (by decide) k0 ⟨Nat.le_of_ble_eq_true rfl, Nat.le_of_ble_eq_true rfl⟩ rfl hl.1 rfl (Nat.le_of_ble_eq_true rfl) d_Server_takeHelloAgain_42 ⟨(Nat.le_of_ble_eq_true rfl), (Nat.le_of_ble_eq_true rfl)⟩) (fun M10 H locs hp hw => ?_)
    refine lv_aload_n (pc := 45) hx hb d_Server_takeHelloAgain_45 rfl (lv_at hl 0 rfl) ?_
    refine lv_iconst (v := 1) (pc := 46) hx hb d_Server_takeHelloAgain_46 (by decide) ?_
    refine call_vm (pc := 47) (fun _ h => h) hw (fm_runU (x := (⟨"LossyHandshake$Server", "enter", "(I)V"⟩ : MethodName)) (As := [.int (1 : Int32)]) (rest := []) hC hw (c_Side_enter l D dA b n T R M10 sz h (1 : Int32) _) cy_Side_enter hp rfl rfl rfl mw_222 mw_223 mw_106 mw_224 (rfl : classes[9]? = _) (by decide) k0 ⟨Nat.le_of_ble_eq_true rfl, Nat.le_of_ble_eq_true rfl⟩ rfl hl.1 rfl (Nat.le_of_ble_eq_true rfl) d_Server_takeHelloAgain_47 ⟨(Nat.le_of_ble_eq_true rfl), (Nat.le_of_ble_eq_true rfl)⟩) (fun M11 H locs hp hw => ?_)
    exact ret_vm hC hr hlk hw hp d_Server_takeHelloAgain_50
  · have hp := hp.2 hc
    exact ret_vm hC hr hlk hw hp d_Server_takeHelloAgain_7
set_option maxHeartbeats 4000000 in
set_option maxRecDepth 100000 in
theorem c_Side_sendAck (l : Launch) (D : va_G) (dA : Nat → ClassId) (b n : Nat) (T : mT) (R : mR) (M : mM) (sz : Nat) (h : Nat) (Q : mM → Prop) : Met l y_Side_sendAck (Cond.code y_Side_sendAck b_Side_sendAck 1 none :: tW) ({ frames := 2, cells := 0, slots := 0, locals := 49 }) (Pm D dA b n T R M sz [.ref (b + h)] (w_Side_sendAck n T R M h Q)) (Qvm D dA (An b n) b n T R sz Q) 0 0 (An b n) := by
  refine fm_body (An b n) (by decide) (Nat.le_of_ble_eq_true rfl) (fun k h0 h1 => ⟨by omega, by omega⟩) (fun p e s m below meth c ls hC hr hlk hnm hl hw hp => ?_)
  have hx := hC.1.1
  have hb := hC.1.2.1
  have hl : lv_has ls 1 [(0, .ref (b + h))] := hl
  generalize hav : (List.toArray ([.ref (b + h)] : List Value)) = av at hC ⊢
  unfold w_Side_sendAck at hp
  obtain ⟨k0, hp⟩ := hp
  refine lv_aload_n (pc := 0) hx hb d_Side_sendAck_0 rfl (lv_at hl 0 rfl) ?_
  obtain ⟨k1, hp⟩ := hp
  refine gf_Side_44 (pc := 1) hC hw k0 (Nat.ne_of_gt k1.1) d_Side_sendAck_1 ?_
  refine lv_aload_n (pc := 4) hx hb d_Side_sendAck_4 rfl (lv_at hl 0 rfl) ?_
  refine gf_Side_38 (pc := 5) hC hw k0 d_Side_sendAck_5 ?_
  refine lv_iconst (v := 1) (pc := 8) hx hb d_Side_sendAck_8 (by decide) ?_
  refine lv_aload_n (pc := 9) hx hb d_Side_sendAck_9 rfl (lv_at hl 0 rfl) ?_
  refine gf_Side_31 (pc := 10) hC hw k0 d_Side_sendAck_10 ?_
  refine lv_aload_n (pc := 13) hx hb d_Side_sendAck_13 rfl (lv_at hl 0 rfl) ?_
  refine lv_aload_n (pc := 14) hx hb d_Side_sendAck_14 rfl (lv_at hl 0 rfl) ?_
  refine gf_Side_31 (pc := 15) hC hw k0 d_Side_sendAck_15 ?_
  refine call_im (pc := 18) (fun _ h => h) hw (Or.elim k0 (fun kS => fm_runU (x := (⟨"LossyHandshake$Side", "takeNumber", "(I)I"⟩ : MethodName)) (As := [.int (M h 11)]) (rest := [.int (M h 11), .int (1 : Int32), .int (M h 0), .ref (b + (R h 2))]) hC hw (c_Side_takeNumber l D dA b n T R M sz h (M h 11) _) cy_Side_takeNumber hp rfl rfl rfl mw_67 mw_68 mw_69 mw_70 (rfl : classes[8]? = _) (by decide) kS ⟨Nat.le_of_ble_eq_true rfl, Nat.le_of_ble_eq_true rfl⟩ rfl hl.1 rfl (Nat.le_of_ble_eq_true rfl) d_Side_sendAck_18 ⟨(Nat.le_of_ble_eq_true rfl), (Nat.le_of_ble_eq_true rfl)⟩) (fun kS => fm_runU (x := (⟨"LossyHandshake$Side", "takeNumber", "(I)I"⟩ : MethodName)) (As := [.int (M h 11)]) (rest := [.int (M h 11), .int (1 : Int32), .int (M h 0), .ref (b + (R h 2))]) hC hw (c_Side_takeNumber l D dA b n T R M sz h (M h 11) _) cy_Side_takeNumber hp rfl rfl rfl mw_67 mw_68 mw_69 mw_71 (rfl : classes[9]? = _) (by decide) kS ⟨Nat.le_of_ble_eq_true rfl, Nat.le_of_ble_eq_true rfl⟩ rfl hl.1 rfl (Nat.le_of_ble_eq_true rfl) d_Side_sendAck_18 ⟨(Nat.le_of_ble_eq_true rfl), (Nat.le_of_ble_eq_true rfl)⟩)) (fun r2 M3 H locs hp hw => ?_)
  refine call_rm (pc := 21) (fun _ h => h) hw (fm_runV (As := [.int (M h 0), .int (1 : Int32), .int (M h 11), .int r2]) (rest := []) hC hw (c_Net_append l D dA b n T R M3 sz (R h 2) (M h 0) (1 : Int32) (M h 11) r2 _) cy_Net_append hp rfl rfl mw_75 mw_76 mw_77 (rfl : classes[4]? = _) (by decide) k1 ⟨Nat.le_of_ble_eq_true rfl, Nat.le_of_ble_eq_true rfl⟩ rfl hl.1 rfl (Nat.le_of_ble_eq_true rfl) d_Side_sendAck_21 ⟨(Nat.le_of_ble_eq_true rfl), (Nat.le_of_ble_eq_true rfl)⟩) (fun r4 M5 H locs hp z6 hw => ?_)
  refine lv_aload_n (pc := 24) hx hb d_Side_sendAck_24 rfl (lv_at hl 0 rfl) ?_
  obtain ⟨k7, hp⟩ := hp
  refine gf_Side_12 (pc := 25) hC hw k0 (Nat.ne_of_gt k7.1) d_Side_sendAck_25 ?_
  obtain ⟨k8, hp⟩ := hp
  refine gf_Side_111 (pc := 28) hC hw k7 (Nat.ne_of_gt k8.1) d_Side_sendAck_28 ?_
  refine lv_aload_n (pc := 31) hx hb d_Side_sendAck_31 rfl (lv_at hl 0 rfl) ?_
  refine gf_Side_12 (pc := 32) hC hw k0 (Nat.ne_of_gt k7.1) d_Side_sendAck_32 ?_
  refine gf_Side_114 (pc := 35) hC hw k7 d_Side_sendAck_35 ?_
  obtain ⟨k9, hp⟩ := hp
  refine call_vm (pc := 38) (fun _ h => h) hw (fm_runV (As := [.ref (b + (R (R h 4) 0)), .int (M5 (R h 4) 1)]) (rest := []) hC hw (c_Rec_hold l D dA b n T R M5 sz r4 (R (R h 4) 0) (M5 (R h 4) 1) _) cy_Rec_hold hp rfl rfl mw_81 mw_82 mw_83 (rfl : classes[3]? = _) (by decide) k9 ⟨Nat.le_of_ble_eq_true rfl, Nat.le_of_ble_eq_true rfl⟩ rfl hl.1 rfl (Nat.le_of_ble_eq_true rfl) d_Side_sendAck_38 ⟨(Nat.le_of_ble_eq_true rfl), (Nat.le_of_ble_eq_true rfl)⟩) (fun M10 H locs hp hw => ?_)
  exact ret_vm hC hr hlk hw hp d_Side_sendAck_41
set_option maxHeartbeats 4000000 in
set_option maxRecDepth 100000 in
theorem c_Server_takeClientDone (l : Launch) (D : va_G) (dA : Nat → ClassId) (b n : Nat) (T : mT) (R : mR) (M : mM) (sz : Nat) (h : Nat) (x1 : Nat) (Q : mM → Prop) : Met l y_Server_takeClientDone (Cond.code y_Server_takeClientDone b_Server_takeClientDone 2 none :: tW) ({ frames := 3, cells := 0, slots := 0, locals := 69 }) (Pm D dA b n T R M sz [.ref (b + h), .ref (b + x1)] (w_Server_takeClientDone n T R M h x1 Q)) (Qvm D dA (An b n) b n T R sz Q) 0 0 (An b n) := by
  refine fm_body (An b n) (by decide) (Nat.le_of_ble_eq_true rfl) (fun k h0 h1 => ⟨by omega, by omega⟩) (fun p e s m below meth c ls hC hr hlk hnm hl hw hp => ?_)
  have hx := hC.1.1
  have hb := hC.1.2.1
  have hl : lv_has ls 2 [(0, .ref (b + h)), (1, .ref (b + x1))] := hl
  generalize hav : (List.toArray ([.ref (b + h), .ref (b + x1)] : List Value)) = av at hC ⊢
  unfold w_Server_takeClientDone at hp
  obtain ⟨k0, hp⟩ := hp
  have B43 : ∀ (a0 : Nat) (a1 : Nat) (M : mM)  (ls : Array Slot) (H : Heap) (locs : List Loc), ok T n a0 9 → ok T n a1 3 → lv_has ls 2 [(0, .ref (b + a0)), (1, .ref (b + a1))] → St D dA (An b n) b n T R M sz s.heap H locs → w_Server_takeClientDone_B43 n T R Q a0 a1 M → W p l e ({ frames := 3, cells := 0, slots := 0, locals := 69 }) s m av below meth c H locs 0 0 (MQ below (Qvm D dA (An b n) b n T R sz Q) av s 0 0 (An b n)) (F0 m 43 ls []) := by
    intro a0 a1 M ls H locs f9 f10 hl hw hp
    unfold w_Server_takeClientDone_B43 at hp
    refine lv_aload_n (pc := 43) hx hb d_Server_takeClientDone_43 rfl (lv_at hl 0 rfl) ?_
    obtain ⟨k11, hp⟩ := hp
    refine gf_Server_182 (pc := 44) hC hw f9 (Nat.ne_of_gt k11.1) d_Server_takeClientDone_44 ?_
    refine lv_aload_n (pc := 47) hx hb d_Server_takeClientDone_47 rfl (lv_at hl 1 rfl) ?_
    refine call_ip (pc := 48) (fun _ h => h) hw (fm_runV (As := []) (rest := [.ref (b + (R a0 4))]) hC hw (c_Rec_name l D dA b n T R M sz a1 _) cy_Rec_name hp rfl rfl mw_226 mw_141 mw_142 (rfl : classes[3]? = _) (by decide) f10 ⟨Nat.le_of_ble_eq_true rfl, Nat.le_of_ble_eq_true rfl⟩ rfl hl.1 rfl (Nat.le_of_ble_eq_true rfl) d_Server_takeClientDone_48 ⟨(Nat.le_of_ble_eq_true rfl), (Nat.le_of_ble_eq_true rfl)⟩) (fun r12 H locs hp hw => ?_)
    refine call_vm (pc := 51) (fun _ h => h) hw (fm_runV (As := [.int r12]) (rest := []) hC hw (c_Noted_add l D dA b n T R M sz (R a0 4) r12 _) cy_Noted_add hp rfl rfl mw_227 mw_144 mw_145 (rfl : classes[6]? = _) (by decide) k11 ⟨Nat.le_of_ble_eq_true rfl, Nat.le_of_ble_eq_true rfl⟩ rfl hl.1 rfl (Nat.le_of_ble_eq_true rfl) d_Server_takeClientDone_51 ⟨(Nat.le_of_ble_eq_true rfl), (Nat.le_of_ble_eq_true rfl)⟩) (fun M13 H locs hp hw => ?_)
    refine lv_aload_n (pc := 54) hx hb d_Server_takeClientDone_54 rfl (lv_at hl 0 rfl) ?_
    refine call_vm (pc := 55) (fun _ h => h) hw (fm_runU (x := (⟨"LossyHandshake$Server", "sendAck", "()V"⟩ : MethodName)) (As := []) (rest := []) hC hw (c_Side_sendAck l D dA b n T R M13 sz a0 _) cy_Side_sendAck hp rfl rfl rfl mw_228 mw_229 mw_230 mw_231 (rfl : classes[9]? = _) (by decide) f9 ⟨Nat.le_of_ble_eq_true rfl, Nat.le_of_ble_eq_true rfl⟩ rfl hl.1 rfl (Nat.le_of_ble_eq_true rfl) d_Server_takeClientDone_55 ⟨(Nat.le_of_ble_eq_true rfl), (Nat.le_of_ble_eq_true rfl)⟩) (fun M14 H locs hp hw => ?_)
    exact ret_vm hC hr hlk hw hp d_Server_takeClientDone_58
  refine lv_aload_n (pc := 0) hx hb d_Server_takeClientDone_0 rfl (lv_at hl 0 rfl) ?_
  refine gf_Server_57 (pc := 1) hC hw k0 d_Server_takeClientDone_1 ?_
  refine lv_iconst (v := 1) (pc := 4) hx hb d_Server_takeClientDone_4 (by decide) ?_
  refine lv_icmp_ne (pc := 5) (tgt := 43) hx hb d_Server_takeClientDone_5 rfl (fun hc => ?_) (fun hc => ?_)
  · have hp := hp.2 hc
    obtain ⟨k15, hp⟩ := hp
    exact B43  h x1 M ls _ _ k0 k15 (lv_sub hl [0, 1] rfl) hw hp
  · have hp := hp.1 hc
    refine lv_aload_n (pc := 8) hx hb d_Server_takeClientDone_8 rfl (lv_at hl 0 rfl) ?_
    refine lv_aload_n (pc := 9) hx hb d_Server_takeClientDone_9 rfl (lv_at hl 1 rfl) ?_
    obtain ⟨k1, hp⟩ := hp
    obtain ⟨k2, hp⟩ := hp
    refine gf_Server_69 (pc := 10) hC hw k1 (Nat.ne_of_gt k2.1) d_Server_takeClientDone_10 ?_
    refine lv_iconst (v := 0) (pc := 13) hx hb d_Server_takeClientDone_13 (by decide) ?_
    refine lv_aload_n (pc := 14) hx hb d_Server_takeClientDone_14 rfl (lv_at hl 1 rfl) ?_
    refine gf_Server_176 (pc := 15) hC hw k1 d_Server_takeClientDone_15 ?_
    refine call_vm (pc := 18) (fun _ h => h) hw (fm_runU (x := (⟨"LossyHandshake$Server", "addBytesToTranscript", "([III)V"⟩ : MethodName)) (As := [.ref (b + (R x1 0)), .int (0 : Int32), .int (M x1 1)]) (rest := []) hC hw (c_Side_addBytesToTranscript l D dA b n T R M sz h (R x1 0) (0 : Int32) (M x1 1) _) cy_Side_addBytesToTranscript hp rfl rfl rfl mw_202 mw_203 mw_52 mw_204 (rfl : classes[9]? = _) (by decide) k0 ⟨Nat.le_of_ble_eq_true rfl, Nat.le_of_ble_eq_true rfl⟩ rfl hl.1 rfl (Nat.le_of_ble_eq_true rfl) d_Server_takeClientDone_18 ⟨(Nat.le_of_ble_eq_true rfl), (Nat.le_of_ble_eq_true rfl)⟩) (fun M3 H locs hp hw => ?_)
    refine lv_aload_n (pc := 21) hx hb d_Server_takeClientDone_21 rfl (lv_at hl 0 rfl) ?_
    obtain ⟨k4, hp⟩ := hp
    refine gf_Server_160 (pc := 22) hC hw k0 (Nat.ne_of_gt k4.1) d_Server_takeClientDone_22 ?_
    refine call_vm (pc := 25) (fun _ h => h) hw (fm_runV (As := []) (rest := []) hC hw (c_Flight_forget l D dA b n T R M3 sz (R h 3) _) cy_Flight_forget hp rfl rfl mw_225 mw_135 mw_136 (rfl : classes[2]? = _) (by decide) k4 ⟨Nat.le_of_ble_eq_true rfl, Nat.le_of_ble_eq_true rfl⟩ rfl hl.1 rfl (Nat.le_of_ble_eq_true rfl) d_Server_takeClientDone_25 ⟨(Nat.le_of_ble_eq_true rfl), (Nat.le_of_ble_eq_true rfl)⟩) (fun M5 H locs hp hw => ?_)
    refine lv_aload_n (pc := 28) hx hb d_Server_takeClientDone_28 rfl (lv_at hl 0 rfl) ?_
    refine lv_iconst (v := 3) (pc := 29) hx hb d_Server_takeClientDone_29 (by decide) ?_
    refine pf_Server_130 (pc := 30) hC hw k0 d_Server_takeClientDone_30 (fun M6 H locs eM6 hw => ?_)
    have hp := hp M6 eM6
    refine lv_aload_n (pc := 33) hx hb d_Server_takeClientDone_33 rfl (lv_at hl 0 rfl) ?_
    refine lv_iconst (v := 3) (pc := 34) hx hb d_Server_takeClientDone_34 (by decide) ?_
    refine pf_Server_133 (pc := 35) hC hw k0 d_Server_takeClientDone_35 (fun M7 H locs eM7 hw => ?_)
    have hp := hp M7 eM7
    refine lv_aload_n (pc := 38) hx hb d_Server_takeClientDone_38 rfl (lv_at hl 0 rfl) ?_
    refine lv_iconst (v := 2) (pc := 39) hx hb d_Server_takeClientDone_39 (by decide) ?_
    refine call_vm (pc := 40) (fun _ h => h) hw (fm_runU (x := (⟨"LossyHandshake$Server", "enter", "(I)V"⟩ : MethodName)) (As := [.int (2 : Int32)]) (rest := []) hC hw (c_Side_enter l D dA b n T R M7 sz h (2 : Int32) _) cy_Side_enter hp rfl rfl rfl mw_222 mw_223 mw_106 mw_224 (rfl : classes[9]? = _) (by decide) k0 ⟨Nat.le_of_ble_eq_true rfl, Nat.le_of_ble_eq_true rfl⟩ rfl hl.1 rfl (Nat.le_of_ble_eq_true rfl) d_Server_takeClientDone_40 ⟨(Nat.le_of_ble_eq_true rfl), (Nat.le_of_ble_eq_true rfl)⟩) (fun M8 H locs hp hw => ?_)
    exact B43  h x1 M8 ls _ _ k0 k1 (lv_sub hl [0, 1] rfl) hw hp
set_option maxHeartbeats 4000000 in
set_option maxRecDepth 100000 in
theorem c_Server_accept (l : Launch) (D : va_G) (dA : Nat → ClassId) (b n : Nat) (T : mT) (R : mR) (M : mM) (sz : Nat) (h : Nat) (x1 : Nat) (Q : Int32 → mM → Prop) : Met l y_Server_accept (Cond.code y_Server_accept b_Server_accept 2 (some .boolean) :: tW) ({ frames := 5, cells := 0, slots := 0, locals := 103 }) (Pm D dA b n T R M sz [.ref (b + h), .ref (b + x1)] (w_Server_accept n T R M h x1 Q)) (Qzm D dA (An b n) b n T R sz Q) 0 0 (An b n) := by
  refine fm_body (An b n) (by decide) (Nat.le_of_ble_eq_true rfl) (fun k h0 h1 => ⟨by omega, by omega⟩) (fun p e s m below meth c ls hC hr hlk hnm hl hw hp => ?_)
  have hx := hC.1.1
  have hb := hC.1.2.1
  have hl : lv_has ls 2 [(0, .ref (b + h)), (1, .ref (b + x1))] := hl
  generalize hav : (List.toArray ([.ref (b + h), .ref (b + x1)] : List Value)) = av at hC ⊢
  unfold w_Server_accept at hp
  obtain ⟨k0, hp⟩ := hp
  have B40 : ∀ (a0 : Nat) (a1 : Nat) (M : mM)  (ls : Array Slot) (H : Heap) (locs : List Loc), ok T n a0 9 → ok T n a1 3 → lv_has ls 2 [(0, .ref (b + a0)), (1, .ref (b + a1))] → St D dA (An b n) b n T R M sz s.heap H locs → w_Server_accept_B40 n T R Q a0 a1 M → W p l e ({ frames := 5, cells := 0, slots := 0, locals := 103 }) s m av below meth c H locs 0 0 (MQ below (Qzm D dA (An b n) b n T R sz Q) av s 0 0 (An b n)) (F0 m 40 ls []) := by
    intro a0 a1 M ls H locs f10 f11 hl hw hp
    unfold w_Server_accept_B40 at hp
    refine lv_aload_n (pc := 40) hx hb d_Server_accept_40 rfl (lv_at hl 0 rfl) ?_
    refine lv_aload_n (pc := 41) hx hb d_Server_accept_41 rfl (lv_at hl 1 rfl) ?_
    refine call_vm (pc := 42) (fun _ h => h) hw (fm_runU (x := (⟨"LossyHandshake$Server", "letIn", "(LLossyHandshake$NetRecord;)V"⟩ : MethodName)) (As := [.ref (b + a1)]) (rest := []) hC hw (c_Side_letIn l D dA b n T R M sz a0 a1 _) cy_Side_letIn hp rfl rfl rfl mw_238 mw_239 mw_159 mw_240 (rfl : classes[9]? = _) (by decide) f10 ⟨Nat.le_of_ble_eq_true rfl, Nat.le_of_ble_eq_true rfl⟩ rfl hl.1 rfl (Nat.le_of_ble_eq_true rfl) d_Server_accept_42 ⟨(Nat.le_of_ble_eq_true rfl), (Nat.le_of_ble_eq_true rfl)⟩) (fun M12 H locs hp hw => ?_)
    refine lv_aload_n (pc := 45) hx hb d_Server_accept_45 rfl (lv_at hl 1 rfl) ?_
    refine gf_Server_63 (pc := 46) hC hw f11 d_Server_accept_46 ?_
    refine lv_iconst (v := 1) (pc := 49) hx hb d_Server_accept_49 (by decide) ?_
    refine lv_icmp_ne (pc := 50) (tgt := 61) hx hb d_Server_accept_50 rfl (fun hc => ?_) (fun hc => ?_)
    · have hp := hp.2 hc
      refine lv_aload_n (pc := 61) hx hb d_Server_accept_61 rfl (lv_at hl 1 rfl) ?_
      refine gf_Server_63 (pc := 62) hC hw f11 d_Server_accept_62 ?_
      refine lv_iconst (v := 2) (pc := 65) hx hb d_Server_accept_65 (by decide) ?_
      refine lv_icmp_ne (pc := 66) (tgt := 82) hx hb d_Server_accept_66 rfl (fun hc => ?_) (fun hc => ?_)
      · have hp := hp.2 hc
        refine lv_aload_n (pc := 82) hx hb d_Server_accept_82 rfl (lv_at hl 1 rfl) ?_
        refine gf_Server_77 (pc := 83) hC hw f11 d_Server_accept_83 ?_
        refine lv_iconst (v := 1) (pc := 86) hx hb d_Server_accept_86 (by decide) ?_
        refine lv_icmp_ne (pc := 87) (tgt := 98) hx hb d_Server_accept_87 rfl (fun hc => ?_) (fun hc => ?_)
        · have hp := hp.2 hc
          refine lv_aload_n (pc := 98) hx hb d_Server_accept_98 rfl (lv_at hl 1 rfl) ?_
          refine gf_Server_77 (pc := 99) hC hw f11 d_Server_accept_99 ?_
          refine lv_iconst (v := 2) (pc := 102) hx hb d_Server_accept_102 (by decide) ?_
          refine lv_icmp_ne (pc := 103) (tgt := 111) hx hb d_Server_accept_103 rfl (fun hc => ?_) (fun hc => ?_)
          · have hp := hp.2 hc
            refine lv_iconst (v := 1) (pc := 111) hx hb d_Server_accept_111 (by decide) ?_
            exact ret_zm hC hr hlk hw (Or.inr rfl) hp d_Server_accept_112
          · have hp := hp.1 hc
            refine lv_aload_n (pc := 106) hx hb d_Server_accept_106 rfl (lv_at hl 0 rfl) ?_
            refine lv_aload_n (pc := 107) hx hb d_Server_accept_107 rfl (lv_at hl 1 rfl) ?_
            refine call_vm (pc := 108) (fun _ h => h) hw (fm_runV (As := [.ref (b + a1)]) (rest := []) hC hw (c_Server_takeClientDone l D dA b n T R M12 sz a0 a1 _) cy_Server_takeClientDone hp rfl rfl mw_250 mw_251 mw_252 (rfl : classes[9]? = _) (by decide) f10 ⟨Nat.le_of_ble_eq_true rfl, Nat.le_of_ble_eq_true rfl⟩ rfl hl.1 rfl (Nat.le_of_ble_eq_true rfl) d_Server_accept_108 ⟨(Nat.le_of_ble_eq_true rfl), (Nat.le_of_ble_eq_true rfl)⟩) (fun M18 H locs hp hw => ?_)
            refine lv_iconst (v := 1) (pc := 111) hx hb d_Server_accept_111 (by decide) ?_
            exact ret_zm hC hr hlk hw (Or.inr rfl) hp d_Server_accept_112
        · have hp := hp.1 hc
          refine lv_aload_n (pc := 90) hx hb d_Server_accept_90 rfl (lv_at hl 0 rfl) ?_
          refine lv_aload_n (pc := 91) hx hb d_Server_accept_91 rfl (lv_at hl 1 rfl) ?_
          refine call_vm (pc := 92) (fun _ h => h) hw (fm_runV (As := [.ref (b + a1)]) (rest := []) hC hw (c_Server_takeHelloAgain l D dA b n T R M12 sz a0 a1 _) cy_Server_takeHelloAgain hp rfl rfl mw_247 mw_248 mw_249 (rfl : classes[9]? = _) (by decide) f10 ⟨Nat.le_of_ble_eq_true rfl, Nat.le_of_ble_eq_true rfl⟩ rfl hl.1 rfl (Nat.le_of_ble_eq_true rfl) d_Server_accept_92 ⟨(Nat.le_of_ble_eq_true rfl), (Nat.le_of_ble_eq_true rfl)⟩) (fun M17 H locs hp hw => ?_)
          refine lv_goto (pc := 95) (tgt := 111) hx hb d_Server_accept_95 rfl ?_
          refine lv_iconst (v := 1) (pc := 111) hx hb d_Server_accept_111 (by decide) ?_
          exact ret_zm hC hr hlk hw (Or.inr rfl) hp d_Server_accept_112
      · have hp := hp.1 hc
        refine lv_aload_n (pc := 69) hx hb d_Server_accept_69 rfl (lv_at hl 0 rfl) ?_
        refine lv_aload_n (pc := 70) hx hb d_Server_accept_70 rfl (lv_at hl 1 rfl) ?_
        obtain ⟨k14, hp⟩ := hp
        refine gf_Server_69 (pc := 71) hC hw f11 (Nat.ne_of_gt k14.1) d_Server_accept_71 ?_
        refine lv_iconst (v := 0) (pc := 74) hx hb d_Server_accept_74 (by decide) ?_
        obtain ⟨k15, hp⟩ := hp
        refine fm_iald (pc := 75) hC hw k14 k15 (show Int32.toNatClampNeg (0 : Int32) = 0 by decide) d_Server_accept_75 ?_
        refine call_vm (pc := 76) (fun _ h => h) hw (fm_runU (x := (⟨"LossyHandshake$Server", "keepValue", "(I)V"⟩ : MethodName)) (As := [.int (M12 (R a1 0) 0)]) (rest := []) hC hw (c_Side_keepValue l D dA b n T R M12 sz a0 (M12 (R a1 0) 0) _) cy_Side_keepValue hp rfl rfl rfl mw_244 mw_245 mw_166 mw_246 (rfl : classes[9]? = _) (by decide) f10 ⟨Nat.le_of_ble_eq_true rfl, Nat.le_of_ble_eq_true rfl⟩ rfl hl.1 rfl (Nat.le_of_ble_eq_true rfl) d_Server_accept_76 ⟨(Nat.le_of_ble_eq_true rfl), (Nat.le_of_ble_eq_true rfl)⟩) (fun M16 H locs hp hw => ?_)
        refine lv_goto (pc := 79) (tgt := 111) hx hb d_Server_accept_79 rfl ?_
        refine lv_iconst (v := 1) (pc := 111) hx hb d_Server_accept_111 (by decide) ?_
        exact ret_zm hC hr hlk hw (Or.inr rfl) hp d_Server_accept_112
    · have hp := hp.1 hc
      refine lv_aload_n (pc := 53) hx hb d_Server_accept_53 rfl (lv_at hl 0 rfl) ?_
      refine lv_aload_n (pc := 54) hx hb d_Server_accept_54 rfl (lv_at hl 1 rfl) ?_
      refine call_vm (pc := 55) (fun _ h => h) hw (fm_runU (x := (⟨"LossyHandshake$Server", "closeNamed", "(LLossyHandshake$NetRecord;)V"⟩ : MethodName)) (As := [.ref (b + a1)]) (rest := []) hC hw (c_Side_closeNamed l D dA b n T R M12 sz a0 a1 _) cy_Side_closeNamed hp rfl rfl rfl mw_241 mw_242 mw_122 mw_243 (rfl : classes[9]? = _) (by decide) f10 ⟨Nat.le_of_ble_eq_true rfl, Nat.le_of_ble_eq_true rfl⟩ rfl hl.1 rfl (Nat.le_of_ble_eq_true rfl) d_Server_accept_55 ⟨(Nat.le_of_ble_eq_true rfl), (Nat.le_of_ble_eq_true rfl)⟩) (fun M13 H locs hp hw => ?_)
      refine lv_goto (pc := 58) (tgt := 111) hx hb d_Server_accept_58 rfl ?_
      refine lv_iconst (v := 1) (pc := 111) hx hb d_Server_accept_111 (by decide) ?_
      exact ret_zm hC hr hlk hw (Or.inr rfl) hp d_Server_accept_112
  have B23 : ∀ (a0 : Nat) (a1 : Nat) (M : mM)  (ls : Array Slot) (H : Heap) (locs : List Loc), ok T n a0 9 → ok T n a1 3 → lv_has ls 2 [(0, .ref (b + a0)), (1, .ref (b + a1))] → St D dA (An b n) b n T R M sz s.heap H locs → w_Server_accept_B23 n T R Q a0 a1 M → W p l e ({ frames := 5, cells := 0, slots := 0, locals := 103 }) s m av below meth c H locs 0 0 (MQ below (Qzm D dA (An b n) b n T R sz Q) av s 0 0 (An b n)) (F0 m 23 ls []) := by
    intro a0 a1 M ls H locs f6 f7 hl hw hp
    unfold w_Server_accept_B23 at hp
    refine lv_aload_n (pc := 23) hx hb d_Server_accept_23 rfl (lv_at hl 0 rfl) ?_
    refine gf_Server_57 (pc := 24) hC hw f6 d_Server_accept_24 ?_
    refine lv_if_ne (pc := 27) (tgt := 40) hx hb d_Server_accept_27 rfl (fun hc => ?_) (fun hc => ?_)
    · have hp := hp.2 hc
      exact B40  a0 a1 M ls _ _ f6 f7 (lv_sub hl [0, 1] rfl) hw hp
    · have hp := hp.1 hc
      refine lv_aload_n (pc := 30) hx hb d_Server_accept_30 rfl (lv_at hl 1 rfl) ?_
      refine lv_iconst (v := 1) (pc := 31) hx hb d_Server_accept_31 (by decide) ?_
      refine call_zp (pc := 32) (fun _ h => h) hw (fm_runV (As := [.int (1 : Int32)]) (rest := []) hC hw (c_Rec_isPieceOf l D dA b n T R M sz a1 (1 : Int32) _) cy_Rec_isPieceOf hp rfl rfl mw_235 mw_236 mw_237 (rfl : classes[3]? = _) (by decide) f7 ⟨Nat.le_of_ble_eq_true rfl, Nat.le_of_ble_eq_true rfl⟩ rfl hl.1 rfl (Nat.le_of_ble_eq_true rfl) d_Server_accept_32 ⟨(Nat.le_of_ble_eq_true rfl), (Nat.le_of_ble_eq_true rfl)⟩) (fun r8 H locs hp z9 hw => ?_)
      refine lv_if_ne (pc := 35) (tgt := 40) hx hb d_Server_accept_35 rfl (fun hc => ?_) (fun hc => ?_)
      · have hp := hp.2 hc
        exact B40  a0 a1 M ls _ _ f6 f7 (lv_sub hl [0, 1] rfl) hw hp
      · have hp := hp.1 hc
        refine lv_iconst (v := 0) (pc := 38) hx hb d_Server_accept_38 (by decide) ?_
        exact ret_zm hC hr hlk hw (Or.inl rfl) hp d_Server_accept_39
  refine lv_aload_n (pc := 0) hx hb d_Server_accept_0 rfl (lv_at hl 0 rfl) ?_
  refine lv_aload_n (pc := 1) hx hb d_Server_accept_1 rfl (lv_at hl 1 rfl) ?_
  refine call_zp (pc := 2) (fun _ h => h) hw (fm_runU (x := (⟨"LossyHandshake$Server", "throwsAway", "(LLossyHandshake$NetRecord;)Z"⟩ : MethodName)) (As := [.ref (b + x1)]) (rest := []) hC hw (c_Side_throwsAway l D dA b n T R M sz h x1 _) cy_Side_throwsAway hp rfl rfl rfl mw_232 mw_233 mw_155 mw_234 (rfl : classes[9]? = _) (by decide) k0 ⟨Nat.le_of_ble_eq_true rfl, Nat.le_of_ble_eq_true rfl⟩ rfl hl.1 rfl (Nat.le_of_ble_eq_true rfl) d_Server_accept_2 ⟨(Nat.le_of_ble_eq_true rfl), (Nat.le_of_ble_eq_true rfl)⟩) (fun r1 H locs hp z2 hw => ?_)
  refine lv_if_eq (pc := 5) (tgt := 10) hx hb d_Server_accept_5 rfl (fun hc => ?_) (fun hc => ?_)
  · have hp := hp.1 hc
    refine lv_aload_n (pc := 10) hx hb d_Server_accept_10 rfl (lv_at hl 1 rfl) ?_
    refine lv_iconst (v := 0) (pc := 11) hx hb d_Server_accept_11 (by decide) ?_
    obtain ⟨k3, hp⟩ := hp
    refine call_zp (pc := 12) (fun _ h => h) hw (fm_runV (As := [.int (0 : Int32)]) (rest := []) hC hw (c_Rec_isPieceOf l D dA b n T R M sz x1 (0 : Int32) _) cy_Rec_isPieceOf hp rfl rfl mw_235 mw_236 mw_237 (rfl : classes[3]? = _) (by decide) k3 ⟨Nat.le_of_ble_eq_true rfl, Nat.le_of_ble_eq_true rfl⟩ rfl hl.1 rfl (Nat.le_of_ble_eq_true rfl) d_Server_accept_12 ⟨(Nat.le_of_ble_eq_true rfl), (Nat.le_of_ble_eq_true rfl)⟩) (fun r4 H locs hp z5 hw => ?_)
    refine lv_if_eq (pc := 15) (tgt := 23) hx hb d_Server_accept_15 rfl (fun hc => ?_) (fun hc => ?_)
    · have hp := hp.1 hc
      exact B23  h x1 M ls _ _ k0 k3 (lv_sub hl [0, 1] rfl) hw hp
    · have hp := hp.2 hc
      refine lv_aload_n (pc := 18) hx hb d_Server_accept_18 rfl (lv_at hl 0 rfl) ?_
      refine lv_aload_n (pc := 19) hx hb d_Server_accept_19 rfl (lv_at hl 1 rfl) ?_
      refine call_vm (pc := 20) (fun _ h => h) hw (fm_runV (As := [.ref (b + x1)]) (rest := []) hC hw (c_Server_sendRetry l D dA b n T R M sz h x1 _) cy_Server_sendRetry hp rfl rfl mw_253 mw_254 mw_255 (rfl : classes[9]? = _) (by decide) k0 ⟨Nat.le_of_ble_eq_true rfl, Nat.le_of_ble_eq_true rfl⟩ rfl hl.1 rfl (Nat.le_of_ble_eq_true rfl) d_Server_accept_20 ⟨(Nat.le_of_ble_eq_true rfl), (Nat.le_of_ble_eq_true rfl)⟩) (fun M19 H locs hp hw => ?_)
      exact B23  h x1 M19 ls _ _ k0 k3 (lv_sub hl [0, 1] rfl) hw hp
  · have hp := hp.2 hc
    refine lv_iconst (v := 0) (pc := 8) hx hb d_Server_accept_8 (by decide) ?_
    exact ret_zm hC hr hlk hw (Or.inl rfl) hp d_Server_accept_9
set_option maxHeartbeats 4000000 in
set_option maxRecDepth 100000 in
theorem c_Side_sendData (l : Launch) (D : va_G) (dA : Nat → ClassId) (b n : Nat) (T : mT) (R : mR) (M : mM) (sz : Nat) (h : Nat) (x1 : Int32) (Q : Int32 → mM → Prop) : Met l y_Side_sendData (Cond.code y_Side_sendData b_Side_sendData 2 (some .boolean) :: tW) ({ frames := 2, cells := 0, slots := 0, locals := 49 }) (Pm D dA b n T R M sz [.ref (b + h), .int x1] (w_Side_sendData n T R M h x1 Q)) (Qzm D dA (An b n) b n T R sz Q) 0 0 (An b n) := by
  refine fm_body (An b n) (by decide) (Nat.le_of_ble_eq_true rfl) (fun k h0 h1 => ⟨by omega, by omega⟩) (fun p e s m below meth c ls hC hr hlk hnm hl hw hp => ?_)
  have hx := hC.1.1
  have hb := hC.1.2.1
  have hl : lv_has ls 2 [(0, .ref (b + h)), (1, .int x1)] := hl
  generalize hav : (List.toArray ([.ref (b + h), .int x1] : List Value)) = av at hC ⊢
  unfold w_Side_sendData at hp
  obtain ⟨k0, hp⟩ := hp
  refine lv_aload_n (pc := 0) hx hb d_Side_sendData_0 rfl (lv_at hl 0 rfl) ?_
  refine gf_Side_31 (pc := 1) hC hw k0 d_Side_sendData_1 ?_
  refine lv_iconst (v := 3) (pc := 4) hx hb d_Side_sendData_4 (by decide) ?_
  refine lv_icmp_lt (pc := 5) (tgt := 16) hx hb d_Side_sendData_5 rfl (fun hc => ?_) (fun hc => ?_)
  · have hp := hp.1 hc
    refine lv_iconst (v := 0) (pc := 16) hx hb d_Side_sendData_16 (by decide) ?_
    exact ret_zm hC hr hlk hw (Or.inl rfl) hp d_Side_sendData_17
  · have hp := hp.2 hc
    refine lv_aload_n (pc := 8) hx hb d_Side_sendData_8 rfl (lv_at hl 0 rfl) ?_
    refine gf_Side_58 (pc := 9) hC hw k0 d_Side_sendData_9 ?_
    refine lv_iconst (v := 5) (pc := 12) hx hb d_Side_sendData_12 (by decide) ?_
    refine lv_icmp_ne (pc := 13) (tgt := 18) hx hb d_Side_sendData_13 rfl (fun hc => ?_) (fun hc => ?_)
    · have hp := hp.2 hc
      refine lv_aload_n (pc := 18) hx hb d_Side_sendData_18 rfl (lv_at hl 0 rfl) ?_
      obtain ⟨k1, hp⟩ := hp
      refine gf_Side_44 (pc := 19) hC hw k0 (Nat.ne_of_gt k1.1) d_Side_sendData_19 ?_
      refine lv_aload_n (pc := 22) hx hb d_Side_sendData_22 rfl (lv_at hl 0 rfl) ?_
      refine gf_Side_38 (pc := 23) hC hw k0 d_Side_sendData_23 ?_
      refine lv_iconst (v := 2) (pc := 26) hx hb d_Side_sendData_26 (by decide) ?_
      refine lv_iconst (v := 3) (pc := 27) hx hb d_Side_sendData_27 (by decide) ?_
      refine lv_aload_n (pc := 28) hx hb d_Side_sendData_28 rfl (lv_at hl 0 rfl) ?_
      refine lv_iconst (v := 3) (pc := 29) hx hb d_Side_sendData_29 (by decide) ?_
      refine call_im (pc := 30) (fun _ h => h) hw (Or.elim k0 (fun kS => fm_runU (x := (⟨"LossyHandshake$Side", "takeNumber", "(I)I"⟩ : MethodName)) (As := [.int (3 : Int32)]) (rest := [.int (3 : Int32), .int (2 : Int32), .int (M h 0), .ref (b + (R h 2))]) hC hw (c_Side_takeNumber l D dA b n T R M sz h (3 : Int32) _) cy_Side_takeNumber hp rfl rfl rfl mw_67 mw_68 mw_69 mw_70 (rfl : classes[8]? = _) (by decide) kS ⟨Nat.le_of_ble_eq_true rfl, Nat.le_of_ble_eq_true rfl⟩ rfl hl.1 rfl (Nat.le_of_ble_eq_true rfl) d_Side_sendData_30 ⟨(Nat.le_of_ble_eq_true rfl), (Nat.le_of_ble_eq_true rfl)⟩) (fun kS => fm_runU (x := (⟨"LossyHandshake$Side", "takeNumber", "(I)I"⟩ : MethodName)) (As := [.int (3 : Int32)]) (rest := [.int (3 : Int32), .int (2 : Int32), .int (M h 0), .ref (b + (R h 2))]) hC hw (c_Side_takeNumber l D dA b n T R M sz h (3 : Int32) _) cy_Side_takeNumber hp rfl rfl rfl mw_67 mw_68 mw_69 mw_71 (rfl : classes[9]? = _) (by decide) kS ⟨Nat.le_of_ble_eq_true rfl, Nat.le_of_ble_eq_true rfl⟩ rfl hl.1 rfl (Nat.le_of_ble_eq_true rfl) d_Side_sendData_30 ⟨(Nat.le_of_ble_eq_true rfl), (Nat.le_of_ble_eq_true rfl)⟩)) (fun r2 M3 H locs hp hw => ?_)
      refine call_rm (pc := 33) (fun _ h => h) hw (fm_runV (As := [.int (M h 0), .int (2 : Int32), .int (3 : Int32), .int r2]) (rest := []) hC hw (c_Net_append l D dA b n T R M3 sz (R h 2) (M h 0) (2 : Int32) (3 : Int32) r2 _) cy_Net_append hp rfl rfl mw_75 mw_76 mw_77 (rfl : classes[4]? = _) (by decide) k1 ⟨Nat.le_of_ble_eq_true rfl, Nat.le_of_ble_eq_true rfl⟩ rfl hl.1 rfl (Nat.le_of_ble_eq_true rfl) d_Side_sendData_33 ⟨(Nat.le_of_ble_eq_true rfl), (Nat.le_of_ble_eq_true rfl)⟩) (fun r4 M5 H locs hp z6 hw => ?_)
      refine lv_iload_n (pc := 36) hx hb d_Side_sendData_36 rfl (lv_at hl 1 rfl) ?_
      obtain ⟨k7, hp⟩ := hp
      refine call_vm (pc := 37) (fun _ h => h) hw (fm_runV (As := [.int x1]) (rest := []) hC hw (c_Rec_holdValue l D dA b n T R M5 sz r4 x1 _) cy_Rec_holdValue hp rfl rfl mw_256 mw_257 mw_258 (rfl : classes[3]? = _) (by decide) k7 ⟨Nat.le_of_ble_eq_true rfl, Nat.le_of_ble_eq_true rfl⟩ rfl hl.1 rfl (Nat.le_of_ble_eq_true rfl) d_Side_sendData_37 ⟨(Nat.le_of_ble_eq_true rfl), (Nat.le_of_ble_eq_true rfl)⟩) (fun M8 H locs hp hw => ?_)
      refine lv_iconst (v := 1) (pc := 40) hx hb d_Side_sendData_40 (by decide) ?_
      exact ret_zm hC hr hlk hw (Or.inr rfl) hp d_Side_sendData_41
    · have hp := hp.1 hc
      refine lv_iconst (v := 0) (pc := 16) hx hb d_Side_sendData_16 (by decide) ?_
      exact ret_zm hC hr hlk hw (Or.inl rfl) hp d_Side_sendData_17
set_option maxHeartbeats 4000000 in
set_option maxRecDepth 100000 in
theorem c_Side_valueAt (l : Launch) (D : va_G) (dA : Nat → ClassId) (b n : Nat) (T : mT) (R : mR) (M : mM) (sz : Nat) (h : Nat) (x1 : Int32) (Q : Int32 → Prop) : Met l y_Side_valueAt (Cond.code y_Side_valueAt b_Side_valueAt 2 (some .int) :: tW) ({ frames := 0, cells := 0, slots := 0, locals := 0 }) (Pm D dA b n T R M sz [.ref (b + h), .int x1] (w_Side_valueAt n T R M h x1 Q)) (Qip D dA (An b n) b n T R M sz Q) 0 0 (An b n) := by
  refine fm_body (An b n) (by decide) (Nat.le_of_ble_eq_true rfl) (fun k h0 h1 => ⟨by omega, by omega⟩) (fun p e s m below meth c ls hC hr hlk hnm hl hw hp => ?_)
  have hx := hC.1.1
  have hb := hC.1.2.1
  have hl : lv_has ls 2 [(0, .ref (b + h)), (1, .int x1)] := hl
  generalize hav : (List.toArray ([.ref (b + h), .int x1] : List Value)) = av at hC ⊢
  unfold w_Side_valueAt at hp
  obtain ⟨k0, hp⟩ := hp
  refine lv_iload_n (pc := 0) hx hb d_Side_valueAt_0 rfl (lv_at hl 1 rfl) ?_
  refine lv_if_lt (pc := 1) (tgt := 21) hx hb d_Side_valueAt_1 rfl (fun hc => ?_) (fun hc => ?_)
  · have hp := hp.1 hc
    refine lv_iconst (v := 0) (pc := 21) hx hb d_Side_valueAt_21 (by decide) ?_
    exact ret_ip hC hr hlk hw hp d_Side_valueAt_22
  · have hp := hp.2 hc
    refine lv_iload_n (pc := 4) hx hb d_Side_valueAt_4 rfl (lv_at hl 1 rfl) ?_
    refine lv_aload_n (pc := 5) hx hb d_Side_valueAt_5 rfl (lv_at hl 0 rfl) ?_
    refine gf_Side_108 (pc := 6) hC hw k0 d_Side_valueAt_6 ?_
    refine lv_icmp_ge (pc := 9) (tgt := 21) hx hb d_Side_valueAt_9 rfl (fun hc => ?_) (fun hc => ?_)
    · have hp := hp.1 hc
      refine lv_iconst (v := 0) (pc := 21) hx hb d_Side_valueAt_21 (by decide) ?_
      exact ret_ip hC hr hlk hw hp d_Side_valueAt_22
    · have hp := hp.2 hc
      refine lv_aload_n (pc := 12) hx hb d_Side_valueAt_12 rfl (lv_at hl 0 rfl) ?_
      obtain ⟨k1, hp⟩ := hp
      refine gf_Side_28 (pc := 13) hC hw k0 (Nat.ne_of_gt k1.1) d_Side_valueAt_13 ?_
      refine lv_iload_n (pc := 16) hx hb d_Side_valueAt_16 rfl (lv_at hl 1 rfl) ?_
      obtain ⟨k2, hp⟩ := hp
      refine fm_iald (pc := 17) hC hw k1 k2 rfl d_Side_valueAt_17 ?_
      refine lv_goto (pc := 18) (tgt := 22) hx hb d_Side_valueAt_18 rfl ?_
      exact ret_ip hC hr hlk hw hp d_Side_valueAt_22
set_option maxHeartbeats 4000000 in
set_option maxRecDepth 100000 in
theorem c_Side_sendAgainOrFail (l : Launch) (D : va_G) (dA : Nat → ClassId) (b n : Nat) (T : mT) (R : mR) (M : mM) (sz : Nat) (h : Nat) (Q : mM → Prop) : Met l y_Side_sendAgainOrFail (Cond.code y_Side_sendAgainOrFail b_Side_sendAgainOrFail 1 none :: tW) ({ frames := 3, cells := 0, slots := 0, locals := 73 }) (Pm D dA b n T R M sz [.ref (b + h)] (w_Side_sendAgainOrFail n T R M h Q)) (Qvm D dA (An b n) b n T R sz Q) 0 0 (An b n) := by
  refine fm_body (An b n) (by decide) (Nat.le_of_ble_eq_true rfl) (fun k h0 h1 => ⟨by omega, by omega⟩) (fun p e s m below meth c ls hC hr hlk hnm hl hw hp => ?_)
  have hx := hC.1.1
  have hb := hC.1.2.1
  have hl : lv_has ls 1 [(0, .ref (b + h))] := hl
  generalize hav : (List.toArray ([.ref (b + h)] : List Value)) = av at hC ⊢
  unfold w_Side_sendAgainOrFail at hp
  obtain ⟨k0, hp⟩ := hp
  refine lv_aload_n (pc := 0) hx hb d_Side_sendAgainOrFail_0 rfl (lv_at hl 0 rfl) ?_
  obtain ⟨k1, hp⟩ := hp
  refine gf_Side_53 (pc := 1) hC hw k0 (Nat.ne_of_gt k1.1) d_Side_sendAgainOrFail_1 ?_
  refine gf_Side_166 (pc := 4) hC hw k1 d_Side_sendAgainOrFail_4 ?_
  refine lv_bipush (v := 6) (pc := 7) hx hb d_Side_sendAgainOrFail_7 (by decide) ?_
  refine lv_icmp_lt (pc := 9) (tgt := 27) hx hb d_Side_sendAgainOrFail_9 rfl (fun hc => ?_) (fun hc => ?_)
  · have hp := hp.1 hc
    refine lv_aload_n (pc := 27) hx hb d_Side_sendAgainOrFail_27 rfl (lv_at hl 0 rfl) ?_
    refine call_vm (pc := 28) (fun _ h => h) hw (Or.elim k0 (fun kS => fm_runU (x := (⟨"LossyHandshake$Side", "sendOpenFragments", "()V"⟩ : MethodName)) (As := []) (rest := []) hC hw (c_Side_sendOpenFragments l D dA b n T R M sz h _) cy_Side_sendOpenFragments hp rfl rfl rfl mw_259 mw_260 mw_96 mw_261 (rfl : classes[8]? = _) (by decide) kS ⟨Nat.le_of_ble_eq_true rfl, Nat.le_of_ble_eq_true rfl⟩ rfl hl.1 rfl (Nat.le_of_ble_eq_true rfl) d_Side_sendAgainOrFail_28 ⟨(Nat.le_of_ble_eq_true rfl), (Nat.le_of_ble_eq_true rfl)⟩) (fun kS => fm_runU (x := (⟨"LossyHandshake$Side", "sendOpenFragments", "()V"⟩ : MethodName)) (As := []) (rest := []) hC hw (c_Side_sendOpenFragments l D dA b n T R M sz h _) cy_Side_sendOpenFragments hp rfl rfl rfl mw_259 mw_260 mw_96 mw_262 (rfl : classes[9]? = _) (by decide) kS ⟨Nat.le_of_ble_eq_true rfl, Nat.le_of_ble_eq_true rfl⟩ rfl hl.1 rfl (Nat.le_of_ble_eq_true rfl) d_Side_sendAgainOrFail_28 ⟨(Nat.le_of_ble_eq_true rfl), (Nat.le_of_ble_eq_true rfl)⟩)) (fun M2 H locs hp hw => ?_)
    refine lv_aload_n (pc := 31) hx hb d_Side_sendAgainOrFail_31 rfl (lv_at hl 0 rfl) ?_
    refine gf_Side_53 (pc := 32) hC hw k0 (Nat.ne_of_gt k1.1) d_Side_sendAgainOrFail_32 ?_
    refine call_vm (pc := 35) (fun _ h => h) hw (fm_runV (As := []) (rest := []) hC hw (c_Flight_waitTwiceAsLong l D dA b n T R M2 sz (R h 3) _) cy_Flight_waitTwiceAsLong hp rfl rfl mw_263 mw_264 mw_265 (rfl : classes[2]? = _) (by decide) k1 ⟨Nat.le_of_ble_eq_true rfl, Nat.le_of_ble_eq_true rfl⟩ rfl hl.1 rfl (Nat.le_of_ble_eq_true rfl) d_Side_sendAgainOrFail_35 ⟨(Nat.le_of_ble_eq_true rfl), (Nat.le_of_ble_eq_true rfl)⟩) (fun M3 H locs hp hw => ?_)
    exact ret_vm hC hr hlk hw hp d_Side_sendAgainOrFail_38
  · have hp := hp.2 hc
    refine lv_aload_n (pc := 12) hx hb d_Side_sendAgainOrFail_12 rfl (lv_at hl 0 rfl) ?_
    refine gf_Side_53 (pc := 13) hC hw k0 (Nat.ne_of_gt k1.1) d_Side_sendAgainOrFail_13 ?_
    refine call_vm (pc := 16) (fun _ h => h) hw (fm_runV (As := []) (rest := []) hC hw (c_Flight_forget l D dA b n T R M sz (R h 3) _) cy_Flight_forget hp rfl rfl mw_266 mw_135 mw_136 (rfl : classes[2]? = _) (by decide) k1 ⟨Nat.le_of_ble_eq_true rfl, Nat.le_of_ble_eq_true rfl⟩ rfl hl.1 rfl (Nat.le_of_ble_eq_true rfl) d_Side_sendAgainOrFail_16 ⟨(Nat.le_of_ble_eq_true rfl), (Nat.le_of_ble_eq_true rfl)⟩) (fun M4 H locs hp hw => ?_)
    refine lv_aload_n (pc := 19) hx hb d_Side_sendAgainOrFail_19 rfl (lv_at hl 0 rfl) ?_
    refine lv_iconst (v := 5) (pc := 20) hx hb d_Side_sendAgainOrFail_20 (by decide) ?_
    refine call_vm (pc := 21) (fun _ h => h) hw (Or.elim k0 (fun kS => fm_runU (x := (⟨"LossyHandshake$Side", "enter", "(I)V"⟩ : MethodName)) (As := [.int (5 : Int32)]) (rest := []) hC hw (c_Side_enter l D dA b n T R M4 sz h (5 : Int32) _) cy_Side_enter hp rfl rfl rfl mw_267 mw_268 mw_106 mw_269 (rfl : classes[8]? = _) (by decide) kS ⟨Nat.le_of_ble_eq_true rfl, Nat.le_of_ble_eq_true rfl⟩ rfl hl.1 rfl (Nat.le_of_ble_eq_true rfl) d_Side_sendAgainOrFail_21 ⟨(Nat.le_of_ble_eq_true rfl), (Nat.le_of_ble_eq_true rfl)⟩) (fun kS => fm_runU (x := (⟨"LossyHandshake$Side", "enter", "(I)V"⟩ : MethodName)) (As := [.int (5 : Int32)]) (rest := []) hC hw (c_Side_enter l D dA b n T R M4 sz h (5 : Int32) _) cy_Side_enter hp rfl rfl rfl mw_267 mw_268 mw_106 mw_270 (rfl : classes[9]? = _) (by decide) kS ⟨Nat.le_of_ble_eq_true rfl, Nat.le_of_ble_eq_true rfl⟩ rfl hl.1 rfl (Nat.le_of_ble_eq_true rfl) d_Side_sendAgainOrFail_21 ⟨(Nat.le_of_ble_eq_true rfl), (Nat.le_of_ble_eq_true rfl)⟩)) (fun M5 H locs hp hw => ?_)
    refine lv_goto (pc := 24) (tgt := 38) hx hb d_Side_sendAgainOrFail_24 rfl ?_
    exact ret_vm hC hr hlk hw hp d_Side_sendAgainOrFail_38
set_option maxHeartbeats 4000000 in
set_option maxRecDepth 100000 in
theorem c_Side_passTick (l : Launch) (D : va_G) (dA : Nat → ClassId) (b n : Nat) (T : mT) (R : mR) (M : mM) (sz : Nat) (h : Nat) (Q : mM → Prop) : Met l y_Side_passTick (Cond.code y_Side_passTick b_Side_passTick 1 none :: tW) ({ frames := 4, cells := 0, slots := 0, locals := 93 }) (Pm D dA b n T R M sz [.ref (b + h)] (w_Side_passTick n T R M h Q)) (Qvm D dA (An b n) b n T R sz Q) 0 0 (An b n) := by
  refine fm_body (An b n) (by decide) (Nat.le_of_ble_eq_true rfl) (fun k h0 h1 => ⟨by omega, by omega⟩) (fun p e s m below meth c ls hC hr hlk hnm hl hw hp => ?_)
  have hx := hC.1.1
  have hb := hC.1.2.1
  have hl : lv_has ls 1 [(0, .ref (b + h))] := hl
  generalize hav : (List.toArray ([.ref (b + h)] : List Value)) = av at hC ⊢
  unfold w_Side_passTick at hp
  obtain ⟨k0, hp⟩ := hp
  refine lv_aload_n (pc := 0) hx hb d_Side_passTick_0 rfl (lv_at hl 0 rfl) ?_
  refine gf_Side_61 (pc := 1) hC hw k0 d_Side_passTick_1 ?_
  refine lv_if_le (pc := 4) (tgt := 28) hx hb d_Side_passTick_4 rfl (fun hc => ?_) (fun hc => ?_)
  · have hp := hp.1 hc
    refine lv_aload_n (pc := 28) hx hb d_Side_passTick_28 rfl (lv_at hl 0 rfl) ?_
    obtain ⟨k1, hp⟩ := hp
    refine gf_Side_53 (pc := 29) hC hw k0 (Nat.ne_of_gt k1.1) d_Side_passTick_29 ?_
    refine call_zm (pc := 32) (fun _ h => h) hw (fm_runV (As := []) (rest := []) hC hw (c_Flight_hasWaited l D dA b n T R M sz (R h 3) _) cy_Flight_hasWaited hp rfl rfl mw_271 mw_272 mw_273 (rfl : classes[2]? = _) (by decide) k1 ⟨Nat.le_of_ble_eq_true rfl, Nat.le_of_ble_eq_true rfl⟩ rfl hl.1 rfl (Nat.le_of_ble_eq_true rfl) d_Side_passTick_32 ⟨(Nat.le_of_ble_eq_true rfl), (Nat.le_of_ble_eq_true rfl)⟩) (fun r2 M3 H locs hp z4 hw => ?_)
    refine lv_if_eq (pc := 35) (tgt := 42) hx hb d_Side_passTick_35 rfl (fun hc => ?_) (fun hc => ?_)
    · have hp := hp.1 hc
      exact ret_vm hC hr hlk hw hp d_Side_passTick_42
    · have hp := hp.2 hc
      refine lv_aload_n (pc := 38) hx hb d_Side_passTick_38 rfl (lv_at hl 0 rfl) ?_
      refine call_vm (pc := 39) (fun _ h => h) hw (Or.elim k0 (fun kS => fm_runU (x := (⟨"LossyHandshake$Side", "sendAgainOrFail", "()V"⟩ : MethodName)) (As := []) (rest := []) hC hw (c_Side_sendAgainOrFail l D dA b n T R M3 sz h _) cy_Side_sendAgainOrFail hp rfl rfl rfl mw_274 mw_275 mw_276 mw_277 (rfl : classes[8]? = _) (by decide) kS ⟨Nat.le_of_ble_eq_true rfl, Nat.le_of_ble_eq_true rfl⟩ rfl hl.1 rfl (Nat.le_of_ble_eq_true rfl) d_Side_passTick_39 ⟨(Nat.le_of_ble_eq_true rfl), (Nat.le_of_ble_eq_true rfl)⟩) (fun kS => fm_runU (x := (⟨"LossyHandshake$Side", "sendAgainOrFail", "()V"⟩ : MethodName)) (As := []) (rest := []) hC hw (c_Side_sendAgainOrFail l D dA b n T R M3 sz h _) cy_Side_sendAgainOrFail hp rfl rfl rfl mw_274 mw_275 mw_276 mw_278 (rfl : classes[9]? = _) (by decide) kS ⟨Nat.le_of_ble_eq_true rfl, Nat.le_of_ble_eq_true rfl⟩ rfl hl.1 rfl (Nat.le_of_ble_eq_true rfl) d_Side_passTick_39 ⟨(Nat.le_of_ble_eq_true rfl), (Nat.le_of_ble_eq_true rfl)⟩)) (fun M5 H locs hp hw => ?_)
      exact ret_vm hC hr hlk hw hp d_Side_passTick_42
  · have hp := hp.2 hc
    refine lv_aload_n (pc := 7) hx hb d_Side_passTick_7 rfl (lv_at hl 0 rfl) ?_
    refine lv_dup (pc := 8) hx hb d_Side_passTick_8 rfl ?_
    refine gf_Side_61 (pc := 9) hC hw k0 d_Side_passTick_9 ?_
    refine lv_iconst (v := 1) (pc := 12) hx hb d_Side_passTick_12 (by decide) ?_
    refine lv_isub (pc := 13) hx hb d_Side_passTick_13 ?_
    refine pf_Side_61 (pc := 14) hC hw k0 d_Side_passTick_14 (fun M6 H locs eM6 hw => ?_)
    have hp := hp M6 eM6
    refine lv_aload_n (pc := 17) hx hb d_Side_passTick_17 rfl (lv_at hl 0 rfl) ?_
    refine gf_Side_61 (pc := 18) hC hw k0 d_Side_passTick_18 ?_
    refine lv_if_ne (pc := 21) (tgt := 28) hx hb d_Side_passTick_21 rfl (fun hc => ?_) (fun hc => ?_)
    · have hp := hp.2 hc
      refine lv_aload_n (pc := 28) hx hb d_Side_passTick_28 rfl (lv_at hl 0 rfl) ?_
      obtain ⟨k13, hp⟩ := hp
      refine gf_Side_53 (pc := 29) hC hw k0 (Nat.ne_of_gt k13.1) d_Side_passTick_29 ?_
      refine call_zm (pc := 32) (fun _ h => h) hw (fm_runV (As := []) (rest := []) hC hw (c_Flight_hasWaited l D dA b n T R M6 sz (R h 3) _) cy_Flight_hasWaited hp rfl rfl mw_271 mw_272 mw_273 (rfl : classes[2]? = _) (by decide) k13 ⟨Nat.le_of_ble_eq_true rfl, Nat.le_of_ble_eq_true rfl⟩ rfl hl.1 rfl (Nat.le_of_ble_eq_true rfl) d_Side_passTick_32 ⟨(Nat.le_of_ble_eq_true rfl), (Nat.le_of_ble_eq_true rfl)⟩) (fun r14 M15 H locs hp z16 hw => ?_)
      refine lv_if_eq (pc := 35) (tgt := 42) hx hb d_Side_passTick_35 rfl (fun hc => ?_) (fun hc => ?_)
      · have hp := hp.1 hc
        exact ret_vm hC hr hlk hw hp d_Side_passTick_42
      · have hp := hp.2 hc
        refine lv_aload_n (pc := 38) hx hb d_Side_passTick_38 rfl (lv_at hl 0 rfl) ?_
        refine call_vm (pc := 39) (fun _ h => h) hw (Or.elim k0 (fun kS => fm_runU (x := (⟨"LossyHandshake$Side", "sendAgainOrFail", "()V"⟩ : MethodName)) (As := []) (rest := []) hC hw (c_Side_sendAgainOrFail l D dA b n T R M15 sz h _) cy_Side_sendAgainOrFail hp rfl rfl rfl mw_274 mw_275 mw_276 mw_277 (rfl : classes[8]? = _) (by decide) kS ⟨Nat.le_of_ble_eq_true rfl, Nat.le_of_ble_eq_true rfl⟩ rfl hl.1 rfl (Nat.le_of_ble_eq_true rfl) d_Side_passTick_39 ⟨(Nat.le_of_ble_eq_true rfl), (Nat.le_of_ble_eq_true rfl)⟩) (fun kS => fm_runU (x := (⟨"LossyHandshake$Side", "sendAgainOrFail", "()V"⟩ : MethodName)) (As := []) (rest := []) hC hw (c_Side_sendAgainOrFail l D dA b n T R M15 sz h _) cy_Side_sendAgainOrFail hp rfl rfl rfl mw_274 mw_275 mw_276 mw_278 (rfl : classes[9]? = _) (by decide) kS ⟨Nat.le_of_ble_eq_true rfl, Nat.le_of_ble_eq_true rfl⟩ rfl hl.1 rfl (Nat.le_of_ble_eq_true rfl) d_Side_passTick_39 ⟨(Nat.le_of_ble_eq_true rfl), (Nat.le_of_ble_eq_true rfl)⟩)) (fun M17 H locs hp hw => ?_)
        exact ret_vm hC hr hlk hw hp d_Side_passTick_42
    · have hp := hp.1 hc
      refine lv_aload_n (pc := 24) hx hb d_Side_passTick_24 rfl (lv_at hl 0 rfl) ?_
      refine call_vm (pc := 25) (fun _ h => h) hw (Or.elim k0 (fun kS => fm_runU (x := (⟨"LossyHandshake$Side", "sendAck", "()V"⟩ : MethodName)) (As := []) (rest := []) hC hw (c_Side_sendAck l D dA b n T R M6 sz h _) cy_Side_sendAck hp rfl rfl rfl mw_279 mw_280 mw_230 mw_281 (rfl : classes[8]? = _) (by decide) kS ⟨Nat.le_of_ble_eq_true rfl, Nat.le_of_ble_eq_true rfl⟩ rfl hl.1 rfl (Nat.le_of_ble_eq_true rfl) d_Side_passTick_25 ⟨(Nat.le_of_ble_eq_true rfl), (Nat.le_of_ble_eq_true rfl)⟩) (fun kS => fm_runU (x := (⟨"LossyHandshake$Side", "sendAck", "()V"⟩ : MethodName)) (As := []) (rest := []) hC hw (c_Side_sendAck l D dA b n T R M6 sz h _) cy_Side_sendAck hp rfl rfl rfl mw_279 mw_280 mw_230 mw_282 (rfl : classes[9]? = _) (by decide) kS ⟨Nat.le_of_ble_eq_true rfl, Nat.le_of_ble_eq_true rfl⟩ rfl hl.1 rfl (Nat.le_of_ble_eq_true rfl) d_Side_passTick_25 ⟨(Nat.le_of_ble_eq_true rfl), (Nat.le_of_ble_eq_true rfl)⟩)) (fun M7 H locs hp hw => ?_)
      refine lv_aload_n (pc := 28) hx hb d_Side_passTick_28 rfl (lv_at hl 0 rfl) ?_
      obtain ⟨k8, hp⟩ := hp
      refine gf_Side_53 (pc := 29) hC hw k0 (Nat.ne_of_gt k8.1) d_Side_passTick_29 ?_
      refine call_zm (pc := 32) (fun _ h => h) hw (fm_runV (As := []) (rest := []) hC hw (c_Flight_hasWaited l D dA b n T R M7 sz (R h 3) _) cy_Flight_hasWaited hp rfl rfl mw_271 mw_272 mw_273 (rfl : classes[2]? = _) (by decide) k8 ⟨Nat.le_of_ble_eq_true rfl, Nat.le_of_ble_eq_true rfl⟩ rfl hl.1 rfl (Nat.le_of_ble_eq_true rfl) d_Side_passTick_32 ⟨(Nat.le_of_ble_eq_true rfl), (Nat.le_of_ble_eq_true rfl)⟩) (fun r9 M10 H locs hp z11 hw => ?_)
      refine lv_if_eq (pc := 35) (tgt := 42) hx hb d_Side_passTick_35 rfl (fun hc => ?_) (fun hc => ?_)
      · have hp := hp.1 hc
        exact ret_vm hC hr hlk hw hp d_Side_passTick_42
      · have hp := hp.2 hc
        refine lv_aload_n (pc := 38) hx hb d_Side_passTick_38 rfl (lv_at hl 0 rfl) ?_
        refine call_vm (pc := 39) (fun _ h => h) hw (Or.elim k0 (fun kS => fm_runU (x := (⟨"LossyHandshake$Side", "sendAgainOrFail", "()V"⟩ : MethodName)) (As := []) (rest := []) hC hw (c_Side_sendAgainOrFail l D dA b n T R M10 sz h _) cy_Side_sendAgainOrFail hp rfl rfl rfl mw_274 mw_275 mw_276 mw_277 (rfl : classes[8]? = _) (by decide) kS ⟨Nat.le_of_ble_eq_true rfl, Nat.le_of_ble_eq_true rfl⟩ rfl hl.1 rfl (Nat.le_of_ble_eq_true rfl) d_Side_passTick_39 ⟨(Nat.le_of_ble_eq_true rfl), (Nat.le_of_ble_eq_true rfl)⟩) (fun kS => fm_runU (x := (⟨"LossyHandshake$Side", "sendAgainOrFail", "()V"⟩ : MethodName)) (As := []) (rest := []) hC hw (c_Side_sendAgainOrFail l D dA b n T R M10 sz h _) cy_Side_sendAgainOrFail hp rfl rfl rfl mw_274 mw_275 mw_276 mw_278 (rfl : classes[9]? = _) (by decide) kS ⟨Nat.le_of_ble_eq_true rfl, Nat.le_of_ble_eq_true rfl⟩ rfl hl.1 rfl (Nat.le_of_ble_eq_true rfl) d_Side_passTick_39 ⟨(Nat.le_of_ble_eq_true rfl), (Nat.le_of_ble_eq_true rfl)⟩)) (fun M12 H locs hp hw => ?_)
        exact ret_vm hC hr hlk hw hp d_Side_passTick_42
set_option maxHeartbeats 4000000 in
set_option maxRecDepth 100000 in
theorem c_X_init (l : Launch) (D : va_G) (dA : Nat → ClassId) (b n : Nat) (T : mT) (R : mR) (M : mM) (h : Nat) (x1 : Int32) (x2 : Int32) (Q : Nat → mT → mR → mM → Prop) : Met l y_X_init (Cond.code y_X_init b_X_init 4 none :: tW) ({ frames := 5, cells := 223, slots := 3662, locals := 102 }) (Pm D dA b n T R M (b + n + 1) [.ref (b + h), .int x1, .int x2] (w_X_init n T R M h x1 x2 Q)) (Qva D dA b  Q) 223 3662 (Ab b) := by
  refine fm_body (Ab b) (by decide) (Nat.le_of_ble_eq_true rfl) (fun k h0 _ => show b < b + k by omega) (fun p e s m below meth c ls hC hr hlk hnm hl hw hp => ?_)
  have hx := hC.1.1
  have hb := hC.1.2.1
  have hl : lv_has ls 4 [(0, .ref (b + h)), (1, .int x1), (2, .int x2)] := hl
  generalize hav : (List.toArray ([.ref (b + h), .int x1, .int x2] : List Value)) = av at hC ⊢
  unfold w_X_init at hp
  obtain ⟨k0, hp⟩ := hp
  refine lv_aload_n (pc := 0) hx hb d_X_init_0 rfl (lv_at hl 0 rfl) ?_
  refine W.objInit hx hb hC.1.2.2.2.1 (hC.1.2.2.2.2 _ mw_283) (hC.1.2.2.2.2 _ mw_1) (hC.1.2.2.2.2 _ mw_2) rfl (hl.1.trans hC.1.2.2.1.symm) rfl d_X_init_1 (Nat.le_of_ble_eq_true rfl) (Nat.le_of_ble_eq_true rfl) ?_
  refine W.eq (g2 := F0 m 4 ls []) rfl ?_
  refine lv_bipush (v := 8) (pc := 4) hx hb d_X_init_4 (by decide) ?_
  refine lv_bipush (v := 24) (pc := 6) hx hb d_X_init_6 (by decide) ?_
  refine lv_iload_n (pc := 8) hx hb d_X_init_8 rfl (lv_at hl 2 rfl) ?_
  refine va_mmin (pc := 9) hx hb (hC.1.2.2.1.trans hl.1.symm) hC.1.2.2.2.1 (hC.1.2.2.2.2 _ mw_284) (hC.1.2.2.2.2 _ mw_56) (hC.1.2.2.2.2 _ mw_57) (hC.1.2.2.2.2 _ mw_58) (Nat.le_of_ble_eq_true rfl) (Nat.le_of_ble_eq_true rfl) (Nat.le_of_ble_eq_true rfl) (Nat.le_of_ble_eq_true rfl) d_X_init_9 ?_
  refine va_mmax (pc := 12) hx hb (hC.1.2.2.1.trans hl.1.symm) hC.1.2.2.2.1 (hC.1.2.2.2.2 _ mw_285) (hC.1.2.2.2.2 _ mw_286) (hC.1.2.2.2.2 _ mw_57) (hC.1.2.2.2.2 _ mw_287) (Nat.le_of_ble_eq_true rfl) (Nat.le_of_ble_eq_true rfl) (Nat.le_of_ble_eq_true rfl) (Nat.le_of_ble_eq_true rfl) d_X_init_12 ?_
  refine lv_topi (fun v1 ev1 => ?_)
  have hp := hp v1 ev1
  refine lv_istore_n (pc := 15) hx hb d_X_init_15 rfl hl (by decide) rfl (fun ls hl => ?_)
  have hl : lv_has ls 4 [(3, .int v1), (0, .ref (b + h)), (1, .int x1), (2, .int x2)] := hl
  refine lv_aload_n (pc := 16) hx hb d_X_init_16 rfl (lv_at hl 1 rfl) ?_
  refine fm_new (pc := 17) hC hw hin_Net t_Net t_Net_ok mw_288 mw_289 mw_290 (rfl : classes[4]? = _) (by decide) (by decide) df_Net (Nat.le_of_ble_eq_true rfl) (Nat.le_of_ble_eq_true rfl) d_X_init_17 (fun T2 R3 M4 H eT2 eR3 eM4 hw => ?_)
  have hp := hp T2 R3 M4 eT2 eR3 eM4
  have k0 := (ok_push eT2 k0 : _)
  have k5 := ok_new eT2
  refine W.widen (k := 1) (n := 6) (Nat.le_of_ble_eq_true rfl) (Nat.le_of_ble_eq_true rfl) ?_
  refine lv_dup (pc := 20) hx hb d_X_init_20 rfl ?_
  refine call_va (pc := 21) (fun _ h => h) hw (fm_runI (As := []) (rest := [.ref (b + (n + 1)), .ref (b + h)]) hC hw (c_Net_init l D dA b (n + 1) T2 R3 M4 (n + 1) _) cy_Net_init hp rfl rfl mw_291 mw_292 rfl ⟨Nat.le_of_ble_eq_true rfl, Nat.le_of_ble_eq_true rfl⟩ rfl hl.1 rfl (Nat.le_of_ble_eq_true rfl) d_X_init_21 ⟨(Nat.le_of_ble_eq_true rfl), (Nat.le_of_ble_eq_true rfl)⟩) (fun n6 T7 R8 M9 H locs hp hw => ?_)
  refine W.widen (k := 126) (n := 2112) (Nat.le_of_ble_eq_true rfl) (Nat.le_of_ble_eq_true rfl) ?_
  obtain ⟨k10, hp⟩ := hp
  obtain ⟨k11, hp⟩ := hp
  refine pf_X_21 (pc := 24) hC hw k10 hnm (Nat.ne_of_gt k11.1) d_X_init_24 (fun R12 H locs eR12 hw => ?_)
  have hp := hp R12 eR12
  refine lv_aload_n (pc := 27) hx hb d_X_init_27 rfl (lv_at hl 1 rfl) ?_
  refine fm_new (pc := 28) hC hw hin_Client t_Client t_Client_ok mw_293 mw_294 mw_295 (rfl : classes[8]? = _) (by decide) (by decide) df_Client (Nat.le_of_ble_eq_true rfl) (Nat.le_of_ble_eq_true rfl) d_X_init_28 (fun T13 R14 M15 H eT13 eR14 eM15 hw => ?_)
  have hp := hp T13 R14 M15 eT13 eR14 eM15
  have k10 := (ok_push eT13 k10 : _)
  have k11 := (ok_push eT13 k11 : _)
  have k16 := ok_new eT13
  refine W.widen (k := 127) (n := 2131) (Nat.le_of_ble_eq_true rfl) (Nat.le_of_ble_eq_true rfl) ?_
  refine lv_dup (pc := 31) hx hb d_X_init_31 rfl ?_
  refine lv_iload_n (pc := 32) hx hb d_X_init_32 rfl (lv_at hl 2 rfl) ?_
  refine lv_iload_n (pc := 33) hx hb d_X_init_33 rfl (lv_at hl 0 rfl) ?_
  refine lv_aload_n (pc := 34) hx hb d_X_init_34 rfl (lv_at hl 1 rfl) ?_
  obtain ⟨k17, hp⟩ := hp
  refine gf_X_21 (pc := 35) hC hw k10 (Nat.ne_of_gt k17.1) d_X_init_35 ?_
  refine call_va (pc := 38) (fun _ h => h) hw (fm_runI (As := [.int x1, .int v1, .ref (b + (R14 h 0))]) (rest := [.ref (b + (n6 + 1)), .ref (b + h)]) hC hw (c_Client_init l D dA b (n6 + 1) T13 R14 M15 (n6 + 1) x1 v1 (R14 h 0) _) cy_Client_init hp rfl rfl mw_296 mw_297 rfl ⟨Nat.le_of_ble_eq_true rfl, Nat.le_of_ble_eq_true rfl⟩ rfl hl.1 rfl (Nat.le_of_ble_eq_true rfl) d_X_init_38 ⟨(Nat.le_of_ble_eq_true rfl), (Nat.le_of_ble_eq_true rfl)⟩) (fun n18 T19 R20 M21 H locs hp hw => ?_)
  refine W.widen (k := 174) (n := 2856) (Nat.le_of_ble_eq_true rfl) (Nat.le_of_ble_eq_true rfl) ?_
  obtain ⟨k22, hp⟩ := hp
  obtain ⟨k23, hp⟩ := hp
  refine pf_X_30 (pc := 41) hC hw k22 hnm (Nat.ne_of_gt k23.1) d_X_init_41 (fun R24 H locs eR24 hw => ?_)
  have hp := hp R24 eR24
  refine lv_aload_n (pc := 44) hx hb d_X_init_44 rfl (lv_at hl 1 rfl) ?_
  refine fm_new (pc := 45) hC hw hin_Server t_Server t_Server_ok mw_298 mw_299 mw_300 (rfl : classes[9]? = _) (by decide) (by decide) df_Server (Nat.le_of_ble_eq_true rfl) (Nat.le_of_ble_eq_true rfl) d_X_init_45 (fun T25 R26 M27 H eT25 eR26 eM27 hw => ?_)
  have hp := hp T25 R26 M27 eT25 eR26 eM27
  have k22 := (ok_push eT25 k22 : _)
  have k23 := (ok_push eT25 k23 : _)
  have k28 := ok_new eT25
  refine W.widen (k := 175) (n := 2876) (Nat.le_of_ble_eq_true rfl) (Nat.le_of_ble_eq_true rfl) ?_
  refine lv_dup (pc := 48) hx hb d_X_init_48 rfl ?_
  refine lv_iload_n (pc := 49) hx hb d_X_init_49 rfl (lv_at hl 2 rfl) ?_
  refine lv_iload_n (pc := 50) hx hb d_X_init_50 rfl (lv_at hl 0 rfl) ?_
  refine lv_aload_n (pc := 51) hx hb d_X_init_51 rfl (lv_at hl 1 rfl) ?_
  obtain ⟨k29, hp⟩ := hp
  refine gf_X_21 (pc := 52) hC hw k22 (Nat.ne_of_gt k29.1) d_X_init_52 ?_
  refine call_va (pc := 55) (fun _ h => h) hw (fm_runI (As := [.int x1, .int v1, .ref (b + (R26 h 0))]) (rest := [.ref (b + (n18 + 1)), .ref (b + h)]) hC hw (c_Server_init l D dA b (n18 + 1) T25 R26 M27 (n18 + 1) x1 v1 (R26 h 0) _) cy_Server_init hp rfl rfl mw_301 mw_302 rfl ⟨Nat.le_of_ble_eq_true rfl, Nat.le_of_ble_eq_true rfl⟩ rfl hl.1 rfl (Nat.le_of_ble_eq_true rfl) d_X_init_55 ⟨(Nat.le_of_ble_eq_true rfl), (Nat.le_of_ble_eq_true rfl)⟩) (fun n30 T31 R32 M33 H locs hp hw => ?_)
  refine W.widen (k := 223) (n := 3662) (Nat.le_of_ble_eq_true rfl) (Nat.le_of_ble_eq_true rfl) ?_
  obtain ⟨k34, hp⟩ := hp
  obtain ⟨k35, hp⟩ := hp
  refine pf_X_37 (pc := 58) hC hw k34 hnm (Nat.ne_of_gt k35.1) d_X_init_58 (fun R36 H locs eR36 hw => ?_)
  have hp := hp R36 eR36
  refine W.widen (k := 223) (n := 3662) (by decide) (by decide) ?_
  exact ret_va hC hr hlk hw hp d_X_init_61
