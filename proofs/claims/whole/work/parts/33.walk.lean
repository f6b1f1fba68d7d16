set_option maxHeartbeats 4000000 in
set_option maxRecDepth 100000 in
theorem c_Client_takeAck (l : Launch) (D : va_G) (dA : Nat → ClassId) (b n : Nat) (T : mT) (R : mR) (M : mM) (sz : Nat) (h : Nat) (x1 : Nat) (Q : mM → Prop) : Met l y_Client_takeAck (Cond.code y_Client_takeAck b_Client_takeAck 2 none :: tW) ({ frames := 3, cells := 0, slots := 0, locals := 66 }) (Pm D dA b n T R M sz [.ref (b + h), .ref (b + x1)] (w_Client_takeAck n T R M h x1 Q)) (Qvm D dA (An b n) b n T R sz Q) 0 0 (An b n) := by
  refine fm_body (An b n) (by decide) (Nat.le_of_ble_eq_true rfl) (fun k h0 h1 => ⟨by omega, by omega⟩) (fun p e s m below meth c ls hC hr hlk hnm hl hw hp => ?_)
  have hx := hC.1.1
  have hb := hC.1.2.1
  have hl : lv_has ls 2 [(0, .ref (b + h)), (1, .ref (b + x1))] := hl
  generalize hav : (List.toArray ([.ref (b + h), .ref (b + x1)] : List Value)) = av at hC ⊢
  unfold w_Client_takeAck at hp
  obtain ⟨k0, hp⟩ := hp
  refine lv_aload_n (pc := 0) hx hb d_Client_takeAck_0 rfl (lv_at hl 0 rfl) ?_
  refine lv_aload_n (pc := 1) hx hb d_Client_takeAck_1 rfl (lv_at hl 1 rfl) ?_
  refine call_vm (pc := 2) (fun _ h => h) hw (fm_runU (x := (⟨"LossyHandshake$Client", "closeNamed", "(LLossyHandshake$NetRecord;)V"⟩ : MethodName)) (As := [.ref (b + x1)]) (rest := []) hC hw (c_Side_closeNamed l D dA b n T R M sz h x1 _) cy_Side_closeNamed hp rfl rfl rfl mw_120 mw_121 mw_122 mw_123 (rfl : classes[8]? = _) (by decide) k0 ⟨Nat.le_of_ble_eq_true rfl, Nat.le_of_ble_eq_true rfl⟩ rfl hl.1 rfl (Nat.le_of_ble_eq_true rfl) d_Client_takeAck_2 ⟨(Nat.le_of_ble_eq_true rfl), (Nat.le_of_ble_eq_true rfl)⟩) (fun M1 H locs hp hw => ?_)
  refine lv_aload_n (pc := 5) hx hb d_Client_takeAck_5 rfl (lv_at hl 0 rfl) ?_
  refine gf_Client_109 (pc := 6) hC hw k0 d_Client_takeAck_6 ?_
  refine lv_iconst (v := 3) (pc := 9) hx hb d_Client_takeAck_9 (by decide) ?_
  refine lv_icmp_ne (pc := 10) (tgt := 28) hx hb d_Client_takeAck_10 rfl (fun hc => ?_) (fun hc => ?_)
  · have hp := hp.2 hc
    exact ret_vm hC hr hlk hw hp d_Client_takeAck_28
  · have hp := hp.1 hc
    refine lv_aload_n (pc := 13) hx hb d_Client_takeAck_13 rfl (lv_at hl 0 rfl) ?_
    obtain ⟨k2, hp⟩ := hp
    refine gf_Client_60 (pc := 14) hC hw k0 (Nat.ne_of_gt k2.1) d_Client_takeAck_14 ?_
    refine call_ip (pc := 17) (fun _ h => h) hw (fm_runV (As := []) (rest := []) hC hw (c_Flight_countOpen l D dA b n T R M1 sz (R h 3) _) cy_Flight_countOpen hp rfl rfl mw_124 mw_125 mw_126 (rfl : classes[2]? = _) (by decide) k2 ⟨Nat.le_of_ble_eq_true rfl, Nat.le_of_ble_eq_true rfl⟩ rfl hl.1 rfl (Nat.le_of_ble_eq_true rfl) d_Client_takeAck_17 ⟨(Nat.le_of_ble_eq_true rfl), (Nat.le_of_ble_eq_true rfl)⟩) (fun r3 H locs hp hw => ?_)
    refine lv_if_ne (pc := 20) (tgt := 28) hx hb d_Client_takeAck_20 rfl (fun hc => ?_) (fun hc => ?_)
    · have hp := hp.2 hc
      exact ret_vm hC hr hlk hw hp d_Client_takeAck_28
    · have hp := hp.1 hc
      refine lv_aload_n (pc := 23) hx hb d_Client_takeAck_23 rfl (lv_at hl 0 rfl) ?_
      refine lv_iconst (v := 4) (pc := 24) hx hb d_Client_takeAck_24 (by decide) ?_
      refine call_vm (pc := 25) (fun _ h => h) hw (fm_runU (x := (⟨"LossyHandshake$Client", "enter", "(I)V"⟩ : MethodName)) (As := [.int (4 : Int32)]) (rest := []) hC hw (c_Side_enter l D dA b n T R M1 sz h (4 : Int32) _) cy_Side_enter hp rfl rfl rfl mw_104 mw_105 mw_106 mw_107 (rfl : classes[8]? = _) (by decide) k0 ⟨Nat.le_of_ble_eq_true rfl, Nat.le_of_ble_eq_true rfl⟩ rfl hl.1 rfl (Nat.le_of_ble_eq_true rfl) d_Client_takeAck_25 ⟨(Nat.le_of_ble_eq_true rfl), (Nat.le_of_ble_eq_true rfl)⟩) (fun M4 H locs hp hw => ?_)
      exact ret_vm hC hr hlk hw hp d_Client_takeAck_28
set_option maxHeartbeats 4000000 in
set_option maxRecDepth 100000 in
theorem c_Side_keepValue (l : Launch) (D : va_G) (dA : Nat → ClassId) (b n : Nat) (T : mT) (R : mR) (M : mM) (sz : Nat) (h : Nat) (x1 : Int32) (Q : mM → Prop) : Met l y_Side_keepValue (Cond.code y_Side_keepValue b_Side_keepValue 2 none :: tW) ({ frames := 0, cells := 0, slots := 0, locals := 0 }) (Pm D dA b n T R M sz [.ref (b + h), .int x1] (w_Side_keepValue n T R M h x1 Q)) (Qvm D dA (An b n) b n T R sz Q) 0 0 (An b n) := by
  refine fm_body (An b n) (by decide) (Nat.le_of_ble_eq_true rfl) (fun k h0 h1 => ⟨by omega, by omega⟩) (fun p e s m below meth c ls hC hr hlk hnm hl hw hp => ?_)
  have hx := hC.1.1
  have hb := hC.1.2.1
  have hl : lv_has ls 2 [(0, .ref (b + h)), (1, .int x1)] := hl
  generalize hav : (List.toArray ([.ref (b + h), .int x1] : List Value)) = av at hC ⊢
  unfold w_Side_keepValue at hp
  obtain ⟨k0, hp⟩ := hp
  refine lv_aload_n (pc := 0) hx hb d_Side_keepValue_0 rfl (lv_at hl 0 rfl) ?_
  refine gf_Side_108 (pc := 1) hC hw k0 d_Side_keepValue_1 ?_
  refine lv_aload_n (pc := 4) hx hb d_Side_keepValue_4 rfl (lv_at hl 0 rfl) ?_
  obtain ⟨k1, hp⟩ := hp
  refine gf_Side_28 (pc := 5) hC hw k0 (Nat.ne_of_gt k1.1) d_Side_keepValue_5 ?_
  refine fm_alen (pc := 8) (t0 := 0) hC hw k1 rfl (by decide) d_Side_keepValue_8 ?_
  refine lv_icmp_ge (pc := 9) (tgt := 32) hx hb d_Side_keepValue_9 rfl (fun hc => ?_) (fun hc => ?_)
  · have hp := hp.1 hc
    exact ret_vm hC hr hlk hw hp d_Side_keepValue_32
  · have hp := hp.2 hc
    refine lv_aload_n (pc := 12) hx hb d_Side_keepValue_12 rfl (lv_at hl 0 rfl) ?_
    refine gf_Side_28 (pc := 13) hC hw k0 (Nat.ne_of_gt k1.1) d_Side_keepValue_13 ?_
    refine lv_aload_n (pc := 16) hx hb d_Side_keepValue_16 rfl (lv_at hl 0 rfl) ?_
    refine gf_Side_108 (pc := 17) hC hw k0 d_Side_keepValue_17 ?_
    refine lv_iload_n (pc := 20) hx hb d_Side_keepValue_20 rfl (lv_at hl 1 rfl) ?_
    obtain ⟨k2, hp⟩ := hp
    refine fm_iast (pc := 21) hC hw k1 k2 rfl d_Side_keepValue_21 (fun M3 H locs eM3 hw => ?_)
    have hp := hp M3 eM3
    refine lv_aload_n (pc := 22) hx hb d_Side_keepValue_22 rfl (lv_at hl 0 rfl) ?_
    refine lv_dup (pc := 23) hx hb d_Side_keepValue_23 rfl ?_
    refine gf_Side_108 (pc := 24) hC hw k0 d_Side_keepValue_24 ?_
    refine lv_iconst (v := 1) (pc := 27) hx hb d_Side_keepValue_27 (by decide) ?_
    refine lv_iadd (pc := 28) hx hb d_Side_keepValue_28 ?_
    refine pf_Side_108 (pc := 29) hC hw k0 d_Side_keepValue_29 (fun M4 H locs eM4 hw => ?_)
    have hp := hp M4 eM4
    exact ret_vm hC hr hlk hw hp d_Side_keepValue_32
set_option maxHeartbeats 4000000 in
set_option maxRecDepth 100000 in
theorem c_Rec_readFirstInt (l : Launch) (D : va_G) (dA : Nat → ClassId) (b n : Nat) (T : mT) (R : mR) (M : mM) (sz : Nat) (h : Nat) (Q : Int32 → Prop) : Met l y_Rec_readFirstInt (Cond.code y_Rec_readFirstInt b_Rec_readFirstInt 3 (some .int) :: tW) ({ frames := 0, cells := 0, slots := 0, locals := 0 }) (Pm D dA b n T R M sz [.ref (b + h)] (w_Rec_readFirstInt n T R M h Q)) (Qip D dA (An b n) b n T R M sz Q) 0 0 (An b n) := by
  refine fm_body (An b n) (by decide) (Nat.le_of_ble_eq_true rfl) (fun k h0 h1 => ⟨by omega, by omega⟩) (fun p e s m below meth c ls hC hr hlk hnm hl hw hp => ?_)
  have hx := hC.1.1
  have hb := hC.1.2.1
  have hl : lv_has ls 3 [(0, .ref (b + h))] := hl
  generalize hav : (List.toArray ([.ref (b + h)] : List Value)) = av at hC ⊢
  unfold w_Rec_readFirstInt at hp
  obtain ⟨k0, hp⟩ := hp
  have L4 : ∀ (N4 : Nat) (a0 : Nat) (a1 : Int32) (a2 : Int32)   (ls : Array Slot) (H : Heap) (locs : List Loc), ok T n a0 3 → lv_has ls 3 [(0, .ref (b + a0)), (1, .int a1), (2, .int a2)] → St D dA (An b n) b n T R M sz s.heap H locs → w_Rec_readFirstInt_L4 n T R M Q a0 N4 a1 a2 → W p l e ({ frames := 0, cells := 0, slots := 0, locals := 0 }) s m av below meth c H locs 0 0 (MQ below (Qip D dA (An b n) b n T R M sz Q) av s 0 0 (An b n)) (F0 m 4 ls []) := by
    intro N4
    induction N4 with
    | zero => intro a0 a1 a2 ls H locs f1 hl hw hp; exact False.elim hp
    | succ N4 ih4 =>
      intro a0 a1 a2 ls H locs f1 hl hw hp
      unfold w_Rec_readFirstInt_L4 at hp
      refine lv_iload_n (pc := 4) hx hb d_Rec_readFirstInt_4 rfl (lv_at hl 2 rfl) ?_
      refine lv_iconst (v := 4) (pc := 5) hx hb d_Rec_readFirstInt_5 (by decide) ?_
      refine lv_icmp_ge (pc := 6) (tgt := 29) hx hb d_Rec_readFirstInt_6 rfl (fun hc => ?_) (fun hc => ?_)
      · have hp := hp.1 hc
        refine lv_iload_n (pc := 29) hx hb d_Rec_readFirstInt_29 rfl (lv_at hl 1 rfl) ?_
        exact ret_ip hC hr hlk hw hp d_Rec_readFirstInt_30
      · have hp := hp.2 hc
        refine lv_iload_n (pc := 9) hx hb d_Rec_readFirstInt_9 rfl (lv_at hl 1 rfl) ?_
        refine lv_aload_n (pc := 10) hx hb d_Rec_readFirstInt_10 rfl (lv_at hl 0 rfl) ?_
        obtain ⟨k2, hp⟩ := hp
        refine gf_Rec_9 (pc := 11) hC hw f1 (Nat.ne_of_gt k2.1) d_Rec_readFirstInt_11 ?_
        refine lv_iload_n (pc := 14) hx hb d_Rec_readFirstInt_14 rfl (lv_at hl 2 rfl) ?_
        obtain ⟨k3, hp⟩ := hp
        refine fm_iald (pc := 15) hC hw k2 k3 rfl d_Rec_readFirstInt_15 ?_
        refine lv_bipush (v := 8) (pc := 16) hx hb d_Rec_readFirstInt_16 (by decide) ?_
        refine lv_iload_n (pc := 18) hx hb d_Rec_readFirstInt_18 rfl (lv_at hl 2 rfl) ?_
        refine lv_imul (pc := 19) hx hb d_Rec_readFirstInt_19 ?_
        refine lv_ishl (pc := 20) hx hb d_Rec_readFirstInt_20 ?_
        refine lv_ior (pc := 21) hx hb d_Rec_readFirstInt_21 ?_
        refine lv_topi (fun v4 ev4 => ?_)
        have hp := hp v4 ev4
        refine lv_istore_n (pc := 22) hx hb d_Rec_readFirstInt_22 rfl hl (by decide) rfl (fun ls hl => ?_)
        have hl : lv_has ls 3 [(1, .int v4), (0, .ref (b + a0)), (2, .int a2)] := hl
        obtain ⟨v5, ev5⟩ : ∃ z : Int32, z = a2 + (1 : Int32) := ⟨_, rfl⟩
        have hp := hp v5 ev5
        refine lv_iinc (pc := 23) (k := 2) (v := v5) hx hb d_Rec_readFirstInt_23 hl rfl ev5.symm (by decide) rfl (fun ls hl => ?_)
        have hl : lv_has ls 3 [(2, .int v5), (1, .int v4), (0, .ref (b + a0))] := hl
        refine lv_goto (pc := 26) (tgt := 4) hx hb d_Rec_readFirstInt_26 rfl ?_
        exact ih4  a0 v4 v5 ls _ _ f1 (lv_sub hl [2, 1, 0] rfl) hw hp
  refine lv_iconst (v := 0) (pc := 0) hx hb d_Rec_readFirstInt_0 (by decide) ?_
  refine lv_istore_n (pc := 1) hx hb d_Rec_readFirstInt_1 rfl hl (by decide) rfl (fun ls hl => ?_)
  have hl : lv_has ls 3 [(1, .int (0 : Int32)), (0, .ref (b + h))] := hl
  refine lv_iconst (v := 0) (pc := 2) hx hb d_Rec_readFirstInt_2 (by decide) ?_
  refine lv_istore_n (pc := 3) hx hb d_Rec_readFirstInt_3 rfl hl (by decide) rfl (fun ls hl => ?_)
  have hl : lv_has ls 3 [(2, .int (0 : Int32)), (1, .int (0 : Int32)), (0, .ref (b + h))] := hl
  obtain ⟨N4, hp⟩ := hp
  exact L4 N4 h (0 : Int32) (0 : Int32) ls _ _ k0 (lv_sub hl [2, 1, 0] rfl) hw hp
set_option maxHeartbeats 4000000 in
set_option maxRecDepth 100000 in
theorem c_Client_takeRetry (l : Launch) (D : va_G) (dA : Nat → ClassId) (b n : Nat) (T : mT) (R : mR) (M : mM) (sz : Nat) (h : Nat) (x1 : Nat) (Q : mM → Prop) : Met l y_Client_takeRetry (Cond.code y_Client_takeRetry b_Client_takeRetry 2 none :: tW) ({ frames := 4, cells := 0, slots := 0, locals := 94 }) (Pm D dA b n T R M sz [.ref (b + h), .ref (b + x1)] (w_Client_takeRetry n T R M h x1 Q)) (Qvm D dA (An b n) b n T R sz Q) 0 0 (An b n) := by
  refine fm_body (An b n) (by decide) (Nat.le_of_ble_eq_true rfl) (fun k h0 h1 => ⟨by omega, by omega⟩) (fun p e s m below meth c ls hC hr hlk hnm hl hw hp => ?_)
  have hx := hC.1.1
  have hb := hC.1.2.1
  have hl : lv_has ls 2 [(0, .ref (b + h)), (1, .ref (b + x1))] := hl
  generalize hav : (List.toArray ([.ref (b + h), .ref (b + x1)] : List Value)) = av at hC ⊢
  unfold w_Client_takeRetry at hp
  obtain ⟨k0, hp⟩ := hp
  refine lv_aload_n (pc := 0) hx hb d_Client_takeRetry_0 rfl (lv_at hl 0 rfl) ?_
  refine gf_Client_109 (pc := 1) hC hw k0 d_Client_takeRetry_1 ?_
  refine lv_iconst (v := 1) (pc := 4) hx hb d_Client_takeRetry_4 (by decide) ?_
  refine lv_icmp_eq (pc := 5) (tgt := 9) hx hb d_Client_takeRetry_5 rfl (fun hc => ?_) (fun hc => ?_)
  · have hp := hp.1 hc
    refine lv_aload_n (pc := 9) hx hb d_Client_takeRetry_9 rfl (lv_at hl 0 rfl) ?_
    refine lv_aload_n (pc := 10) hx hb d_Client_takeRetry_10 rfl (lv_at hl 1 rfl) ?_
    obtain ⟨k1, hp⟩ := hp
    obtain ⟨k2, hp⟩ := hp
    refine gf_Client_96 (pc := 11) hC hw k1 (Nat.ne_of_gt k2.1) d_Client_takeRetry_11 ?_
    refine lv_iconst (v := 0) (pc := 14) hx hb d_Client_takeRetry_14 (by decide) ?_
    refine lv_aload_n (pc := 15) hx hb d_Client_takeRetry_15 rfl (lv_at hl 1 rfl) ?_
    refine gf_Client_125 (pc := 16) hC hw k1 d_Client_takeRetry_16 ?_
    refine call_vm (pc := 19) (fun _ h => h) hw (fm_runU (x := (⟨"LossyHandshake$Client", "addBytesToTranscript", "([III)V"⟩ : MethodName)) (As := [.ref (b + (R x1 0)), .int (0 : Int32), .int (M x1 1)]) (rest := []) hC hw (c_Side_addBytesToTranscript l D dA b n T R M sz h (R x1 0) (0 : Int32) (M x1 1) _) cy_Side_addBytesToTranscript hp rfl rfl rfl mw_127 mw_128 mw_52 mw_129 (rfl : classes[8]? = _) (by decide) k0 ⟨Nat.le_of_ble_eq_true rfl, Nat.le_of_ble_eq_true rfl⟩ rfl hl.1 rfl (Nat.le_of_ble_eq_true rfl) d_Client_takeRetry_19 ⟨(Nat.le_of_ble_eq_true rfl), (Nat.le_of_ble_eq_true rfl)⟩) (fun M3 H locs hp hw => ?_)
    refine lv_aload_n (pc := 22) hx hb d_Client_takeRetry_22 rfl (lv_at hl 0 rfl) ?_
    obtain ⟨k4, hp⟩ := hp
    refine gf_Client_20 (pc := 23) hC hw k0 (Nat.ne_of_gt k4.1) d_Client_takeRetry_23 ?_
    refine lv_iconst (v := 0) (pc := 26) hx hb d_Client_takeRetry_26 (by decide) ?_
    refine lv_aload_n (pc := 27) hx hb d_Client_takeRetry_27 rfl (lv_at hl 0 rfl) ?_
    refine gf_Client_30 (pc := 28) hC hw k0 d_Client_takeRetry_28 ?_
    refine call_vm (pc := 31) (fun _ h => h) hw (fm_runV (As := [.int (0 : Int32), .int (M3 h 14)]) (rest := []) hC hw (c_Msg_writeInt l D dA b n T R M3 sz (R h 16) (0 : Int32) (M3 h 14) _) cy_Msg_writeInt hp rfl rfl mw_98 mw_99 mw_100 (rfl : classes[0]? = _) (by decide) k4 ⟨Nat.le_of_ble_eq_true rfl, Nat.le_of_ble_eq_true rfl⟩ rfl hl.1 rfl (Nat.le_of_ble_eq_true rfl) d_Client_takeRetry_31 ⟨(Nat.le_of_ble_eq_true rfl), (Nat.le_of_ble_eq_true rfl)⟩) (fun M5 H locs hp hw => ?_)
    refine lv_aload_n (pc := 34) hx hb d_Client_takeRetry_34 rfl (lv_at hl 0 rfl) ?_
    refine gf_Client_20 (pc := 35) hC hw k0 (Nat.ne_of_gt k4.1) d_Client_takeRetry_35 ?_
    refine lv_iconst (v := 4) (pc := 38) hx hb d_Client_takeRetry_38 (by decide) ?_
    refine lv_aload_n (pc := 39) hx hb d_Client_takeRetry_39 rfl (lv_at hl 1 rfl) ?_
    refine call_ip (pc := 40) (fun _ h => h) hw (fm_runV (As := []) (rest := [.int (4 : Int32), .ref (b + (R h 16))]) hC hw (c_Rec_readFirstInt l D dA b n T R M5 sz x1 _) cy_Rec_readFirstInt hp rfl rfl mw_130 mw_131 mw_132 (rfl : classes[3]? = _) (by decide) k1 ⟨Nat.le_of_ble_eq_true rfl, Nat.le_of_ble_eq_true rfl⟩ rfl hl.1 rfl (Nat.le_of_ble_eq_true rfl) d_Client_takeRetry_40 ⟨(Nat.le_of_ble_eq_true rfl), (Nat.le_of_ble_eq_true rfl)⟩) (fun r6 H locs hp hw => ?_)
    refine call_vm (pc := 43) (fun _ h => h) hw (fm_runV (As := [.int (4 : Int32), .int r6]) (rest := []) hC hw (c_Msg_writeInt l D dA b n T R M5 sz (R h 16) (4 : Int32) r6 _) cy_Msg_writeInt hp rfl rfl mw_98 mw_99 mw_100 (rfl : classes[0]? = _) (by decide) k4 ⟨Nat.le_of_ble_eq_true rfl, Nat.le_of_ble_eq_true rfl⟩ rfl hl.1 rfl (Nat.le_of_ble_eq_true rfl) d_Client_takeRetry_43 ⟨(Nat.le_of_ble_eq_true rfl), (Nat.le_of_ble_eq_true rfl)⟩) (fun M7 H locs hp hw => ?_)
    refine lv_aload_n (pc := 46) hx hb d_Client_takeRetry_46 rfl (lv_at hl 0 rfl) ?_
    refine lv_aload_n (pc := 47) hx hb d_Client_takeRetry_47 rfl (lv_at hl 0 rfl) ?_
    refine gf_Client_20 (pc := 48) hC hw k0 (Nat.ne_of_gt k4.1) d_Client_takeRetry_48 ?_
    refine call_vm (pc := 51) (fun _ h => h) hw (fm_runV (As := [.ref (b + (R h 16))]) (rest := []) hC hw (c_Client_sendFlight l D dA b n T R M7 sz h (R h 16) _) cy_Client_sendFlight hp rfl rfl mw_101 mw_102 mw_103 (rfl : classes[8]? = _) (by decide) k0 ⟨Nat.le_of_ble_eq_true rfl, Nat.le_of_ble_eq_true rfl⟩ rfl hl.1 rfl (Nat.le_of_ble_eq_true rfl) d_Client_takeRetry_51 ⟨(Nat.le_of_ble_eq_true rfl), (Nat.le_of_ble_eq_true rfl)⟩) (fun M8 H locs hp hw => ?_)
    refine lv_aload_n (pc := 54) hx hb d_Client_takeRetry_54 rfl (lv_at hl 0 rfl) ?_
    refine lv_iconst (v := 2) (pc := 55) hx hb d_Client_takeRetry_55 (by decide) ?_
    refine call_vm (pc := 56) (fun _ h => h) hw (fm_runU (x := (⟨"LossyHandshake$Client", "enter", "(I)V"⟩ : MethodName)) (As := [.int (2 : Int32)]) (rest := []) hC hw (c_Side_enter l D dA b n T R M8 sz h (2 : Int32) _) cy_Side_enter hp rfl rfl rfl mw_104 mw_105 mw_106 mw_107 (rfl : classes[8]? = _) (by decide) k0 ⟨Nat.le_of_ble_eq_true rfl, Nat.le_of_ble_eq_true rfl⟩ rfl hl.1 rfl (Nat.le_of_ble_eq_true rfl) d_Client_takeRetry_56 ⟨(Nat.le_of_ble_eq_true rfl), (Nat.le_of_ble_eq_true rfl)⟩) (fun M9 H locs hp hw => ?_)
    exact ret_vm hC hr hlk hw hp d_Client_takeRetry_59
  · have hp := hp.2 hc
    exact ret_vm hC hr hlk hw hp d_Client_takeRetry_8
set_option maxHeartbeats 4000000 in
set_option maxRecDepth 100000 in
theorem c_Flight_forget (l : Launch) (D : va_G) (dA : Nat → ClassId) (b n : Nat) (T : mT) (R : mR) (M : mM) (sz : Nat) (h : Nat) (Q : mM → Prop) : Met l y_Flight_forget (Cond.code y_Flight_forget b_Flight_forget 1 none :: tW) ({ frames := 0, cells := 0, slots := 0, locals := 0 }) (Pm D dA b n T R M sz [.ref (b + h)] (w_Flight_forget n T R M h Q)) (Qvm D dA (An b n) b n T R sz Q) 0 0 (An b n) := by
  refine fm_body (An b n) (by decide) (Nat.le_of_ble_eq_true rfl) (fun k h0 h1 => ⟨by omega, by omega⟩) (fun p e s m below meth c ls hC hr hlk hnm hl hw hp => ?_)
  have hx := hC.1.1
  have hb := hC.1.2.1
  have hl : lv_has ls 1 [(0, .ref (b + h))] := hl
  generalize hav : (List.toArray ([.ref (b + h)] : List Value)) = av at hC ⊢
  unfold w_Flight_forget at hp
  obtain ⟨k0, hp⟩ := hp
  refine lv_aload_n (pc := 0) hx hb d_Flight_forget_0 rfl (lv_at hl 0 rfl) ?_
  refine lv_iconst (v := 0) (pc := 1) hx hb d_Flight_forget_1 (by decide) ?_
  refine pf_Flight_18 (pc := 2) hC hw k0 d_Flight_forget_2 (fun M1 H locs eM1 hw => ?_)
  have hp := hp M1 eM1
  exact ret_vm hC hr hlk hw hp d_Flight_forget_5
set_option maxHeartbeats 4000000 in
set_option maxRecDepth 100000 in
theorem c_Rec_name (l : Launch) (D : va_G) (dA : Nat → ClassId) (b n : Nat) (T : mT) (R : mR) (M : mM) (sz : Nat) (h : Nat) (Q : Int32 → Prop) : Met l y_Rec_name (Cond.code y_Rec_name b_Rec_name 1 (some .int) :: tW) ({ frames := 1, cells := 0, slots := 0, locals := 21 }) (Pm D dA b n T R M sz [.ref (b + h)] (w_Rec_name n T R M h Q)) (Qip D dA (An b n) b n T R M sz Q) 0 0 (An b n) := by
  refine fm_body (An b n) (by decide) (Nat.le_of_ble_eq_true rfl) (fun k h0 h1 => ⟨by omega, by omega⟩) (fun p e s m below meth c ls hC hr hlk hnm hl hw hp => ?_)
  have hx := hC.1.1
  have hb := hC.1.2.1
  have hl : lv_has ls 1 [(0, .ref (b + h))] := hl
  generalize hav : (List.toArray ([.ref (b + h)] : List Value)) = av at hC ⊢
  unfold w_Rec_name at hp
  obtain ⟨k0, hp⟩ := hp
  refine lv_aload_n (pc := 0) hx hb d_Rec_name_0 rfl (lv_at hl 0 rfl) ?_
  refine gf_Rec_22 (pc := 1) hC hw k0 d_Rec_name_1 ?_
  refine lv_aload_n (pc := 4) hx hb d_Rec_name_4 rfl (lv_at hl 0 rfl) ?_
  refine gf_Rec_25 (pc := 5) hC hw k0 d_Rec_name_5 ?_
  refine call_ip (pc := 8) (fun _ h => h) hw (fm_runSN (As := [.int (M h 4), .int (M h 5)]) (rest := []) hC hw (c_X_nameOf l D dA b n T R M sz (M h 4) (M h 5) _) cy_X_nameOf hp rfl rfl nw_6 mw_62 ⟨Nat.le_of_ble_eq_true rfl, Nat.le_of_ble_eq_true rfl⟩ rfl hl.1 rfl (Nat.le_of_ble_eq_true rfl) d_Rec_name_8 ⟨(Nat.le_of_ble_eq_true rfl), (Nat.le_of_ble_eq_true rfl)⟩) (fun r1 H locs hp hw => ?_)
  exact ret_ip hC hr hlk hw hp d_Rec_name_11
set_option maxHeartbeats 4000000 in
set_option maxRecDepth 100000 in
theorem c_Noted_add (l : Launch) (D : va_G) (dA : Nat → ClassId) (b n : Nat) (T : mT) (R : mR) (M : mM) (sz : Nat) (h : Nat) (x1 : Int32) (Q : mM → Prop) : Met l y_Noted_add (Cond.code y_Noted_add b_Noted_add 3 none :: tW) ({ frames := 0, cells := 0, slots := 0, locals := 0 }) (Pm D dA b n T R M sz [.ref (b + h), .int x1] (w_Noted_add n T R M h x1 Q)) (Qvm D dA (An b n) b n T R sz Q) 0 0 (An b n) := by
  refine fm_body (An b n) (by decide) (Nat.le_of_ble_eq_true rfl) (fun k h0 h1 => ⟨by omega, by omega⟩) (fun p e s m below meth c ls hC hr hlk hnm hl hw hp => ?_)
  have hx := hC.1.1
  have hb := hC.1.2.1
  have hl : lv_has ls 3 [(0, .ref (b + h)), (1, .int x1)] := hl
  generalize hav : (List.toArray ([.ref (b + h), .int x1] : List Value)) = av at hC ⊢
  unfold w_Noted_add at hp
  obtain ⟨k0, hp⟩ := hp
  have L29 : ∀ (N29 : Nat) (a0 : Nat) (a1 : Int32) (a2 : Int32) (M : mM)  (ls : Array Slot) (H : Heap) (locs : List Loc), ok T n a0 6 → lv_has ls 3 [(0, .ref (b + a0)), (1, .int a1), (2, .int a2)] → St D dA (An b n) b n T R M sz s.heap H locs → w_Noted_add_L29 n T R Q a0 a1 N29 a2 M → W p l e ({ frames := 0, cells := 0, slots := 0, locals := 0 }) s m av below meth c H locs 0 0 (MQ below (Qvm D dA (An b n) b n T R sz Q) av s 0 0 (An b n)) (F0 m 29 ls []) := by
    intro N29
    induction N29 with
    | zero => intro a0 a1 a2 M ls H locs f4 hl hw hp; exact False.elim hp
    | succ N29 ih29 =>
      intro a0 a1 a2 M ls H locs f4 hl hw hp
      unfold w_Noted_add_L29 at hp
      refine lv_iload_n (pc := 29) hx hb d_Noted_add_29 rfl (lv_at hl 2 rfl) ?_
      refine lv_if_le (pc := 30) (tgt := 53) hx hb d_Noted_add_30 rfl (fun hc => ?_) (fun hc => ?_)
      · have hp := hp.1 hc
        refine lv_aload_n (pc := 53) hx hb d_Noted_add_53 rfl (lv_at hl 0 rfl) ?_
        obtain ⟨k5, hp⟩ := hp
        refine gf_Noted_9 (pc := 54) hC hw f4 (Nat.ne_of_gt k5.1) d_Noted_add_54 ?_
        refine lv_iconst (v := 0) (pc := 57) hx hb d_Noted_add_57 (by decide) ?_
        refine lv_iload_n (pc := 58) hx hb d_Noted_add_58 rfl (lv_at hl 1 rfl) ?_
        obtain ⟨k6, hp⟩ := hp
        refine fm_iast (pc := 59) hC hw k5 k6 (show Int32.toNatClampNeg (0 : Int32) = 0 by decide) d_Noted_add_59 (fun M7 H locs eM7 hw => ?_)
        have hp := hp M7 eM7
        exact ret_vm hC hr hlk hw hp d_Noted_add_60
      · have hp := hp.2 hc
        refine lv_aload_n (pc := 33) hx hb d_Noted_add_33 rfl (lv_at hl 0 rfl) ?_
        obtain ⟨k8, hp⟩ := hp
        refine gf_Noted_9 (pc := 34) hC hw f4 (Nat.ne_of_gt k8.1) d_Noted_add_34 ?_
        refine lv_iload_n (pc := 37) hx hb d_Noted_add_37 rfl (lv_at hl 2 rfl) ?_
        refine lv_aload_n (pc := 38) hx hb d_Noted_add_38 rfl (lv_at hl 0 rfl) ?_
        refine gf_Noted_9 (pc := 39) hC hw f4 (Nat.ne_of_gt k8.1) d_Noted_add_39 ?_
        refine lv_iload_n (pc := 42) hx hb d_Noted_add_42 rfl (lv_at hl 2 rfl) ?_
        refine lv_iconst (v := 1) (pc := 43) hx hb d_Noted_add_43 (by decide) ?_
        refine lv_isub (pc := 44) hx hb d_Noted_add_44 ?_
        obtain ⟨k9, hp⟩ := hp
        refine fm_iald (pc := 45) hC hw k8 k9 rfl d_Noted_add_45 ?_
        obtain ⟨k10, hp⟩ := hp
        refine fm_iast (pc := 46) hC hw k8 k10 rfl d_Noted_add_46 (fun M11 H locs eM11 hw => ?_)
        have hp := hp M11 eM11
        obtain ⟨v12, ev12⟩ : ∃ z : Int32, z = a2 + (-1 : Int32) := ⟨_, rfl⟩
        have hp := hp v12 ev12
        refine lv_iinc (pc := 47) (k := 2) (v := v12) hx hb d_Noted_add_47 hl rfl ev12.symm (by decide) rfl (fun ls hl => ?_)
        have hl : lv_has ls 3 [(2, .int v12), (0, .ref (b + a0)), (1, .int a1)] := hl
        refine lv_goto (pc := 50) (tgt := 29) hx hb d_Noted_add_50 rfl ?_
        exact ih29  a0 a1 v12 M11 ls _ _ f4 (lv_sub hl [1, 2, 0] rfl) hw hp
  have B22 : ∀ (a0 : Nat) (a1 : Int32) (M : mM)  (ls : Array Slot) (H : Heap) (locs : List Loc), ok T n a0 6 → lv_has ls 3 [(0, .ref (b + a0)), (1, .int a1)] → St D dA (An b n) b n T R M sz s.heap H locs → w_Noted_add_B22 n T R Q a0 a1 M → W p l e ({ frames := 0, cells := 0, slots := 0, locals := 0 }) s m av below meth c H locs 0 0 (MQ below (Qvm D dA (An b n) b n T R sz Q) av s 0 0 (An b n)) (F0 m 22 ls []) := by
    intro a0 a1 M ls H locs f2 hl hw hp
    unfold w_Noted_add_B22 at hp
    refine lv_aload_n (pc := 22) hx hb d_Noted_add_22 rfl (lv_at hl 0 rfl) ?_
    refine gf_Noted_15 (pc := 23) hC hw f2 d_Noted_add_23 ?_
    refine lv_iconst (v := 1) (pc := 26) hx hb d_Noted_add_26 (by decide) ?_
    refine lv_isub (pc := 27) hx hb d_Noted_add_27 ?_
    refine lv_topi (fun v3 ev3 => ?_)
    have hp := hp v3 ev3
    refine lv_istore_n (pc := 28) hx hb d_Noted_add_28 rfl hl (by decide) rfl (fun ls hl => ?_)
    have hl : lv_has ls 3 [(2, .int v3), (0, .ref (b + a0)), (1, .int a1)] := hl
    obtain ⟨N29, hp⟩ := hp
    exact L29 N29 a0 a1 v3 M ls _ _ f2 (lv_sub hl [1, 2, 0] rfl) hw hp
  refine lv_aload_n (pc := 0) hx hb d_Noted_add_0 rfl (lv_at hl 0 rfl) ?_
  refine gf_Noted_15 (pc := 1) hC hw k0 d_Noted_add_1 ?_
  refine lv_aload_n (pc := 4) hx hb d_Noted_add_4 rfl (lv_at hl 0 rfl) ?_
  obtain ⟨k1, hp⟩ := hp
  refine gf_Noted_9 (pc := 5) hC hw k0 (Nat.ne_of_gt k1.1) d_Noted_add_5 ?_
  refine fm_alen (pc := 8) (t0 := 0) hC hw k1 rfl (by decide) d_Noted_add_8 ?_
  refine lv_icmp_ge (pc := 9) (tgt := 22) hx hb d_Noted_add_9 rfl (fun hc => ?_) (fun hc => ?_)
  · have hp := hp.1 hc
    exact B22  h x1 M ls _ _ k0 (lv_sub hl [0, 1] rfl) hw hp
  · have hp := hp.2 hc
    refine lv_aload_n (pc := 12) hx hb d_Noted_add_12 rfl (lv_at hl 0 rfl) ?_
    refine lv_dup (pc := 13) hx hb d_Noted_add_13 rfl ?_
    refine gf_Noted_15 (pc := 14) hC hw k0 d_Noted_add_14 ?_
    refine lv_iconst (v := 1) (pc := 17) hx hb d_Noted_add_17 (by decide) ?_
    refine lv_iadd (pc := 18) hx hb d_Noted_add_18 ?_
    refine pf_Noted_15 (pc := 19) hC hw k0 d_Noted_add_19 (fun M13 H locs eM13 hw => ?_)
    have hp := hp M13 eM13
    exact B22  h x1 M13 ls _ _ k0 (lv_sub hl [0, 1] rfl) hw hp
set_option maxHeartbeats 4000000 in
set_option maxRecDepth 100000 in
theorem c_Client_takeNextMessage (l : Launch) (D : va_G) (dA : Nat → ClassId) (b n : Nat) (T : mT) (R : mR) (M : mM) (sz : Nat) (h : Nat) (Q : mM → Prop) : Met l y_Client_takeNextMessage (Cond.code y_Client_takeNextMessage b_Client_takeNextMessage 2 none :: tW) ({ frames := 1, cells := 0, slots := 0, locals := 24 }) (Pm D dA b n T R M sz [.ref (b + h)] (w_Client_takeNextMessage n T R M h Q)) (Qvm D dA (An b n) b n T R sz Q) 0 0 (An b n) := by
  refine fm_body (An b n) (by decide) (Nat.le_of_ble_eq_true rfl) (fun k h0 h1 => ⟨by omega, by omega⟩) (fun p e s m below meth c ls hC hr hlk hnm hl hw hp => ?_)
  have hx := hC.1.1
  have hb := hC.1.2.1
  have hl : lv_has ls 2 [(0, .ref (b + h))] := hl
  generalize hav : (List.toArray ([.ref (b + h)] : List Value)) = av at hC ⊢
  unfold w_Client_takeNextMessage at hp
  obtain ⟨k0, hp⟩ := hp
  refine lv_aload_n (pc := 0) hx hb d_Client_takeNextMessage_0 rfl (lv_at hl 0 rfl) ?_
  obtain ⟨k1, hp⟩ := hp
  refine gf_Client_42 (pc := 1) hC hw k0 (Nat.ne_of_gt k1.1) d_Client_takeNextMessage_1 ?_
  refine gf_Client_159 (pc := 4) hC hw k1 d_Client_takeNextMessage_4 ?_
  refine lv_topi (fun v2 ev2 => ?_)
  have hp := hp v2 ev2
  refine lv_istore_n (pc := 7) hx hb d_Client_takeNextMessage_7 rfl hl (by decide) rfl (fun ls hl => ?_)
  have hl : lv_has ls 2 [(1, .int v2), (0, .ref (b + h))] := hl
  refine lv_aload_n (pc := 8) hx hb d_Client_takeNextMessage_8 rfl (lv_at hl 1 rfl) ?_
  refine lv_aload_n (pc := 9) hx hb d_Client_takeNextMessage_9 rfl (lv_at hl 1 rfl) ?_
  refine gf_Client_42 (pc := 10) hC hw k0 (Nat.ne_of_gt k1.1) d_Client_takeNextMessage_10 ?_
  obtain ⟨k3, hp⟩ := hp
  refine gf_Client_162 (pc := 13) hC hw k1 (Nat.ne_of_gt k3.1) d_Client_takeNextMessage_13 ?_
  refine lv_aload_n (pc := 16) hx hb d_Client_takeNextMessage_16 rfl (lv_at hl 1 rfl) ?_
  refine gf_Client_42 (pc := 17) hC hw k0 (Nat.ne_of_gt k1.1) d_Client_takeNextMessage_17 ?_
  refine lv_iload_n (pc := 20) hx hb d_Client_takeNextMessage_20 rfl (lv_at hl 0 rfl) ?_
  refine call_ip (pc := 21) (fun _ h => h) hw (fm_runV (As := [.int v2]) (rest := [.ref (b + (R (R h 18) 1)), .ref (b + h)]) hC hw (c_Asm_startOf l D dA b n T R M sz (R h 18) v2 _) cy_Asm_startOf hp rfl rfl mw_133 mw_5 mw_6 (rfl : classes[7]? = _) (by decide) k1 ⟨Nat.le_of_ble_eq_true rfl, Nat.le_of_ble_eq_true rfl⟩ rfl hl.1 rfl (Nat.le_of_ble_eq_true rfl) d_Client_takeNextMessage_21 ⟨(Nat.le_of_ble_eq_true rfl), (Nat.le_of_ble_eq_true rfl)⟩) (fun r4 H locs hp hw => ?_)
  refine lv_aload_n (pc := 24) hx hb d_Client_takeNextMessage_24 rfl (lv_at hl 1 rfl) ?_
  refine gf_Client_42 (pc := 25) hC hw k0 (Nat.ne_of_gt k1.1) d_Client_takeNextMessage_25 ?_
  refine lv_iload_n (pc := 28) hx hb d_Client_takeNextMessage_28 rfl (lv_at hl 0 rfl) ?_
  refine lv_iconst (v := 1) (pc := 29) hx hb d_Client_takeNextMessage_29 (by decide) ?_
  refine lv_iadd (pc := 30) hx hb d_Client_takeNextMessage_30 ?_
  refine call_ip (pc := 31) (fun _ h => h) hw (fm_runV (As := [.int (v2 + (1 : Int32))]) (rest := [.int r4, .ref (b + (R (R h 18) 1)), .ref (b + h)]) hC hw (c_Asm_startOf l D dA b n T R M sz (R h 18) (v2 + (1 : Int32)) _) cy_Asm_startOf hp rfl rfl mw_133 mw_5 mw_6 (rfl : classes[7]? = _) (by decide) k1 ⟨Nat.le_of_ble_eq_true rfl, Nat.le_of_ble_eq_true rfl⟩ rfl hl.1 rfl (Nat.le_of_ble_eq_true rfl) d_Client_takeNextMessage_31 ⟨(Nat.le_of_ble_eq_true rfl), (Nat.le_of_ble_eq_true rfl)⟩) (fun r5 H locs hp hw => ?_)
  refine call_vm (pc := 34) (fun _ h => h) hw (fm_runU (x := (⟨"LossyHandshake$Client", "addBytesToTranscript", "([III)V"⟩ : MethodName)) (As := [.ref (b + (R (R h 18) 1)), .int r4, .int r5]) (rest := []) hC hw (c_Side_addBytesToTranscript l D dA b n T R M sz h (R (R h 18) 1) r4 r5 _) cy_Side_addBytesToTranscript hp rfl rfl rfl mw_127 mw_128 mw_52 mw_129 (rfl : classes[8]? = _) (by decide) k0 ⟨Nat.le_of_ble_eq_true rfl, Nat.le_of_ble_eq_true rfl⟩ rfl hl.1 rfl (Nat.le_of_ble_eq_true rfl) d_Client_takeNextMessage_34 ⟨(Nat.le_of_ble_eq_true rfl), (Nat.le_of_ble_eq_true rfl)⟩) (fun M6 H locs hp hw => ?_)
  refine lv_aload_n (pc := 37) hx hb d_Client_takeNextMessage_37 rfl (lv_at hl 1 rfl) ?_
  refine gf_Client_42 (pc := 38) hC hw k0 (Nat.ne_of_gt k1.1) d_Client_takeNextMessage_38 ?_
  refine lv_iload_n (pc := 41) hx hb d_Client_takeNextMessage_41 rfl (lv_at hl 0 rfl) ?_
  refine lv_iconst (v := 1) (pc := 42) hx hb d_Client_takeNextMessage_42 (by decide) ?_
  refine lv_iadd (pc := 43) hx hb d_Client_takeNextMessage_43 ?_
  refine pf_Client_159 (pc := 44) hC hw k1 d_Client_takeNextMessage_44 (fun M7 H locs eM7 hw => ?_)
  have hp := hp M7 eM7
  refine lv_iload_n (pc := 47) hx hb d_Client_takeNextMessage_47 rfl (lv_at hl 0 rfl) ?_
  refine lv_iconst (v := 1) (pc := 48) hx hb d_Client_takeNextMessage_48 (by decide) ?_
  refine lv_icmp_ne (pc := 49) (tgt := 62) hx hb d_Client_takeNextMessage_49 rfl (fun hc => ?_) (fun hc => ?_)
  · have hp := hp.2 hc
    exact ret_vm hC hr hlk hw hp d_Client_takeNextMessage_62
  · have hp := hp.1 hc
    refine lv_aload_n (pc := 52) hx hb d_Client_takeNextMessage_52 rfl (lv_at hl 1 rfl) ?_
    refine lv_iconst (v := 2) (pc := 53) hx hb d_Client_takeNextMessage_53 (by decide) ?_
    refine pf_Client_168 (pc := 54) hC hw k0 d_Client_takeNextMessage_54 (fun M8 H locs eM8 hw => ?_)
    have hp := hp M8 eM8
    refine lv_aload_n (pc := 57) hx hb d_Client_takeNextMessage_57 rfl (lv_at hl 1 rfl) ?_
    refine lv_iconst (v := 2) (pc := 58) hx hb d_Client_takeNextMessage_58 (by decide) ?_
    refine pf_Client_171 (pc := 59) hC hw k0 d_Client_takeNextMessage_59 (fun M9 H locs eM9 hw => ?_)
    have hp := hp M9 eM9
    exact ret_vm hC hr hlk hw hp d_Client_takeNextMessage_62
set_option maxHeartbeats 4000000 in
set_option maxRecDepth 100000 in
theorem c_Client_takeFlightPiece (l : Launch) (D : va_G) (dA : Nat → ClassId) (b n : Nat) (T : mT) (R : mR) (M : mM) (sz : Nat) (h : Nat) (x1 : Nat) (Q : mM → Prop) : Met l y_Client_takeFlightPiece (Cond.code y_Client_takeFlightPiece b_Client_takeFlightPiece 3 none :: tW) ({ frames := 2, cells := 0, slots := 0, locals := 45 }) (Pm D dA b n T R M sz [.ref (b + h), .ref (b + x1)] (w_Client_takeFlightPiece n T R M h x1 Q)) (Qvm D dA (An b n) b n T R sz Q) 0 0 (An b n) := by
  refine fm_body (An b n) (by decide) (Nat.le_of_ble_eq_true rfl) (fun k h0 h1 => ⟨by omega, by omega⟩) (fun p e s m below meth c ls hC hr hlk hnm hl hw hp => ?_)
  have hx := hC.1.1
  have hb := hC.1.2.1
  have hl : lv_has ls 3 [(0, .ref (b + h)), (1, .ref (b + x1))] := hl
  generalize hav : (List.toArray ([.ref (b + h), .ref (b + x1)] : List Value)) = av at hC ⊢
  unfold w_Client_takeFlightPiece at hp
  obtain ⟨k0, hp⟩ := hp
  have L28 : ∀ (N28 : Nat) (a0 : Nat) (a2 : Int32) (M : mM)  (ls : Array Slot) (H : Heap) (locs : List Loc), ok T n a0 8 → lv_has ls 3 [(0, .ref (b + a0)), (2, .int a2)] → St D dA (An b n) b n T R M sz s.heap H locs → w_Client_takeFlightPiece_L28 n T R Q a0 N28 a2 M → W p l e ({ frames := 2, cells := 0, slots := 0, locals := 45 }) s m av below meth c H locs 0 0 (MQ below (Qvm D dA (An b n) b n T R sz Q) av s 0 0 (An b n)) (F0 m 28 ls []) := by
    intro N28
    induction N28 with
    | zero => intro a0 a2 M ls H locs f9 hl hw hp; exact False.elim hp
    | succ N28 ih28 =>
      intro a0 a2 M ls H locs f9 hl hw hp
      unfold w_Client_takeFlightPiece_L28 at hp
      refine lv_iload_n (pc := 28) hx hb d_Client_takeFlightPiece_28 rfl (lv_at hl 1 rfl) ?_
      refine lv_iconst (v := 4) (pc := 29) hx hb d_Client_takeFlightPiece_29 (by decide) ?_
      refine lv_icmp_gt (pc := 30) (tgt := 53) hx hb d_Client_takeFlightPiece_30 rfl (fun hc => ?_) (fun hc => ?_)
      · have hp := hp.1 hc
        exact ret_vm hC hr hlk hw hp d_Client_takeFlightPiece_53
      · have hp := hp.2 hc
        refine lv_aload_n (pc := 33) hx hb d_Client_takeFlightPiece_33 rfl (lv_at hl 0 rfl) ?_
        obtain ⟨k10, hp⟩ := hp
        refine gf_Client_42 (pc := 34) hC hw f9 (Nat.ne_of_gt k10.1) d_Client_takeFlightPiece_34 ?_
        refine call_zp (pc := 37) (fun _ h => h) hw (fm_runV (As := []) (rest := []) hC hw (c_Asm_hasNextMessage l D dA b n T R M sz (R a0 18) _) cy_Asm_hasNextMessage hp rfl rfl mw_146 mw_147 mw_148 (rfl : classes[7]? = _) (by decide) k10 ⟨Nat.le_of_ble_eq_true rfl, Nat.le_of_ble_eq_true rfl⟩ rfl hl.1 rfl (Nat.le_of_ble_eq_true rfl) d_Client_takeFlightPiece_37 ⟨(Nat.le_of_ble_eq_true rfl), (Nat.le_of_ble_eq_true rfl)⟩) (fun r11 H locs hp z12 hw => ?_)
        refine lv_if_eq (pc := 40) (tgt := 53) hx hb d_Client_takeFlightPiece_40 rfl (fun hc => ?_) (fun hc => ?_)
        · have hp := hp.1 hc
          exact ret_vm hC hr hlk hw hp d_Client_takeFlightPiece_53
        · have hp := hp.2 hc
          refine lv_aload_n (pc := 43) hx hb d_Client_takeFlightPiece_43 rfl (lv_at hl 0 rfl) ?_
          refine call_vm (pc := 44) (fun _ h => h) hw (fm_runV (As := []) (rest := []) hC hw (c_Client_takeNextMessage l D dA b n T R M sz a0 _) cy_Client_takeNextMessage hp rfl rfl mw_149 mw_150 mw_151 (rfl : classes[8]? = _) (by decide) f9 ⟨Nat.le_of_ble_eq_true rfl, Nat.le_of_ble_eq_true rfl⟩ rfl hl.1 rfl (Nat.le_of_ble_eq_true rfl) d_Client_takeFlightPiece_44 ⟨(Nat.le_of_ble_eq_true rfl), (Nat.le_of_ble_eq_true rfl)⟩) (fun M13 H locs hp hw => ?_)
          obtain ⟨v14, ev14⟩ : ∃ z : Int32, z = a2 + (1 : Int32) := ⟨_, rfl⟩
          have hp := hp v14 ev14
          refine lv_iinc (pc := 47) (k := 1) (v := v14) hx hb d_Client_takeFlightPiece_47 hl rfl ev14.symm (by decide) rfl (fun ls hl => ?_)
          have hl : lv_has ls 3 [(2, .int v14), (0, .ref (b + a0))] := hl
          refine lv_goto (pc := 50) (tgt := 28) hx hb d_Client_takeFlightPiece_50 rfl ?_
          exact ih28  a0 v14 M13 ls _ _ f9 (lv_sub hl [1, 0] rfl) hw hp
  refine lv_aload_n (pc := 0) hx hb d_Client_takeFlightPiece_0 rfl (lv_at hl 0 rfl) ?_
  obtain ⟨k1, hp⟩ := hp
  refine gf_Client_60 (pc := 1) hC hw k0 (Nat.ne_of_gt k1.1) d_Client_takeFlightPiece_1 ?_
  refine call_vm (pc := 4) (fun _ h => h) hw (fm_runV (As := []) (rest := []) hC hw (c_Flight_forget l D dA b n T R M sz (R h 3) _) cy_Flight_forget hp rfl rfl mw_134 mw_135 mw_136 (rfl : classes[2]? = _) (by decide) k1 ⟨Nat.le_of_ble_eq_true rfl, Nat.le_of_ble_eq_true rfl⟩ rfl hl.1 rfl (Nat.le_of_ble_eq_true rfl) d_Client_takeFlightPiece_4 ⟨(Nat.le_of_ble_eq_true rfl), (Nat.le_of_ble_eq_true rfl)⟩) (fun M2 H locs hp hw => ?_)
  refine lv_aload_n (pc := 7) hx hb d_Client_takeFlightPiece_7 rfl (lv_at hl 0 rfl) ?_
  obtain ⟨k3, hp⟩ := hp
  refine gf_Client_42 (pc := 8) hC hw k0 (Nat.ne_of_gt k3.1) d_Client_takeFlightPiece_8 ?_
  refine lv_aload_n (pc := 11) hx hb d_Client_takeFlightPiece_11 rfl (lv_at hl 1 rfl) ?_
  refine call_vm (pc := 12) (fun _ h => h) hw (fm_runV (As := [.ref (b + x1)]) (rest := []) hC hw (c_Asm_put l D dA b n T R M2 sz (R h 18) x1 _) cy_Asm_put hp rfl rfl mw_137 mw_138 mw_139 (rfl : classes[7]? = _) (by decide) k3 ⟨Nat.le_of_ble_eq_true rfl, Nat.le_of_ble_eq_true rfl⟩ rfl hl.1 rfl (Nat.le_of_ble_eq_true rfl) d_Client_takeFlightPiece_12 ⟨(Nat.le_of_ble_eq_true rfl), (Nat.le_of_ble_eq_true rfl)⟩) (fun M4 H locs hp hw => ?_)
  refine lv_aload_n (pc := 15) hx hb d_Client_takeFlightPiece_15 rfl (lv_at hl 0 rfl) ?_
  obtain ⟨k5, hp⟩ := hp
  refine gf_Client_141 (pc := 16) hC hw k0 (Nat.ne_of_gt k5.1) d_Client_takeFlightPiece_16 ?_
  refine lv_aload_n (pc := 19) hx hb d_Client_takeFlightPiece_19 rfl (lv_at hl 1 rfl) ?_
  obtain ⟨k6, hp⟩ := hp
  refine call_ip (pc := 20) (fun _ h => h) hw (fm_runV (As := []) (rest := [.ref (b + (R h 4))]) hC hw (c_Rec_name l D dA b n T R M4 sz x1 _) cy_Rec_name hp rfl rfl mw_140 mw_141 mw_142 (rfl : classes[3]? = _) (by decide) k6 ⟨Nat.le_of_ble_eq_true rfl, Nat.le_of_ble_eq_true rfl⟩ rfl hl.1 rfl (Nat.le_of_ble_eq_true rfl) d_Client_takeFlightPiece_20 ⟨(Nat.le_of_ble_eq_true rfl), (Nat.le_of_ble_eq_true rfl)⟩) (fun r7 H locs hp hw => ?_)
  refine call_vm (pc := 23) (fun _ h => h) hw (fm_runV (As := [.int r7]) (rest := []) hC hw (c_Noted_add l D dA b n T R M4 sz (R h 4) r7 _) cy_Noted_add hp rfl rfl mw_143 mw_144 mw_145 (rfl : classes[6]? = _) (by decide) k5 ⟨Nat.le_of_ble_eq_true rfl, Nat.le_of_ble_eq_true rfl⟩ rfl hl.1 rfl (Nat.le_of_ble_eq_true rfl) d_Client_takeFlightPiece_23 ⟨(Nat.le_of_ble_eq_true rfl), (Nat.le_of_ble_eq_true rfl)⟩) (fun M8 H locs hp hw => ?_)
  refine lv_iconst (v := 1) (pc := 26) hx hb d_Client_takeFlightPiece_26 (by decide) ?_
  refine lv_istore_n (pc := 27) hx hb d_Client_takeFlightPiece_27 rfl hl (by decide) rfl (fun ls hl => ?_)
  have hl : lv_has ls 3 [(2, .int (1 : Int32)), (0, .ref (b + h)), (1, .ref (b + x1))] := hl
  obtain ⟨N28, hp⟩ := hp
  exact L28 N28 h (1 : Int32) M8 ls _ _ k0 (lv_sub hl [1, 0] rfl) hw hp
set_option maxHeartbeats 4000000 in
set_option maxRecDepth 100000 in
theorem c_Client_answerFlight (l : Launch) (D : va_G) (dA : Nat → ClassId) (b n : Nat) (T : mT) (R : mR) (M : mM) (sz : Nat) (h : Nat) (Q : mM → Prop) : Met l y_Client_answerFlight (Cond.code y_Client_answerFlight b_Client_answerFlight 1 none :: tW) ({ frames := 4, cells := 0, slots := 0, locals := 94 }) (Pm D dA b n T R M sz [.ref (b + h)] (w_Client_answerFlight n T R M h Q)) (Qvm D dA (An b n) b n T R sz Q) 0 0 (An b n) := by
  refine fm_body (An b n) (by decide) (Nat.le_of_ble_eq_true rfl) (fun k h0 h1 => ⟨by omega, by omega⟩) (fun p e s m below meth c ls hC hr hlk hnm hl hw hp => ?_)
  have hx := hC.1.1
  have hb := hC.1.2.1
  have hl : lv_has ls 1 [(0, .ref (b + h))] := hl
  generalize hav : (List.toArray ([.ref (b + h)] : List Value)) = av at hC ⊢
  unfold w_Client_answerFlight at hp
  obtain ⟨k0, hp⟩ := hp
  refine lv_aload_n (pc := 0) hx hb d_Client_answerFlight_0 rfl (lv_at hl 0 rfl) ?_
  obtain ⟨k1, hp⟩ := hp
  refine gf_Client_42 (pc := 1) hC hw k0 (Nat.ne_of_gt k1.1) d_Client_answerFlight_1 ?_
  refine call_zp (pc := 4) (fun _ h => h) hw (fm_runV (As := []) (rest := []) hC hw (c_Asm_isWhole l D dA b n T R M sz (R h 18) _) cy_Asm_isWhole hp rfl rfl mw_152 mw_8 mw_9 (rfl : classes[7]? = _) (by decide) k1 ⟨Nat.le_of_ble_eq_true rfl, Nat.le_of_ble_eq_true rfl⟩ rfl hl.1 rfl (Nat.le_of_ble_eq_true rfl) d_Client_answerFlight_4 ⟨(Nat.le_of_ble_eq_true rfl), (Nat.le_of_ble_eq_true rfl)⟩) (fun r2 H locs hp z3 hw => ?_)
  refine lv_if_ne (pc := 7) (tgt := 16) hx hb d_Client_answerFlight_7 rfl (fun hc => ?_) (fun hc => ?_)
  · have hp := hp.2 hc
    refine lv_aload_n (pc := 16) hx hb d_Client_answerFlight_16 rfl (lv_at hl 0 rfl) ?_
    refine lv_iconst (v := 3) (pc := 17) hx hb d_Client_answerFlight_17 (by decide) ?_
    refine pf_Client_171 (pc := 18) hC hw k0 d_Client_answerFlight_18 (fun M5 H locs eM5 hw => ?_)
    have hp := hp M5 eM5
    refine lv_aload_n (pc := 21) hx hb d_Client_answerFlight_21 rfl (lv_at hl 0 rfl) ?_
    obtain ⟨k6, hp⟩ := hp
    refine gf_Client_23 (pc := 22) hC hw k0 (Nat.ne_of_gt k6.1) d_Client_answerFlight_22 ?_
    refine lv_iconst (v := 0) (pc := 25) hx hb d_Client_answerFlight_25 (by decide) ?_
    refine lv_aload_n (pc := 26) hx hb d_Client_answerFlight_26 rfl (lv_at hl 0 rfl) ?_
    refine gf_Client_180 (pc := 27) hC hw k0 d_Client_answerFlight_27 ?_
    refine lv_iconst (v := 1) (pc := 30) hx hb d_Client_answerFlight_30 (by decide) ?_
    refine call_ip (pc := 31) (fun _ h => h) hw (fm_runSN (As := [.int (M5 h 10), .int (1 : Int32)]) (rest := [.int (0 : Int32), .ref (b + (R h 17))]) hC hw (c_X_mix l D dA b n T R M5 sz (M5 h 10) (1 : Int32) _) cy_X_mix hp rfl rfl nw_7 mw_35 ⟨Nat.le_of_ble_eq_true rfl, Nat.le_of_ble_eq_true rfl⟩ rfl hl.1 rfl (Nat.le_of_ble_eq_true rfl) d_Client_answerFlight_31 ⟨(Nat.le_of_ble_eq_true rfl), (Nat.le_of_ble_eq_true rfl)⟩) (fun r7 H locs hp hw => ?_)
    refine call_vm (pc := 34) (fun _ h => h) hw (fm_runV (As := [.int (0 : Int32), .int r7]) (rest := []) hC hw (c_Msg_writeInt l D dA b n T R M5 sz (R h 17) (0 : Int32) r7 _) cy_Msg_writeInt hp rfl rfl mw_98 mw_99 mw_100 (rfl : classes[0]? = _) (by decide) k6 ⟨Nat.le_of_ble_eq_true rfl, Nat.le_of_ble_eq_true rfl⟩ rfl hl.1 rfl (Nat.le_of_ble_eq_true rfl) d_Client_answerFlight_34 ⟨(Nat.le_of_ble_eq_true rfl), (Nat.le_of_ble_eq_true rfl)⟩) (fun M8 H locs hp hw => ?_)
    refine lv_aload_n (pc := 37) hx hb d_Client_answerFlight_37 rfl (lv_at hl 0 rfl) ?_
    refine lv_aload_n (pc := 38) hx hb d_Client_answerFlight_38 rfl (lv_at hl 0 rfl) ?_
    refine gf_Client_23 (pc := 39) hC hw k0 (Nat.ne_of_gt k6.1) d_Client_answerFlight_39 ?_
    refine call_vm (pc := 42) (fun _ h => h) hw (fm_runV (As := [.ref (b + (R h 17))]) (rest := []) hC hw (c_Client_sendFlight l D dA b n T R M8 sz h (R h 17) _) cy_Client_sendFlight hp rfl rfl mw_101 mw_102 mw_103 (rfl : classes[8]? = _) (by decide) k0 ⟨Nat.le_of_ble_eq_true rfl, Nat.le_of_ble_eq_true rfl⟩ rfl hl.1 rfl (Nat.le_of_ble_eq_true rfl) d_Client_answerFlight_42 ⟨(Nat.le_of_ble_eq_true rfl), (Nat.le_of_ble_eq_true rfl)⟩) (fun M9 H locs hp hw => ?_)
    refine lv_aload_n (pc := 45) hx hb d_Client_answerFlight_45 rfl (lv_at hl 0 rfl) ?_
    refine lv_iconst (v := 3) (pc := 46) hx hb d_Client_answerFlight_46 (by decide) ?_
    refine pf_Client_168 (pc := 47) hC hw k0 d_Client_answerFlight_47 (fun M10 H locs eM10 hw => ?_)
    have hp := hp M10 eM10
    refine lv_aload_n (pc := 50) hx hb d_Client_answerFlight_50 rfl (lv_at hl 0 rfl) ?_
    refine lv_iconst (v := 3) (pc := 51) hx hb d_Client_answerFlight_51 (by decide) ?_
    refine call_vm (pc := 52) (fun _ h => h) hw (fm_runU (x := (⟨"LossyHandshake$Client", "enter", "(I)V"⟩ : MethodName)) (As := [.int (3 : Int32)]) (rest := []) hC hw (c_Side_enter l D dA b n T R M10 sz h (3 : Int32) _) cy_Side_enter hp rfl rfl rfl mw_104 mw_105 mw_106 mw_107 (rfl : classes[8]? = _) (by decide) k0 ⟨Nat.le_of_ble_eq_true rfl, Nat.le_of_ble_eq_true rfl⟩ rfl hl.1 rfl (Nat.le_of_ble_eq_true rfl) d_Client_answerFlight_52 ⟨(Nat.le_of_ble_eq_true rfl), (Nat.le_of_ble_eq_true rfl)⟩) (fun M11 H locs hp hw => ?_)
    exact ret_vm hC hr hlk hw hp d_Client_answerFlight_55
  · have hp := hp.1 hc
    refine lv_aload_n (pc := 10) hx hb d_Client_answerFlight_10 rfl (lv_at hl 0 rfl) ?_
    refine lv_iconst (v := 2) (pc := 11) hx hb d_Client_answerFlight_11 (by decide) ?_
    refine pf_Client_177 (pc := 12) hC hw k0 d_Client_answerFlight_12 (fun M4 H locs eM4 hw => ?_)
    have hp := hp M4 eM4
    exact ret_vm hC hr hlk hw hp d_Client_answerFlight_15
set_option maxHeartbeats 4000000 in
set_option maxRecDepth 100000 in
theorem c_Client_accept (l : Launch) (D : va_G) (dA : Nat → ClassId) (b n : Nat) (T : mT) (R : mR) (M : mM) (sz : Nat) (h : Nat) (x1 : Nat) (Q : Int32 → mM → Prop) : Met l y_Client_accept (Cond.code y_Client_accept b_Client_accept 2 (some .boolean) :: tW) ({ frames := 5, cells := 0, slots := 0, locals := 115 }) (Pm D dA b n T R M sz [.ref (b + h), .ref (b + x1)] (w_Client_accept n T R M h x1 Q)) (Qzm D dA (An b n) b n T R sz Q) 0 0 (An b n) := by
  refine fm_body (An b n) (by decide) (Nat.le_of_ble_eq_true rfl) (fun k h0 h1 => ⟨by omega, by omega⟩) (fun p e s m below meth c ls hC hr hlk hnm hl hw hp => ?_)
  have hx := hC.1.1
  have hb := hC.1.2.1
  have hl : lv_has ls 2 [(0, .ref (b + h)), (1, .ref (b + x1))] := hl
  generalize hav : (List.toArray ([.ref (b + h), .ref (b + x1)] : List Value)) = av at hC ⊢
  unfold w_Client_accept at hp
  obtain ⟨k0, hp⟩ := hp
  refine lv_aload_n (pc := 0) hx hb d_Client_accept_0 rfl (lv_at hl 0 rfl) ?_
  refine lv_aload_n (pc := 1) hx hb d_Client_accept_1 rfl (lv_at hl 1 rfl) ?_
  refine call_zp (pc := 2) (fun _ h => h) hw (fm_runU (x := (⟨"LossyHandshake$Client", "throwsAway", "(LLossyHandshake$NetRecord;)Z"⟩ : MethodName)) (As := [.ref (b + x1)]) (rest := []) hC hw (c_Side_throwsAway l D dA b n T R M sz h x1 _) cy_Side_throwsAway hp rfl rfl rfl mw_153 mw_154 mw_155 mw_156 (rfl : classes[8]? = _) (by decide) k0 ⟨Nat.le_of_ble_eq_true rfl, Nat.le_of_ble_eq_true rfl⟩ rfl hl.1 rfl (Nat.le_of_ble_eq_true rfl) d_Client_accept_2 ⟨(Nat.le_of_ble_eq_true rfl), (Nat.le_of_ble_eq_true rfl)⟩) (fun r1 H locs hp z2 hw => ?_)
  refine lv_if_eq (pc := 5) (tgt := 10) hx hb d_Client_accept_5 rfl (fun hc => ?_) (fun hc => ?_)
  · have hp := hp.1 hc
    refine lv_aload_n (pc := 10) hx hb d_Client_accept_10 rfl (lv_at hl 0 rfl) ?_
    refine lv_aload_n (pc := 11) hx hb d_Client_accept_11 rfl (lv_at hl 1 rfl) ?_
    refine call_vm (pc := 12) (fun _ h => h) hw (fm_runU (x := (⟨"LossyHandshake$Client", "letIn", "(LLossyHandshake$NetRecord;)V"⟩ : MethodName)) (As := [.ref (b + x1)]) (rest := []) hC hw (c_Side_letIn l D dA b n T R M sz h x1 _) cy_Side_letIn hp rfl rfl rfl mw_157 mw_158 mw_159 mw_160 (rfl : classes[8]? = _) (by decide) k0 ⟨Nat.le_of_ble_eq_true rfl, Nat.le_of_ble_eq_true rfl⟩ rfl hl.1 rfl (Nat.le_of_ble_eq_true rfl) d_Client_accept_12 ⟨(Nat.le_of_ble_eq_true rfl), (Nat.le_of_ble_eq_true rfl)⟩) (fun M3 H locs hp hw => ?_)
    refine lv_aload_n (pc := 15) hx hb d_Client_accept_15 rfl (lv_at hl 1 rfl) ?_
    obtain ⟨k4, hp⟩ := hp
    refine gf_Client_88 (pc := 16) hC hw k4 d_Client_accept_16 ?_
    refine lv_iconst (v := 1) (pc := 19) hx hb d_Client_accept_19 (by decide) ?_
    refine lv_icmp_ne (pc := 20) (tgt := 31) hx hb d_Client_accept_20 rfl (fun hc => ?_) (fun hc => ?_)
    · have hp := hp.2 hc
      refine lv_aload_n (pc := 31) hx hb d_Client_accept_31 rfl (lv_at hl 1 rfl) ?_
      refine gf_Client_88 (pc := 32) hC hw k4 d_Client_accept_32 ?_
      refine lv_iconst (v := 2) (pc := 35) hx hb d_Client_accept_35 (by decide) ?_
      refine lv_icmp_ne (pc := 36) (tgt := 52) hx hb d_Client_accept_36 rfl (fun hc => ?_) (fun hc => ?_)
      · have hp := hp.2 hc
        refine lv_aload_n (pc := 52) hx hb d_Client_accept_52 rfl (lv_at hl 1 rfl) ?_
        refine gf_Client_103 (pc := 53) hC hw k4 d_Client_accept_53 ?_
        refine lv_if_ne (pc := 56) (tgt := 67) hx hb d_Client_accept_56 rfl (fun hc => ?_) (fun hc => ?_)
        · have hp := hp.2 hc
          refine lv_aload_n (pc := 67) hx hb d_Client_accept_67 rfl (lv_at hl 0 rfl) ?_
          refine gf_Client_109 (pc := 68) hC hw k0 d_Client_accept_68 ?_
          refine lv_iconst (v := 2) (pc := 71) hx hb d_Client_accept_71 (by decide) ?_
          refine lv_icmp_ne (pc := 72) (tgt := 84) hx hb d_Client_accept_72 rfl (fun hc => ?_) (fun hc => ?_)
          · have hp := hp.2 hc
            refine lv_iconst (v := 1) (pc := 84) hx hb d_Client_accept_84 (by decide) ?_
            exact ret_zm hC hr hlk hw (Or.inr rfl) hp d_Client_accept_85
          · have hp := hp.1 hc
            refine lv_aload_n (pc := 75) hx hb d_Client_accept_75 rfl (lv_at hl 0 rfl) ?_
            refine lv_aload_n (pc := 76) hx hb d_Client_accept_76 rfl (lv_at hl 1 rfl) ?_
            refine call_vm (pc := 77) (fun _ h => h) hw (fm_runV (As := [.ref (b + x1)]) (rest := []) hC hw (c_Client_takeFlightPiece l D dA b n T R M3 sz h x1 _) cy_Client_takeFlightPiece hp rfl rfl mw_171 mw_172 mw_173 (rfl : classes[8]? = _) (by decide) k0 ⟨Nat.le_of_ble_eq_true rfl, Nat.le_of_ble_eq_true rfl⟩ rfl hl.1 rfl (Nat.le_of_ble_eq_true rfl) d_Client_accept_77 ⟨(Nat.le_of_ble_eq_true rfl), (Nat.le_of_ble_eq_true rfl)⟩) (fun M10 H locs hp hw => ?_)
            refine lv_aload_n (pc := 80) hx hb d_Client_accept_80 rfl (lv_at hl 0 rfl) ?_
            refine call_vm (pc := 81) (fun _ h => h) hw (fm_runV (As := []) (rest := []) hC hw (c_Client_answerFlight l D dA b n T R M10 sz h _) cy_Client_answerFlight hp rfl rfl mw_174 mw_175 mw_176 (rfl : classes[8]? = _) (by decide) k0 ⟨Nat.le_of_ble_eq_true rfl, Nat.le_of_ble_eq_true rfl⟩ rfl hl.1 rfl (Nat.le_of_ble_eq_true rfl) d_Client_accept_81 ⟨(Nat.le_of_ble_eq_true rfl), (Nat.le_of_ble_eq_true rfl)⟩) (fun M11 H locs hp hw => ?_)
            refine lv_iconst (v := 1) (pc := 84) hx hb d_Client_accept_84 (by decide) ?_
            exact ret_zm hC hr hlk hw (Or.inr rfl) hp d_Client_accept_85
        · have hp := hp.1 hc
          refine lv_aload_n (pc := 59) hx hb d_Client_accept_59 rfl (lv_at hl 0 rfl) ?_
          refine lv_aload_n (pc := 60) hx hb d_Client_accept_60 rfl (lv_at hl 1 rfl) ?_
          refine call_vm (pc := 61) (fun _ h => h) hw (fm_runV (As := [.ref (b + x1)]) (rest := []) hC hw (c_Client_takeRetry l D dA b n T R M3 sz h x1 _) cy_Client_takeRetry hp rfl rfl mw_168 mw_169 mw_170 (rfl : classes[8]? = _) (by decide) k0 ⟨Nat.le_of_ble_eq_true rfl, Nat.le_of_ble_eq_true rfl⟩ rfl hl.1 rfl (Nat.le_of_ble_eq_true rfl) d_Client_accept_61 ⟨(Nat.le_of_ble_eq_true rfl), (Nat.le_of_ble_eq_true rfl)⟩) (fun M9 H locs hp hw => ?_)
          refine lv_goto (pc := 64) (tgt := 84) hx hb d_Client_accept_64 rfl ?_
          refine lv_iconst (v := 1) (pc := 84) hx hb d_Client_accept_84 (by decide) ?_
          exact ret_zm hC hr hlk hw (Or.inr rfl) hp d_Client_accept_85
      · have hp := hp.1 hc
        refine lv_aload_n (pc := 39) hx hb d_Client_accept_39 rfl (lv_at hl 0 rfl) ?_
        refine lv_aload_n (pc := 40) hx hb d_Client_accept_40 rfl (lv_at hl 1 rfl) ?_
        obtain ⟨k6, hp⟩ := hp
        refine gf_Client_96 (pc := 41) hC hw k4 (Nat.ne_of_gt k6.1) d_Client_accept_41 ?_
        refine lv_iconst (v := 0) (pc := 44) hx hb d_Client_accept_44 (by decide) ?_
        obtain ⟨k7, hp⟩ := hp
        refine fm_iald (pc := 45) hC hw k6 k7 (show Int32.toNatClampNeg (0 : Int32) = 0 by decide) d_Client_accept_45 ?_
        refine call_vm (pc := 46) (fun _ h => h) hw (fm_runU (x := (⟨"LossyHandshake$Client", "keepValue", "(I)V"⟩ : MethodName)) (As := [.int (M3 (R x1 0) 0)]) (rest := []) hC hw (c_Side_keepValue l D dA b n T R M3 sz h (M3 (R x1 0) 0) _) cy_Side_keepValue hp rfl rfl rfl mw_164 mw_165 mw_166 mw_167 (rfl : classes[8]? = _) (by decide) k0 ⟨Nat.le_of_ble_eq_true rfl, Nat.le_of_ble_eq_true rfl⟩ rfl hl.1 rfl (Nat.le_of_ble_eq_true rfl) d_Client_accept_46 ⟨(Nat.le_of_ble_eq_true rfl), (Nat.le_of_ble_eq_true rfl)⟩) (fun M8 H locs hp hw => ?_)
        refine lv_goto (pc := 49) (tgt := 84) hx hb d_Client_accept_49 rfl ?_
        refine lv_iconst (v := 1) (pc := 84) hx hb d_Client_accept_84 (by decide) ?_
        exact ret_zm hC hr hlk hw (Or.inr rfl) hp d_Client_accept_85
    · have hp := hp.1 hc
      refine lv_aload_n (pc := 23) hx hb d_Client_accept_23 rfl (lv_at hl 0 rfl) ?_
      refine lv_aload_n (pc := 24) hx hb d_Client_accept_24 rfl (lv_at hl 1 rfl) ?_
      refine call_vm (pc := 25) (fun _ h => h) hw (fm_runV (As := [.ref (b + x1)]) (rest := []) hC hw (c_Client_takeAck l D dA b n T R M3 sz h x1 _) cy_Client_takeAck hp rfl rfl mw_161 mw_162 mw_163 (rfl : classes[8]? = _) (by decide) k0 ⟨Nat.le_of_ble_eq_true rfl, Nat.le_of_ble_eq_true rfl⟩ rfl hl.1 rfl (Nat.le_of_ble_eq_true rfl) d_Client_accept_25 ⟨(Nat.le_of_ble_eq_true rfl), (Nat.le_of_ble_eq_true rfl)⟩) (fun M5 H locs hp hw => ?_)
      refine lv_goto (pc := 28) (tgt := 84) hx hb d_Client_accept_28 rfl ?_
      refine lv_iconst (v := 1) (pc := 84) hx hb d_Client_accept_84 (by decide) ?_
      exact ret_zm hC hr hlk hw (Or.inr rfl) hp d_Client_accept_85
  · have hp := hp.2 hc
    refine lv_iconst (v := 0) (pc := 8) hx hb d_Client_accept_8 (by decide) ?_
    exact ret_zm hC hr hlk hw (Or.inl rfl) hp d_Client_accept_9
set_option maxHeartbeats 4000000 in
set_option maxRecDepth 100000 in
theorem c_Flight_waitTwiceAsLong (l : Launch) (D : va_G) (dA : Nat → ClassId) (b n : Nat) (T : mT) (R : mR) (M : mM) (sz : Nat) (h : Nat) (Q : mM → Prop) : Met l y_Flight_waitTwiceAsLong (Cond.code y_Flight_waitTwiceAsLong b_Flight_waitTwiceAsLong 1 none :: tW) ({ frames := 1, cells := 0, slots := 0, locals := 14 }) (Pm D dA b n T R M sz [.ref (b + h)] (w_Flight_waitTwiceAsLong n T R M h Q)) (Qvm D dA (An b n) b n T R sz Q) 0 0 (An b n) := by
  refine fm_body (An b n) (by decide) (Nat.le_of_ble_eq_true rfl) (fun k h0 h1 => ⟨by omega, by omega⟩) (fun p e s m below meth c ls hC hr hlk hnm hl hw hp => ?_)
  have hx := hC.1.1
  have hb := hC.1.2.1
  have hl : lv_has ls 1 [(0, .ref (b + h))] := hl
  generalize hav : (List.toArray ([.ref (b + h)] : List Value)) = av at hC ⊢
  unfold w_Flight_waitTwiceAsLong at hp
  obtain ⟨k0, hp⟩ := hp
  refine lv_aload_n (pc := 0) hx hb d_Flight_waitTwiceAsLong_0 rfl (lv_at hl 0 rfl) ?_
  refine lv_iconst (v := 2) (pc := 1) hx hb d_Flight_waitTwiceAsLong_1 (by decide) ?_
  refine lv_aload_n (pc := 2) hx hb d_Flight_waitTwiceAsLong_2 rfl (lv_at hl 0 rfl) ?_
  refine gf_Flight_22 (pc := 3) hC hw k0 d_Flight_waitTwiceAsLong_3 ?_
  refine lv_imul (pc := 6) hx hb d_Flight_waitTwiceAsLong_6 ?_
  refine lv_bipush (v := 32) (pc := 7) hx hb d_Flight_waitTwiceAsLong_7 (by decide) ?_
  refine va_mmin (pc := 9) hx hb (hC.1.2.2.1.trans hl.1.symm) hC.1.2.2.2.1 (hC.1.2.2.2.2 _ mw_177) (hC.1.2.2.2.2 _ mw_56) (hC.1.2.2.2.2 _ mw_57) (hC.1.2.2.2.2 _ mw_58) (Nat.le_of_ble_eq_true rfl) (Nat.le_of_ble_eq_true rfl) (Nat.le_of_ble_eq_true rfl) (Nat.le_of_ble_eq_true rfl) d_Flight_waitTwiceAsLong_9 ?_
  refine pf_Flight_22 (pc := 12) hC hw k0 d_Flight_waitTwiceAsLong_12 (fun M1 H locs eM1 hw => ?_)
  have hp := hp M1 eM1
  refine lv_aload_n (pc := 15) hx hb d_Flight_waitTwiceAsLong_15 rfl (lv_at hl 0 rfl) ?_
  refine lv_aload_n (pc := 16) hx hb d_Flight_waitTwiceAsLong_16 rfl (lv_at hl 0 rfl) ?_
  refine gf_Flight_22 (pc := 17) hC hw k0 d_Flight_waitTwiceAsLong_17 ?_
  refine pf_Flight_25 (pc := 20) hC hw k0 d_Flight_waitTwiceAsLong_20 (fun M2 H locs eM2 hw => ?_)
  have hp := hp M2 eM2
  refine lv_aload_n (pc := 23) hx hb d_Flight_waitTwiceAsLong_23 rfl (lv_at hl 0 rfl) ?_
  refine lv_dup (pc := 24) hx hb d_Flight_waitTwiceAsLong_24 rfl ?_
  refine gf_Flight_28 (pc := 25) hC hw k0 d_Flight_waitTwiceAsLong_25 ?_
  refine lv_iconst (v := 1) (pc := 28) hx hb d_Flight_waitTwiceAsLong_28 (by decide) ?_
  refine lv_iadd (pc := 29) hx hb d_Flight_waitTwiceAsLong_29 ?_
  refine pf_Flight_28 (pc := 30) hC hw k0 d_Flight_waitTwiceAsLong_30 (fun M3 H locs eM3 hw => ?_)
  have hp := hp M3 eM3
  exact ret_vm hC hr hlk hw hp d_Flight_waitTwiceAsLong_33
set_option maxHeartbeats 4000000 in
set_option maxRecDepth 100000 in
theorem c_Flight_hasWaited (l : Launch) (D : va_G) (dA : Nat → ClassId) (b n : Nat) (T : mT) (R : mR) (M : mM) (sz : Nat) (h : Nat) (Q : Int32 → mM → Prop) : Met l y_Flight_hasWaited (Cond.code y_Flight_hasWaited b_Flight_hasWaited 1 (some .boolean) :: tW) ({ frames := 1, cells := 0, slots := 0, locals := 22 }) (Pm D dA b n T R M sz [.ref (b + h)] (w_Flight_hasWaited n T R M h Q)) (Qzm D dA (An b n) b n T R sz Q) 0 0 (An b n) := by
  refine fm_body (An b n) (by decide) (Nat.le_of_ble_eq_true rfl) (fun k h0 h1 => ⟨by omega, by omega⟩) (fun p e s m below meth c ls hC hr hlk hnm hl hw hp => ?_)
  have hx := hC.1.1
  have hb := hC.1.2.1
  have hl : lv_has ls 1 [(0, .ref (b + h))] := hl
  generalize hav : (List.toArray ([.ref (b + h)] : List Value)) = av at hC ⊢
  unfold w_Flight_hasWaited at hp
  obtain ⟨k0, hp⟩ := hp
  refine lv_aload_n (pc := 0) hx hb d_Flight_hasWaited_0 rfl (lv_at hl 0 rfl) ?_
  refine call_ip (pc := 1) (fun _ h => h) hw (fm_runV (As := []) (rest := []) hC hw (c_Flight_countOpen l D dA b n T R M sz h _) cy_Flight_countOpen hp rfl rfl mw_178 mw_125 mw_126 (rfl : classes[2]? = _) (by decide) k0 ⟨Nat.le_of_ble_eq_true rfl, Nat.le_of_ble_eq_true rfl⟩ rfl hl.1 rfl (Nat.le_of_ble_eq_true rfl) d_Flight_hasWaited_1 ⟨(Nat.le_of_ble_eq_true rfl), (Nat.le_of_ble_eq_true rfl)⟩) (fun r1 H locs hp hw => ?_)
  refine lv_if_ne (pc := 4) (tgt := 9) hx hb d_Flight_hasWaited_4 rfl (fun hc => ?_) (fun hc => ?_)
  · have hp := hp.2 hc
    refine lv_aload_n (pc := 9) hx hb d_Flight_hasWaited_9 rfl (lv_at hl 0 rfl) ?_
    refine lv_dup (pc := 10) hx hb d_Flight_hasWaited_10 rfl ?_
    refine gf_Flight_25 (pc := 11) hC hw k0 d_Flight_hasWaited_11 ?_
    refine lv_iconst (v := 1) (pc := 14) hx hb d_Flight_hasWaited_14 (by decide) ?_
    refine lv_isub (pc := 15) hx hb d_Flight_hasWaited_15 ?_
    refine pf_Flight_25 (pc := 16) hC hw k0 d_Flight_hasWaited_16 (fun M2 H locs eM2 hw => ?_)
    have hp := hp M2 eM2
    refine lv_aload_n (pc := 19) hx hb d_Flight_hasWaited_19 rfl (lv_at hl 0 rfl) ?_
    refine gf_Flight_25 (pc := 20) hC hw k0 d_Flight_hasWaited_20 ?_
    refine lv_if_gt (pc := 23) (tgt := 30) hx hb d_Flight_hasWaited_23 rfl (fun hc => ?_) (fun hc => ?_)
    · have hp := hp.1 hc
      refine lv_iconst (v := 0) (pc := 30) hx hb d_Flight_hasWaited_30 (by decide) ?_
      exact ret_zm hC hr hlk hw (Or.inl rfl) hp d_Flight_hasWaited_31
    · have hp := hp.2 hc
      refine lv_iconst (v := 1) (pc := 26) hx hb d_Flight_hasWaited_26 (by decide) ?_
      refine lv_goto (pc := 27) (tgt := 31) hx hb d_Flight_hasWaited_27 rfl ?_
      exact ret_zm hC hr hlk hw (Or.inr rfl) hp d_Flight_hasWaited_31
  · have hp := hp.1 hc
    refine lv_iconst (v := 0) (pc := 7) hx hb d_Flight_hasWaited_7 (by decide) ?_
    exact ret_zm hC hr hlk hw (Or.inl rfl) hp d_Flight_hasWaited_8
set_option maxHeartbeats 4000000 in
set_option maxRecDepth 100000 in
theorem c_Msg_writeMixes (l : Launch) (D : va_G) (dA : Nat → ClassId) (b n : Nat) (T : mT) (R : mR) (M : mM) (sz : Nat) (h : Nat) (x1 : Int32) (Q : mM → Prop) : Met l y_Msg_writeMixes (Cond.code y_Msg_writeMixes b_Msg_writeMixes 3 none :: tW) ({ frames := 1, cells := 0, slots := 0, locals := 22 }) (Pm D dA b n T R M sz [.ref (b + h), .int x1] (w_Msg_writeMixes n T R M h x1 Q)) (Qvm D dA (An b n) b n T R sz Q) 0 0 (An b n) := by
  refine fm_body (An b n) (by decide) (Nat.le_of_ble_eq_true rfl) (fun k h0 h1 => ⟨by omega, by omega⟩) (fun p e s m below meth c ls hC hr hlk hnm hl hw hp => ?_)
  have hx := hC.1.1
  have hb := hC.1.2.1
  have hl : lv_has ls 3 [(0, .ref (b + h)), (1, .int x1)] := hl
  generalize hav : (List.toArray ([.ref (b + h), .int x1] : List Value)) = av at hC ⊢
  unfold w_Msg_writeMixes at hp
  obtain ⟨k0, hp⟩ := hp
  have L2 : ∀ (N2 : Nat) (a0 : Nat) (a1 : Int32) (a2 : Int32) (M : mM)  (ls : Array Slot) (H : Heap) (locs : List Loc), ok T n a0 0 → lv_has ls 3 [(0, .ref (b + a0)), (1, .int a1), (2, .int a2)] → St D dA (An b n) b n T R M sz s.heap H locs → w_Msg_writeMixes_L2 n T R Q a0 a1 N2 a2 M → W p l e ({ frames := 1, cells := 0, slots := 0, locals := 22 }) s m av below meth c H locs 0 0 (MQ below (Qvm D dA (An b n) b n T R sz Q) av s 0 0 (An b n)) (F0 m 2 ls []) := by
    intro N2
    induction N2 with
    | zero => intro a0 a1 a2 M ls H locs f1 hl hw hp; exact False.elim hp
    | succ N2 ih2 =>
      intro a0 a1 a2 M ls H locs f1 hl hw hp
      unfold w_Msg_writeMixes_L2 at hp
      refine lv_iload_n (pc := 2) hx hb d_Msg_writeMixes_2 rfl (lv_at hl 2 rfl) ?_
      refine lv_aload_n (pc := 3) hx hb d_Msg_writeMixes_3 rfl (lv_at hl 0 rfl) ?_
      obtain ⟨k2, hp⟩ := hp
      refine gf_Msg_18 (pc := 4) hC hw f1 (Nat.ne_of_gt k2.1) d_Msg_writeMixes_4 ?_
      refine fm_alen (pc := 7) (t0 := 0) hC hw k2 rfl (by decide) d_Msg_writeMixes_7 ?_
      refine lv_icmp_ge (pc := 8) (tgt := 32) hx hb d_Msg_writeMixes_8 rfl (fun hc => ?_) (fun hc => ?_)
      · have hp := hp.1 hc
        exact ret_vm hC hr hlk hw hp d_Msg_writeMixes_32
      · have hp := hp.2 hc
        refine lv_aload_n (pc := 11) hx hb d_Msg_writeMixes_11 rfl (lv_at hl 0 rfl) ?_
        refine gf_Msg_18 (pc := 12) hC hw f1 (Nat.ne_of_gt k2.1) d_Msg_writeMixes_12 ?_
        refine lv_iload_n (pc := 15) hx hb d_Msg_writeMixes_15 rfl (lv_at hl 2 rfl) ?_
        refine lv_iload_n (pc := 16) hx hb d_Msg_writeMixes_16 rfl (lv_at hl 1 rfl) ?_
        refine lv_iload_n (pc := 17) hx hb d_Msg_writeMixes_17 rfl (lv_at hl 2 rfl) ?_
        refine call_ip (pc := 18) (fun _ h => h) hw (fm_runSN (As := [.int a1, .int a2]) (rest := [.int a2, .ref (b + (R a0 2))]) hC hw (c_X_mix l D dA b n T R M sz a1 a2 _) cy_X_mix hp rfl rfl nw_8 mw_35 ⟨Nat.le_of_ble_eq_true rfl, Nat.le_of_ble_eq_true rfl⟩ rfl hl.1 rfl (Nat.le_of_ble_eq_true rfl) d_Msg_writeMixes_18 ⟨(Nat.le_of_ble_eq_true rfl), (Nat.le_of_ble_eq_true rfl)⟩) (fun r3 H locs hp hw => ?_)
        refine lv_sipush (v := 255) (pc := 21) hx hb d_Msg_writeMixes_21 (by decide) ?_
        refine lv_iand (pc := 24) hx hb d_Msg_writeMixes_24 ?_
        obtain ⟨k4, hp⟩ := hp
        refine fm_iast (pc := 25) hC hw k2 k4 rfl d_Msg_writeMixes_25 (fun M5 H locs eM5 hw => ?_)
        have hp := hp M5 eM5
        obtain ⟨v6, ev6⟩ : ∃ z : Int32, z = a2 + (1 : Int32) := ⟨_, rfl⟩
        have hp := hp v6 ev6
        refine lv_iinc (pc := 26) (k := 2) (v := v6) hx hb d_Msg_writeMixes_26 hl rfl ev6.symm (by decide) rfl (fun ls hl => ?_)
        have hl : lv_has ls 3 [(2, .int v6), (0, .ref (b + a0)), (1, .int a1)] := hl
        refine lv_goto (pc := 29) (tgt := 2) hx hb d_Msg_writeMixes_29 rfl ?_
        exact ih2  a0 a1 v6 M5 ls _ _ f1 (lv_sub hl [1, 2, 0] rfl) hw hp
  refine lv_iconst (v := 0) (pc := 0) hx hb d_Msg_writeMixes_0 (by decide) ?_
  refine lv_istore_n (pc := 1) hx hb d_Msg_writeMixes_1 rfl hl (by decide) rfl (fun ls hl => ?_)
  have hl : lv_has ls 3 [(2, .int (0 : Int32)), (0, .ref (b + h)), (1, .int x1)] := hl
  obtain ⟨N2, hp⟩ := hp
  exact L2 N2 h x1 (0 : Int32) M ls _ _ k0 (lv_sub hl [1, 2, 0] rfl) hw hp
