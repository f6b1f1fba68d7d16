set_option maxHeartbeats 4000000 in
set_option maxRecDepth 100000 in
theorem c_Mo_sendAck (l : Launch) (D : va_G) (dA : Nat → ClassId) (b n : Nat) (T : mT) (R : mR) (M : mM) (sz : Nat) (h : Nat) (x1 : Int32) (Q : mM → Prop) : Met l y_Mo_sendAck (Cond.code y_Mo_sendAck b_Mo_sendAck 6 none :: tW) ({ frames := 1, cells := 0, slots := 0, locals := 24 }) (Pm D dA b n T R M sz [.ref (b + h), .int x1] (w_Mo_sendAck n T R M h x1 Q)) (Qvm D dA (An b n) b n T R sz Q) 0 0 (An b n) := by
  refine fm_body (An b n) (by decide) (Nat.le_of_ble_eq_true rfl) (fun k h0 h1 => ⟨by omega, by omega⟩) (fun p e s m below meth c ls hC hr hlk hnm hl hw hp => ?_)
  have hx := hC.1.1
  have hb := hC.1.2.1
  have hl : lv_has ls 6 [(0, .ref (b + h)), (1, .int x1)] := hl
  generalize hav : (List.toArray ([.ref (b + h), .int x1] : List Value)) = av at hC ⊢
  unfold w_Mo_sendAck at hp
  obtain ⟨k0, hp⟩ := hp
  have L85 : ∀ (N85 : Nat) (a0 : Nat) (a1 : Int32) (a4 : Int32) (a5 : Int32) (M : mM)  (ls : Array Slot) (H : Heap) (locs : List Loc), ok T n a0 11 → lv_has ls 6 [(0, .ref (b + a0)), (1, .int a1), (4, .int a4), (5, .int a5)] → St D dA (An b n) b n T R M sz s.heap H locs → w_Mo_sendAck_L85 n T R Q a0 a1 a4 N85 a5 M → W p l e ({ frames := 1, cells := 0, slots := 0, locals := 24 }) s m av below meth c H locs 0 0 (MQ below (Qvm D dA (An b n) b n T R sz Q) av s 0 0 (An b n)) (F0 m 85 ls []) := by
    intro N85
    induction N85 with
    | zero => intro a0 a1 a4 a5 M ls H locs f19 hl hw hp; exact False.elim hp
    | succ N85 ih85 =>
      intro a0 a1 a4 a5 M ls H locs f19 hl hw hp
      unfold w_Mo_sendAck_L85 at hp
      refine lv_iload (pc := 85) hx hb d_Mo_sendAck_85 (lv_at hl 3 rfl) ?_
      refine lv_aload_n (pc := 87) hx hb d_Mo_sendAck_87 rfl (lv_at hl 0 rfl) ?_
      obtain ⟨k20, hp⟩ := hp
      refine gf_Mo_56 (pc := 88) hC hw f19 (Nat.ne_of_gt k20.1) d_Mo_sendAck_88 ?_
      refine lv_iload_n (pc := 91) hx hb d_Mo_sendAck_91 rfl (lv_at hl 1 rfl) ?_
      obtain ⟨k21, hp⟩ := hp
      refine fm_iald (pc := 92) hC hw k20 k21 rfl d_Mo_sendAck_92 ?_
      refine lv_icmp_ge (pc := 93) (tgt := 152) hx hb d_Mo_sendAck_93 rfl (fun hc => ?_) (fun hc => ?_)
      · have hp := hp.1 hc
        exact ret_vm hC hr hlk hw hp d_Mo_sendAck_152
      · have hp := hp.2 hc
        refine lv_aload_n (pc := 96) hx hb d_Mo_sendAck_96 rfl (lv_at hl 0 rfl) ?_
        obtain ⟨k22, hp⟩ := hp
        refine gf_Mo_35 (pc := 97) hC hw f19 (Nat.ne_of_gt k22.1) d_Mo_sendAck_97 ?_
        refine lv_bipush (v := 8) (pc := 100) hx hb d_Mo_sendAck_100 (by decide) ?_
        refine lv_iload (pc := 102) hx hb d_Mo_sendAck_102 (lv_at hl 2 rfl) ?_
        refine lv_imul (pc := 104) hx hb d_Mo_sendAck_104 ?_
        refine lv_iload (pc := 105) hx hb d_Mo_sendAck_105 (lv_at hl 3 rfl) ?_
        refine lv_iadd (pc := 107) hx hb d_Mo_sendAck_107 ?_
        refine lv_aload_n (pc := 108) hx hb d_Mo_sendAck_108 rfl (lv_at hl 0 rfl) ?_
        obtain ⟨k23, hp⟩ := hp
        refine gf_Mo_59 (pc := 109) hC hw f19 (Nat.ne_of_gt k23.1) d_Mo_sendAck_109 ?_
        refine lv_bipush (v := 8) (pc := 112) hx hb d_Mo_sendAck_112 (by decide) ?_
        refine lv_iload_n (pc := 114) hx hb d_Mo_sendAck_114 rfl (lv_at hl 1 rfl) ?_
        refine lv_imul (pc := 115) hx hb d_Mo_sendAck_115 ?_
        refine lv_iload (pc := 116) hx hb d_Mo_sendAck_116 (lv_at hl 3 rfl) ?_
        refine lv_iadd (pc := 118) hx hb d_Mo_sendAck_118 ?_
        obtain ⟨k24, hp⟩ := hp
        refine fm_iald (pc := 119) hC hw k23 k24 rfl d_Mo_sendAck_119 ?_
        obtain ⟨k25, hp⟩ := hp
        refine fm_iast (pc := 120) hC hw k22 k25 rfl d_Mo_sendAck_120 (fun M26 H locs eM26 hw => ?_)
        have hp := hp M26 eM26
        refine lv_aload_n (pc := 121) hx hb d_Mo_sendAck_121 rfl (lv_at hl 0 rfl) ?_
        obtain ⟨k27, hp⟩ := hp
        refine gf_Mo_38 (pc := 122) hC hw f19 (Nat.ne_of_gt k27.1) d_Mo_sendAck_122 ?_
        refine lv_bipush (v := 8) (pc := 125) hx hb d_Mo_sendAck_125 (by decide) ?_
        refine lv_iload (pc := 127) hx hb d_Mo_sendAck_127 (lv_at hl 2 rfl) ?_
        refine lv_imul (pc := 129) hx hb d_Mo_sendAck_129 ?_
        refine lv_iload (pc := 130) hx hb d_Mo_sendAck_130 (lv_at hl 3 rfl) ?_
        refine lv_iadd (pc := 132) hx hb d_Mo_sendAck_132 ?_
        refine lv_aload_n (pc := 133) hx hb d_Mo_sendAck_133 rfl (lv_at hl 0 rfl) ?_
        obtain ⟨k28, hp⟩ := hp
        refine gf_Mo_62 (pc := 134) hC hw f19 (Nat.ne_of_gt k28.1) d_Mo_sendAck_134 ?_
        refine lv_bipush (v := 8) (pc := 137) hx hb d_Mo_sendAck_137 (by decide) ?_
        refine lv_iload_n (pc := 139) hx hb d_Mo_sendAck_139 rfl (lv_at hl 1 rfl) ?_
        refine lv_imul (pc := 140) hx hb d_Mo_sendAck_140 ?_
        refine lv_iload (pc := 141) hx hb d_Mo_sendAck_141 (lv_at hl 3 rfl) ?_
        refine lv_iadd (pc := 143) hx hb d_Mo_sendAck_143 ?_
        obtain ⟨k29, hp⟩ := hp
        refine fm_iald (pc := 144) hC hw k28 k29 rfl d_Mo_sendAck_144 ?_
        obtain ⟨k30, hp⟩ := hp
        refine fm_iast (pc := 145) hC hw k27 k30 rfl d_Mo_sendAck_145 (fun M31 H locs eM31 hw => ?_)
        have hp := hp M31 eM31
        obtain ⟨v32, ev32⟩ : ∃ z : Int32, z = a5 + (1 : Int32) := ⟨_, rfl⟩
        have hp := hp v32 ev32
        refine lv_iinc (pc := 146) (k := 3) (v := v32) hx hb d_Mo_sendAck_146 hl rfl ev32.symm (by decide) rfl (fun ls hl => ?_)
        have hl : lv_has ls 6 [(5, .int v32), (0, .ref (b + a0)), (1, .int a1), (4, .int a4)] := hl
        refine lv_goto (pc := 149) (tgt := 85) hx hb d_Mo_sendAck_149 rfl ?_
        exact ih85  a0 a1 a4 v32 M31 ls _ _ f19 (lv_sub hl [1, 2, 3, 0] rfl) hw hp
  have B27 : ∀ (a0 : Nat) (a1 : Int32) (s0 : Int32) (M : mM)  (ls : Array Slot) (H : Heap) (locs : List Loc), ok T n a0 11 → lv_has ls 6 [(0, .ref (b + a0)), (1, .int a1)] → St D dA (An b n) b n T R M sz s.heap H locs → w_Mo_sendAck_B27 n T R Q a0 a1 s0 M → W p l e ({ frames := 1, cells := 0, slots := 0, locals := 24 }) s m av below meth c H locs 0 0 (MQ below (Qvm D dA (An b n) b n T R sz Q) av s 0 0 (An b n)) (F0 m 27 ls [.int s0]) := by
    intro a0 a1 s0 M ls H locs f5 hl hw hp
    unfold w_Mo_sendAck_B27 at hp
    refine lv_istore_n (pc := 27) hx hb d_Mo_sendAck_27 rfl hl (by decide) rfl (fun ls hl => ?_)
    have hl : lv_has ls 6 [(2, .int s0), (0, .ref (b + a0)), (1, .int a1)] := hl
    refine lv_aload_n (pc := 28) hx hb d_Mo_sendAck_28 rfl (lv_at hl 1 rfl) ?_
    obtain ⟨k6, hp⟩ := hp
    refine gf_Mo_47 (pc := 29) hC hw f5 (Nat.ne_of_gt k6.1) d_Mo_sendAck_29 ?_
    refine lv_iconst (v := 4) (pc := 32) hx hb d_Mo_sendAck_32 (by decide) ?_
    refine lv_iload_n (pc := 33) hx hb d_Mo_sendAck_33 rfl (lv_at hl 2 rfl) ?_
    refine lv_imul (pc := 34) hx hb d_Mo_sendAck_34 ?_
    refine lv_iload_n (pc := 35) hx hb d_Mo_sendAck_35 rfl (lv_at hl 0 rfl) ?_
    refine lv_iadd (pc := 36) hx hb d_Mo_sendAck_36 ?_
    obtain ⟨k7, hp⟩ := hp
    refine fm_iald (pc := 37) hC hw k6 k7 rfl d_Mo_sendAck_37 ?_
    refine lv_topi (fun v8 ev8 => ?_)
    have hp := hp v8 ev8
    refine lv_istore_n (pc := 38) hx hb d_Mo_sendAck_38 rfl hl (by decide) rfl (fun ls hl => ?_)
    have hl : lv_has ls 6 [(3, .int v8), (2, .int s0), (0, .ref (b + a0)), (1, .int a1)] := hl
    refine lv_aload_n (pc := 39) hx hb d_Mo_sendAck_39 rfl (lv_at hl 2 rfl) ?_
    refine gf_Mo_47 (pc := 40) hC hw f5 (Nat.ne_of_gt k6.1) d_Mo_sendAck_40 ?_
    refine lv_iconst (v := 4) (pc := 43) hx hb d_Mo_sendAck_43 (by decide) ?_
    refine lv_iload_n (pc := 44) hx hb d_Mo_sendAck_44 rfl (lv_at hl 3 rfl) ?_
    refine lv_imul (pc := 45) hx hb d_Mo_sendAck_45 ?_
    refine lv_iload_n (pc := 46) hx hb d_Mo_sendAck_46 rfl (lv_at hl 1 rfl) ?_
    refine lv_iadd (pc := 47) hx hb d_Mo_sendAck_47 ?_
    refine lv_dup2_11 (pc := 48) hx hb d_Mo_sendAck_48 rfl rfl ?_
    obtain ⟨k9, hp⟩ := hp
    refine fm_iald (pc := 49) hC hw k6 k9 rfl d_Mo_sendAck_49 ?_
    refine lv_iconst (v := 1) (pc := 50) hx hb d_Mo_sendAck_50 (by decide) ?_
    refine lv_iadd (pc := 51) hx hb d_Mo_sendAck_51 ?_
    obtain ⟨k10, hp⟩ := hp
    refine fm_iast (pc := 52) hC hw k6 k10 rfl d_Mo_sendAck_52 (fun M11 H locs eM11 hw => ?_)
    have hp := hp M11 eM11
    refine lv_aload_n (pc := 53) hx hb d_Mo_sendAck_53 rfl (lv_at hl 2 rfl) ?_
    refine lv_iload_n (pc := 54) hx hb d_Mo_sendAck_54 rfl (lv_at hl 3 rfl) ?_
    refine lv_iconst (v := 1) (pc := 55) hx hb d_Mo_sendAck_55 (by decide) ?_
    refine lv_iload_n (pc := 56) hx hb d_Mo_sendAck_56 rfl (lv_at hl 1 rfl) ?_
    refine lv_iload_n (pc := 57) hx hb d_Mo_sendAck_57 rfl (lv_at hl 0 rfl) ?_
    refine call_im (pc := 58) (fun _ h => h) hw (fm_runV (As := [.int a1, .int (1 : Int32), .int s0, .int v8]) (rest := []) hC hw (c_Mo_put l D dA b n T R M11 sz a0 a1 (1 : Int32) s0 v8 _) cy_Mo_put hp rfl rfl mw_372 mw_373 mw_374 (rfl : classes[11]? = _) (by decide) f5 ⟨Nat.le_of_ble_eq_true rfl, Nat.le_of_ble_eq_true rfl⟩ rfl hl.1 rfl (Nat.le_of_ble_eq_true rfl) d_Mo_sendAck_58 ⟨(Nat.le_of_ble_eq_true rfl), (Nat.le_of_ble_eq_true rfl)⟩) (fun r12 M13 H locs hp hw => ?_)
    refine lv_istore (pc := 61) hx hb d_Mo_sendAck_61 hl (by decide) rfl (fun ls hl => ?_)
    have hl : lv_has ls 6 [(4, .int r12), (3, .int v8), (2, .int s0), (0, .ref (b + a0)), (1, .int a1)] := hl
    refine lv_iload (pc := 63) hx hb d_Mo_sendAck_63 (lv_at hl 0 rfl) ?_
    refine lv_if_ge (pc := 65) (tgt := 69) hx hb d_Mo_sendAck_65 rfl (fun hc => ?_) (fun hc => ?_)
    · have hp := hp.1 hc
      refine lv_aload_n (pc := 69) hx hb d_Mo_sendAck_69 rfl (lv_at hl 3 rfl) ?_
      obtain ⟨k14, hp⟩ := hp
      refine gf_Mo_26 (pc := 70) hC hw f5 (Nat.ne_of_gt k14.1) d_Mo_sendAck_70 ?_
      refine lv_iload (pc := 73) hx hb d_Mo_sendAck_73 (lv_at hl 0 rfl) ?_
      refine lv_aload_n (pc := 75) hx hb d_Mo_sendAck_75 rfl (lv_at hl 3 rfl) ?_
      obtain ⟨k15, hp⟩ := hp
      refine gf_Mo_56 (pc := 76) hC hw f5 (Nat.ne_of_gt k15.1) d_Mo_sendAck_76 ?_
      refine lv_iload_n (pc := 79) hx hb d_Mo_sendAck_79 rfl (lv_at hl 4 rfl) ?_
      obtain ⟨k16, hp⟩ := hp
      refine fm_iald (pc := 80) hC hw k15 k16 rfl d_Mo_sendAck_80 ?_
      obtain ⟨k17, hp⟩ := hp
      refine fm_iast (pc := 81) hC hw k14 k17 rfl d_Mo_sendAck_81 (fun M18 H locs eM18 hw => ?_)
      have hp := hp M18 eM18
      refine lv_iconst (v := 0) (pc := 82) hx hb d_Mo_sendAck_82 (by decide) ?_
      refine lv_istore (pc := 83) hx hb d_Mo_sendAck_83 hl (by decide) rfl (fun ls hl => ?_)
      have hl : lv_has ls 6 [(5, .int (0 : Int32)), (4, .int r12), (3, .int v8), (2, .int s0), (0, .ref (b + a0)), (1, .int a1)] := hl
      obtain ⟨N85, hp⟩ := hp
      exact L85 N85 a0 a1 r12 (0 : Int32) M18 ls _ _ f5 (lv_sub hl [4, 5, 1, 0] rfl) hw hp
    · have hp := hp.2 hc
      exact ret_vm hC hr hlk hw hp d_Mo_sendAck_68
  refine lv_aload_n (pc := 0) hx hb d_Mo_sendAck_0 rfl (lv_at hl 0 rfl) ?_
  refine lv_iload_n (pc := 1) hx hb d_Mo_sendAck_1 rfl (lv_at hl 1 rfl) ?_
  refine lv_iconst (v := 3) (pc := 2) hx hb d_Mo_sendAck_2 (by decide) ?_
  refine call_zp (pc := 3) (fun _ h => h) hw (fm_runV (As := [.int x1, .int (3 : Int32)]) (rest := []) hC hw (c_Mo_writes l D dA b n T R M sz h x1 (3 : Int32) _) cy_Mo_writes hp rfl rfl mw_384 mw_385 mw_386 (rfl : classes[11]? = _) (by decide) k0 ⟨Nat.le_of_ble_eq_true rfl, Nat.le_of_ble_eq_true rfl⟩ rfl hl.1 rfl (Nat.le_of_ble_eq_true rfl) d_Mo_sendAck_3 ⟨(Nat.le_of_ble_eq_true rfl), (Nat.le_of_ble_eq_true rfl)⟩) (fun r1 H locs hp z2 hw => ?_)
  refine lv_if_eq (pc := 6) (tgt := 13) hx hb d_Mo_sendAck_6 rfl (fun hc => ?_) (fun hc => ?_)
  · have hp := hp.1 hc
    refine lv_aload_n (pc := 13) hx hb d_Mo_sendAck_13 rfl (lv_at hl 0 rfl) ?_
    refine lv_iload_n (pc := 14) hx hb d_Mo_sendAck_14 rfl (lv_at hl 1 rfl) ?_
    refine lv_iconst (v := 2) (pc := 15) hx hb d_Mo_sendAck_15 (by decide) ?_
    refine call_zp (pc := 16) (fun _ h => h) hw (fm_runV (As := [.int x1, .int (2 : Int32)]) (rest := []) hC hw (c_Mo_writes l D dA b n T R M sz h x1 (2 : Int32) _) cy_Mo_writes hp rfl rfl mw_384 mw_385 mw_386 (rfl : classes[11]? = _) (by decide) k0 ⟨Nat.le_of_ble_eq_true rfl, Nat.le_of_ble_eq_true rfl⟩ rfl hl.1 rfl (Nat.le_of_ble_eq_true rfl) d_Mo_sendAck_16 ⟨(Nat.le_of_ble_eq_true rfl), (Nat.le_of_ble_eq_true rfl)⟩) (fun r3 H locs hp z4 hw => ?_)
    refine lv_if_eq (pc := 19) (tgt := 26) hx hb d_Mo_sendAck_19 rfl (fun hc => ?_) (fun hc => ?_)
    · have hp := hp.1 hc
      refine lv_iconst (v := 0) (pc := 26) hx hb d_Mo_sendAck_26 (by decide) ?_
      exact B27  h x1 (0 : Int32) M ls _ _ k0 (lv_sub hl [0, 1] rfl) hw hp
    · have hp := hp.2 hc
      refine lv_iconst (v := 2) (pc := 22) hx hb d_Mo_sendAck_22 (by decide) ?_
      refine lv_goto (pc := 23) (tgt := 27) hx hb d_Mo_sendAck_23 rfl ?_
      exact B27  h x1 (2 : Int32) M ls _ _ k0 (lv_sub hl [0, 1] rfl) hw hp
  · have hp := hp.2 hc
    refine lv_iconst (v := 3) (pc := 9) hx hb d_Mo_sendAck_9 (by decide) ?_
    refine lv_goto (pc := 10) (tgt := 27) hx hb d_Mo_sendAck_10 rfl ?_
    exact B27  h x1 (3 : Int32) M ls _ _ k0 (lv_sub hl [0, 1] rfl) hw hp
set_option maxHeartbeats 4000000 in
set_option maxRecDepth 100000 in
theorem c_Mo_openOf (l : Launch) (D : va_G) (dA : Nat → ClassId) (b n : Nat) (T : mT) (R : mR) (M : mM) (sz : Nat) (h : Nat) (x1 : Int32) (Q : Int32 → Prop) : Met l y_Mo_openOf (Cond.code y_Mo_openOf b_Mo_openOf 4 (some .int) :: tW) ({ frames := 0, cells := 0, slots := 0, locals := 0 }) (Pm D dA b n T R M sz [.ref (b + h), .int x1] (w_Mo_openOf n T R M h x1 Q)) (Qip D dA (An b n) b n T R M sz Q) 0 0 (An b n) := by
  refine fm_body (An b n) (by decide) (Nat.le_of_ble_eq_true rfl) (fun k h0 h1 => ⟨by omega, by omega⟩) (fun p e s m below meth c ls hC hr hlk hnm hl hw hp => ?_)
  have hx := hC.1.1
  have hb := hC.1.2.1
  have hl : lv_has ls 4 [(0, .ref (b + h)), (1, .int x1)] := hl
  generalize hav : (List.toArray ([.ref (b + h), .int x1] : List Value)) = av at hC ⊢
  unfold w_Mo_openOf at hp
  obtain ⟨k0, hp⟩ := hp
  have L4 : ∀ (N4 : Nat) (a0 : Nat) (a1 : Int32) (a2 : Int32) (a3 : Int32)   (ls : Array Slot) (H : Heap) (locs : List Loc), ok T n a0 11 → lv_has ls 4 [(0, .ref (b + a0)), (1, .int a1), (2, .int a2), (3, .int a3)] → St D dA (An b n) b n T R M sz s.heap H locs → w_Mo_openOf_L4 n T R M Q a0 a1 N4 a2 a3 → W p l e ({ frames := 0, cells := 0, slots := 0, locals := 0 }) s m av below meth c H locs 0 0 (MQ below (Qip D dA (An b n) b n T R M sz Q) av s 0 0 (An b n)) (F0 m 4 ls []) := by
    intro N4
    induction N4 with
    | zero => intro a0 a1 a2 a3 ls H locs f1 hl hw hp; exact False.elim hp
    | succ N4 ih4 =>
      intro a0 a1 a2 a3 ls H locs f1 hl hw hp
      unfold w_Mo_openOf_L4 at hp
      refine lv_iload_n (pc := 4) hx hb d_Mo_openOf_4 rfl (lv_at hl 3 rfl) ?_
      refine lv_aload_n (pc := 5) hx hb d_Mo_openOf_5 rfl (lv_at hl 0 rfl) ?_
      obtain ⟨k2, hp⟩ := hp
      refine gf_Mo_68 (pc := 6) hC hw f1 (Nat.ne_of_gt k2.1) d_Mo_openOf_6 ?_
      refine lv_iload_n (pc := 9) hx hb d_Mo_openOf_9 rfl (lv_at hl 1 rfl) ?_
      obtain ⟨k3, hp⟩ := hp
      refine fm_iald (pc := 10) hC hw k2 k3 rfl d_Mo_openOf_10 ?_
      refine lv_icmp_ge (pc := 11) (tgt := 42) hx hb d_Mo_openOf_11 rfl (fun hc => ?_) (fun hc => ?_)
      · have hp := hp.1 hc
        refine lv_iload_n (pc := 42) hx hb d_Mo_openOf_42 rfl (lv_at hl 2 rfl) ?_
        exact ret_ip hC hr hlk hw hp d_Mo_openOf_43
      · have hp := hp.2 hc
        refine lv_iload_n (pc := 14) hx hb d_Mo_openOf_14 rfl (lv_at hl 2 rfl) ?_
        refine lv_aload_n (pc := 15) hx hb d_Mo_openOf_15 rfl (lv_at hl 0 rfl) ?_
        obtain ⟨k4, hp⟩ := hp
        refine gf_Mo_77 (pc := 16) hC hw f1 (Nat.ne_of_gt k4.1) d_Mo_openOf_16 ?_
        refine lv_bipush (v := 12) (pc := 19) hx hb d_Mo_openOf_19 (by decide) ?_
        refine lv_iload_n (pc := 21) hx hb d_Mo_openOf_21 rfl (lv_at hl 1 rfl) ?_
        refine lv_imul (pc := 22) hx hb d_Mo_openOf_22 ?_
        refine lv_iload_n (pc := 23) hx hb d_Mo_openOf_23 rfl (lv_at hl 3 rfl) ?_
        refine lv_iadd (pc := 24) hx hb d_Mo_openOf_24 ?_
        obtain ⟨k5, hp⟩ := hp
        refine fm_zald (pc := 25) hC hw k4 k5 rfl d_Mo_openOf_25 ?_
        refine lv_if_eq (pc := 26) (tgt := 33) hx hb d_Mo_openOf_26 rfl (fun hc => ?_) (fun hc => ?_)
        · have hp := hp.1 hc
          refine lv_iconst (v := 0) (pc := 33) hx hb d_Mo_openOf_33 (by decide) ?_
          refine lv_iadd (pc := 34) hx hb d_Mo_openOf_34 ?_
          refine lv_topi (fun v6 ev6 => ?_)
          have hp := hp v6 ev6
          refine lv_istore_n (pc := 35) hx hb d_Mo_openOf_35 rfl hl (by decide) rfl (fun ls hl => ?_)
          have hl : lv_has ls 4 [(2, .int v6), (0, .ref (b + a0)), (1, .int a1), (3, .int a3)] := hl
          obtain ⟨v7, ev7⟩ : ∃ z : Int32, z = a3 + (1 : Int32) := ⟨_, rfl⟩
          have hp := hp v7 ev7
          refine lv_iinc (pc := 36) (k := 3) (v := v7) hx hb d_Mo_openOf_36 hl rfl ev7.symm (by decide) rfl (fun ls hl => ?_)
          have hl : lv_has ls 4 [(3, .int v7), (2, .int v6), (0, .ref (b + a0)), (1, .int a1)] := hl
          refine lv_goto (pc := 39) (tgt := 4) hx hb d_Mo_openOf_39 rfl ?_
          exact ih4  a0 a1 v6 v7 ls _ _ f1 (lv_sub hl [2, 3, 1, 0] rfl) hw hp
        · have hp := hp.2 hc
          refine lv_iconst (v := 1) (pc := 29) hx hb d_Mo_openOf_29 (by decide) ?_
          refine lv_goto (pc := 30) (tgt := 34) hx hb d_Mo_openOf_30 rfl ?_
          refine lv_iadd (pc := 34) hx hb d_Mo_openOf_34 ?_
          refine lv_topi (fun v8 ev8 => ?_)
          have hp := hp v8 ev8
          refine lv_istore_n (pc := 35) hx hb d_Mo_openOf_35 rfl hl (by decide) rfl (fun ls hl => ?_)
          have hl : lv_has ls 4 [(2, .int v8), (0, .ref (b + a0)), (1, .int a1), (3, .int a3)] := hl
          obtain ⟨v9, ev9⟩ : ∃ z : Int32, z = a3 + (1 : Int32) := ⟨_, rfl⟩
          have hp := hp v9 ev9
          refine lv_iinc (pc := 36) (k := 3) (v := v9) hx hb d_Mo_openOf_36 hl rfl ev9.symm (by decide) rfl (fun ls hl => ?_)
          have hl : lv_has ls 4 [(3, .int v9), (2, .int v8), (0, .ref (b + a0)), (1, .int a1)] := hl
          refine lv_goto (pc := 39) (tgt := 4) hx hb d_Mo_openOf_39 rfl ?_
          exact ih4  a0 a1 v8 v9 ls _ _ f1 (lv_sub hl [2, 3, 1, 0] rfl) hw hp
  refine lv_iconst (v := 0) (pc := 0) hx hb d_Mo_openOf_0 (by decide) ?_
  refine lv_istore_n (pc := 1) hx hb d_Mo_openOf_1 rfl hl (by decide) rfl (fun ls hl => ?_)
  have hl : lv_has ls 4 [(2, .int (0 : Int32)), (0, .ref (b + h)), (1, .int x1)] := hl
  refine lv_iconst (v := 0) (pc := 2) hx hb d_Mo_openOf_2 (by decide) ?_
  refine lv_istore_n (pc := 3) hx hb d_Mo_openOf_3 rfl hl (by decide) rfl (fun ls hl => ?_)
  have hl : lv_has ls 4 [(3, .int (0 : Int32)), (2, .int (0 : Int32)), (0, .ref (b + h)), (1, .int x1)] := hl
  obtain ⟨N4, hp⟩ := hp
  exact L4 N4 h x1 (0 : Int32) (0 : Int32) ls _ _ k0 (lv_sub hl [2, 3, 1, 0] rfl) hw hp
set_option maxHeartbeats 4000000 in
set_option maxRecDepth 100000 in
theorem c_Mo_pass (l : Launch) (D : va_G) (dA : Nat → ClassId) (b n : Nat) (T : mT) (R : mR) (M : mM) (sz : Nat) (h : Nat) (x1 : Int32) (Q : mM → Prop) : Met l y_Mo_pass (Cond.code y_Mo_pass b_Mo_pass 3 none :: tW) ({ frames := 2, cells := 0, slots := 0, locals := 52 }) (Pm D dA b n T R M sz [.ref (b + h), .int x1] (w_Mo_pass n T R M h x1 Q)) (Qvm D dA (An b n) b n T R sz Q) 0 0 (An b n) := by
  refine fm_body (An b n) (by decide) (Nat.le_of_ble_eq_true rfl) (fun k h0 h1 => ⟨by omega, by omega⟩) (fun p e s m below meth c ls hC hr hlk hnm hl hw hp => ?_)
  have hx := hC.1.1
  have hb := hC.1.2.1
  have hl : lv_has ls 3 [(0, .ref (b + h)), (1, .int x1)] := hl
  generalize hav : (List.toArray ([.ref (b + h), .int x1] : List Value)) = av at hC ⊢
  unfold w_Mo_pass at hp
  obtain ⟨k0, hp⟩ := hp
  have B149 : ∀ (a0 : Nat) (a1 : Int32) (s0 : Nat) (s1 : Int32) (s2 : Int32) (M : mM)  (ls : Array Slot) (H : Heap) (locs : List Loc), ok T n a0 11 → ok T n s0 100 → lv_has ls 3 [(0, .ref (b + a0)), (1, .int a1)] → St D dA (An b n) b n T R M sz s.heap H locs → w_Mo_pass_B149 n T R Q a0 a1 s0 s1 s2 M → W p l e ({ frames := 2, cells := 0, slots := 0, locals := 52 }) s m av below meth c H locs 0 0 (MQ below (Qvm D dA (An b n) b n T R sz Q) av s 0 0 (An b n)) (F0 m 149 ls [.int s2, .int s1, .ref (b + s0)]) := by
    intro a0 a1 s0 s1 s2 M ls H locs f24 f25 hl hw hp
    unfold w_Mo_pass_B149 at hp
    obtain ⟨k26, hp⟩ := hp
    refine fm_iast (pc := 149) hC hw f25 k26 rfl d_Mo_pass_149 (fun M27 H locs eM27 hw => ?_)
    have hp := hp M27 eM27
    refine lv_aload_n (pc := 150) hx hb d_Mo_pass_150 rfl (lv_at hl 0 rfl) ?_
    obtain ⟨k28, hp⟩ := hp
    refine gf_Mo_95 (pc := 151) hC hw f24 (Nat.ne_of_gt k28.1) d_Mo_pass_151 ?_
    refine lv_iload_n (pc := 154) hx hb d_Mo_pass_154 rfl (lv_at hl 1 rfl) ?_
    refine lv_aload_n (pc := 155) hx hb d_Mo_pass_155 rfl (lv_at hl 0 rfl) ?_
    refine gf_Mo_174 (pc := 156) hC hw f24 d_Mo_pass_156 ?_
    refine lv_aload_n (pc := 159) hx hb d_Mo_pass_159 rfl (lv_at hl 0 rfl) ?_
    obtain ⟨k29, hp⟩ := hp
    refine gf_Mo_92 (pc := 160) hC hw f24 (Nat.ne_of_gt k29.1) d_Mo_pass_160 ?_
    refine lv_iload_n (pc := 163) hx hb d_Mo_pass_163 rfl (lv_at hl 1 rfl) ?_
    obtain ⟨k30, hp⟩ := hp
    refine fm_iald (pc := 164) hC hw k29 k30 rfl d_Mo_pass_164 ?_
    refine lv_iadd (pc := 165) hx hb d_Mo_pass_165 ?_
    obtain ⟨k31, hp⟩ := hp
    refine fm_iast (pc := 166) hC hw k28 k31 rfl d_Mo_pass_166 (fun M32 H locs eM32 hw => ?_)
    have hp := hp M32 eM32
    exact ret_vm hC hr hlk hw hp d_Mo_pass_167
  have L84 : ∀ (N84 : Nat) (a0 : Nat) (a1 : Int32) (a2 : Int32) (M : mM)  (ls : Array Slot) (H : Heap) (locs : List Loc), ok T n a0 11 → lv_has ls 3 [(0, .ref (b + a0)), (1, .int a1), (2, .int a2)] → St D dA (An b n) b n T R M sz s.heap H locs → w_Mo_pass_L84 n T R Q a0 a1 N84 a2 M → W p l e ({ frames := 2, cells := 0, slots := 0, locals := 52 }) s m av below meth c H locs 0 0 (MQ below (Qvm D dA (An b n) b n T R sz Q) av s 0 0 (An b n)) (F0 m 84 ls []) := by
    intro N84
    induction N84 with
    | zero => intro a0 a1 a2 M ls H locs f19 hl hw hp; exact False.elim hp
    | succ N84 ih84 =>
      intro a0 a1 a2 M ls H locs f19 hl hw hp
      unfold w_Mo_pass_L84 at hp
      refine lv_iload_n (pc := 84) hx hb d_Mo_pass_84 rfl (lv_at hl 2 rfl) ?_
      refine lv_aload_n (pc := 85) hx hb d_Mo_pass_85 rfl (lv_at hl 0 rfl) ?_
      obtain ⟨k20, hp⟩ := hp
      refine gf_Mo_68 (pc := 86) hC hw f19 (Nat.ne_of_gt k20.1) d_Mo_pass_86 ?_
      refine lv_iload_n (pc := 89) hx hb d_Mo_pass_89 rfl (lv_at hl 1 rfl) ?_
      obtain ⟨k21, hp⟩ := hp
      refine fm_iald (pc := 90) hC hw k20 k21 rfl d_Mo_pass_90 ?_
      refine lv_icmp_ge (pc := 91) (tgt := 120) hx hb d_Mo_pass_91 rfl (fun hc => ?_) (fun hc => ?_)
      · have hp := hp.1 hc
        refine lv_aload_n (pc := 120) hx hb d_Mo_pass_120 rfl (lv_at hl 0 rfl) ?_
        obtain ⟨k22, hp⟩ := hp
        refine gf_Mo_92 (pc := 121) hC hw f19 (Nat.ne_of_gt k22.1) d_Mo_pass_121 ?_
        refine lv_iload_n (pc := 124) hx hb d_Mo_pass_124 rfl (lv_at hl 1 rfl) ?_
        refine lv_aload_n (pc := 125) hx hb d_Mo_pass_125 rfl (lv_at hl 0 rfl) ?_
        refine gf_Mo_92 (pc := 126) hC hw f19 (Nat.ne_of_gt k22.1) d_Mo_pass_126 ?_
        refine lv_iload_n (pc := 129) hx hb d_Mo_pass_129 rfl (lv_at hl 1 rfl) ?_
        obtain ⟨k23, hp⟩ := hp
        refine fm_iald (pc := 130) hC hw k22 k23 rfl d_Mo_pass_130 ?_
        refine lv_bipush (v := 16) (pc := 131) hx hb d_Mo_pass_131 (by decide) ?_
        refine lv_icmp_ge (pc := 133) (tgt := 147) hx hb d_Mo_pass_133 rfl (fun hc => ?_) (fun hc => ?_)
        · have hp := hp.1 hc
          refine lv_bipush (v := 32) (pc := 147) hx hb d_Mo_pass_147 (by decide) ?_
          exact B149  a0 a1 (R a0 38) a1 (32 : Int32) M ls _ _ f19 k22 (lv_sub hl [0, 1] rfl) hw hp
        · have hp := hp.2 hc
          refine lv_iconst (v := 2) (pc := 136) hx hb d_Mo_pass_136 (by decide) ?_
          refine lv_aload_n (pc := 137) hx hb d_Mo_pass_137 rfl (lv_at hl 0 rfl) ?_
          refine gf_Mo_92 (pc := 138) hC hw f19 (Nat.ne_of_gt k22.1) d_Mo_pass_138 ?_
          refine lv_iload_n (pc := 141) hx hb d_Mo_pass_141 rfl (lv_at hl 1 rfl) ?_
          obtain ⟨k33, hp⟩ := hp
          refine fm_iald (pc := 142) hC hw k22 k33 rfl d_Mo_pass_142 ?_
          refine lv_imul (pc := 143) hx hb d_Mo_pass_143 ?_
          refine lv_goto (pc := 144) (tgt := 149) hx hb d_Mo_pass_144 rfl ?_
          exact B149  a0 a1 (R a0 38) a1 ((2 : Int32) * (M (R a0 38) a1.toNatClampNeg)) M ls _ _ f19 k22 (lv_sub hl [0, 1] rfl) hw hp
      · have hp := hp.2 hc
        refine lv_aload_n (pc := 94) hx hb d_Mo_pass_94 rfl (lv_at hl 0 rfl) ?_
        obtain ⟨k34, hp⟩ := hp
        refine gf_Mo_77 (pc := 95) hC hw f19 (Nat.ne_of_gt k34.1) d_Mo_pass_95 ?_
        refine lv_bipush (v := 12) (pc := 98) hx hb d_Mo_pass_98 (by decide) ?_
        refine lv_iload_n (pc := 100) hx hb d_Mo_pass_100 rfl (lv_at hl 1 rfl) ?_
        refine lv_imul (pc := 101) hx hb d_Mo_pass_101 ?_
        refine lv_iload_n (pc := 102) hx hb d_Mo_pass_102 rfl (lv_at hl 2 rfl) ?_
        refine lv_iadd (pc := 103) hx hb d_Mo_pass_103 ?_
        obtain ⟨k35, hp⟩ := hp
        refine fm_zald (pc := 104) hC hw k34 k35 rfl d_Mo_pass_104 ?_
        refine lv_if_eq (pc := 105) (tgt := 114) hx hb d_Mo_pass_105 rfl (fun hc => ?_) (fun hc => ?_)
        · have hp := hp.1 hc
          obtain ⟨v36, ev36⟩ : ∃ z : Int32, z = a2 + (1 : Int32) := ⟨_, rfl⟩
          have hp := hp v36 ev36
          refine lv_iinc (pc := 114) (k := 2) (v := v36) hx hb d_Mo_pass_114 hl rfl ev36.symm (by decide) rfl (fun ls hl => ?_)
          have hl : lv_has ls 3 [(2, .int v36), (0, .ref (b + a0)), (1, .int a1)] := hl
          refine lv_goto (pc := 117) (tgt := 84) hx hb d_Mo_pass_117 rfl ?_
          exact ih84  a0 a1 v36 M ls _ _ f19 (lv_sub hl [1, 2, 0] rfl) hw hp
        · have hp := hp.2 hc
          refine lv_aload_n (pc := 108) hx hb d_Mo_pass_108 rfl (lv_at hl 0 rfl) ?_
          refine lv_iload_n (pc := 109) hx hb d_Mo_pass_109 rfl (lv_at hl 1 rfl) ?_
          refine lv_iload_n (pc := 110) hx hb d_Mo_pass_110 rfl (lv_at hl 2 rfl) ?_
          refine call_vm (pc := 111) (fun _ h => h) hw (fm_runV (As := [.int a1, .int a2]) (rest := []) hC hw (c_Mo_sendPiece l D dA b n T R M sz a0 a1 a2 _) cy_Mo_sendPiece hp rfl rfl mw_375 mw_376 mw_377 (rfl : classes[11]? = _) (by decide) f19 ⟨Nat.le_of_ble_eq_true rfl, Nat.le_of_ble_eq_true rfl⟩ rfl hl.1 rfl (Nat.le_of_ble_eq_true rfl) d_Mo_pass_111 ⟨(Nat.le_of_ble_eq_true rfl), (Nat.le_of_ble_eq_true rfl)⟩) (fun M37 H locs hp hw => ?_)
          obtain ⟨v38, ev38⟩ : ∃ z : Int32, z = a2 + (1 : Int32) := ⟨_, rfl⟩
          have hp := hp v38 ev38
          refine lv_iinc (pc := 114) (k := 2) (v := v38) hx hb d_Mo_pass_114 hl rfl ev38.symm (by decide) rfl (fun ls hl => ?_)
          have hl : lv_has ls 3 [(2, .int v38), (0, .ref (b + a0)), (1, .int a1)] := hl
          refine lv_goto (pc := 117) (tgt := 84) hx hb d_Mo_pass_117 rfl ?_
          exact ih84  a0 a1 v38 M37 ls _ _ f19 (lv_sub hl [1, 2, 0] rfl) hw hp
  have B25 : ∀ (a0 : Nat) (a1 : Int32) (M : mM)  (ls : Array Slot) (H : Heap) (locs : List Loc), ok T n a0 11 → lv_has ls 3 [(0, .ref (b + a0)), (1, .int a1)] → St D dA (An b n) b n T R M sz s.heap H locs → w_Mo_pass_B25 n T R Q a0 a1 M → W p l e ({ frames := 2, cells := 0, slots := 0, locals := 52 }) s m av below meth c H locs 0 0 (MQ below (Qvm D dA (An b n) b n T R sz Q) av s 0 0 (An b n)) (F0 m 25 ls []) := by
    intro a0 a1 M ls H locs f6 hl hw hp
    unfold w_Mo_pass_B25 at hp
    refine lv_aload_n (pc := 25) hx hb d_Mo_pass_25 rfl (lv_at hl 0 rfl) ?_
    obtain ⟨k7, hp⟩ := hp
    refine gf_Mo_95 (pc := 26) hC hw f6 (Nat.ne_of_gt k7.1) d_Mo_pass_26 ?_
    refine lv_iload_n (pc := 29) hx hb d_Mo_pass_29 rfl (lv_at hl 1 rfl) ?_
    obtain ⟨k8, hp⟩ := hp
    refine fm_iald (pc := 30) hC hw k7 k8 rfl d_Mo_pass_30 ?_
    refine lv_aload_n (pc := 31) hx hb d_Mo_pass_31 rfl (lv_at hl 0 rfl) ?_
    refine gf_Mo_174 (pc := 32) hC hw f6 d_Mo_pass_32 ?_
    refine lv_icmp_ne (pc := 35) (tgt := 46) hx hb d_Mo_pass_35 rfl (fun hc => ?_) (fun hc => ?_)
    · have hp := hp.2 hc
      exact ret_vm hC hr hlk hw hp d_Mo_pass_46
    · have hp := hp.1 hc
      refine lv_aload_n (pc := 38) hx hb d_Mo_pass_38 rfl (lv_at hl 0 rfl) ?_
      refine lv_iload_n (pc := 39) hx hb d_Mo_pass_39 rfl (lv_at hl 1 rfl) ?_
      refine call_ip (pc := 40) (fun _ h => h) hw (fm_runV (As := [.int a1]) (rest := []) hC hw (c_Mo_openOf l D dA b n T R M sz a0 a1 _) cy_Mo_openOf hp rfl rfl mw_390 mw_391 mw_392 (rfl : classes[11]? = _) (by decide) f6 ⟨Nat.le_of_ble_eq_true rfl, Nat.le_of_ble_eq_true rfl⟩ rfl hl.1 rfl (Nat.le_of_ble_eq_true rfl) d_Mo_pass_40 ⟨(Nat.le_of_ble_eq_true rfl), (Nat.le_of_ble_eq_true rfl)⟩) (fun r9 H locs hp hw => ?_)
      refine lv_if_ne (pc := 43) (tgt := 47) hx hb d_Mo_pass_43 rfl (fun hc => ?_) (fun hc => ?_)
      · have hp := hp.2 hc
        refine lv_aload_n (pc := 47) hx hb d_Mo_pass_47 rfl (lv_at hl 0 rfl) ?_
        obtain ⟨k10, hp⟩ := hp
        refine gf_Mo_98 (pc := 48) hC hw f6 (Nat.ne_of_gt k10.1) d_Mo_pass_48 ?_
        refine lv_iload_n (pc := 51) hx hb d_Mo_pass_51 rfl (lv_at hl 1 rfl) ?_
        obtain ⟨k11, hp⟩ := hp
        refine fm_iald (pc := 52) hC hw k10 k11 rfl d_Mo_pass_52 ?_
        refine lv_bipush (v := 6) (pc := 53) hx hb d_Mo_pass_53 (by decide) ?_
        refine lv_icmp_ne (pc := 55) (tgt := 72) hx hb d_Mo_pass_55 rfl (fun hc => ?_) (fun hc => ?_)
        · have hp := hp.2 hc
          refine lv_aload_n (pc := 72) hx hb d_Mo_pass_72 rfl (lv_at hl 0 rfl) ?_
          refine gf_Mo_98 (pc := 73) hC hw f6 (Nat.ne_of_gt k10.1) d_Mo_pass_73 ?_
          refine lv_iload_n (pc := 76) hx hb d_Mo_pass_76 rfl (lv_at hl 1 rfl) ?_
          refine lv_dup2_11 (pc := 77) hx hb d_Mo_pass_77 rfl rfl ?_
          obtain ⟨k16, hp⟩ := hp
          refine fm_iald (pc := 78) hC hw k10 k16 rfl d_Mo_pass_78 ?_
          refine lv_iconst (v := 1) (pc := 79) hx hb d_Mo_pass_79 (by decide) ?_
          refine lv_iadd (pc := 80) hx hb d_Mo_pass_80 ?_
          obtain ⟨k17, hp⟩ := hp
          refine fm_iast (pc := 81) hC hw k10 k17 rfl d_Mo_pass_81 (fun M18 H locs eM18 hw => ?_)
          have hp := hp M18 eM18
          refine lv_iconst (v := 0) (pc := 82) hx hb d_Mo_pass_82 (by decide) ?_
          refine lv_istore_n (pc := 83) hx hb d_Mo_pass_83 rfl hl (by decide) rfl (fun ls hl => ?_)
          have hl : lv_has ls 3 [(2, .int (0 : Int32)), (0, .ref (b + a0)), (1, .int a1)] := hl
          obtain ⟨N84, hp⟩ := hp
          exact L84 N84 a0 a1 (0 : Int32) M18 ls _ _ f6 (lv_sub hl [1, 2, 0] rfl) hw hp
        · have hp := hp.1 hc
          refine lv_aload_n (pc := 58) hx hb d_Mo_pass_58 rfl (lv_at hl 0 rfl) ?_
          obtain ⟨k12, hp⟩ := hp
          refine gf_Mo_68 (pc := 59) hC hw f6 (Nat.ne_of_gt k12.1) d_Mo_pass_59 ?_
          refine lv_iload_n (pc := 62) hx hb d_Mo_pass_62 rfl (lv_at hl 1 rfl) ?_
          refine lv_iconst (v := 0) (pc := 63) hx hb d_Mo_pass_63 (by decide) ?_
          obtain ⟨k13, hp⟩ := hp
          refine fm_iast (pc := 64) hC hw k12 k13 rfl d_Mo_pass_64 (fun M14 H locs eM14 hw => ?_)
          have hp := hp M14 eM14
          refine lv_aload_n (pc := 65) hx hb d_Mo_pass_65 rfl (lv_at hl 0 rfl) ?_
          refine lv_iload_n (pc := 66) hx hb d_Mo_pass_66 rfl (lv_at hl 1 rfl) ?_
          refine lv_iconst (v := 5) (pc := 67) hx hb d_Mo_pass_67 (by decide) ?_
          refine call_vm (pc := 68) (fun _ h => h) hw (fm_runV (As := [.int a1, .int (5 : Int32)]) (rest := []) hC hw (c_Mo_become l D dA b n T R M14 sz a0 a1 (5 : Int32) _) cy_Mo_become hp rfl rfl mw_378 mw_379 mw_380 (rfl : classes[11]? = _) (by decide) f6 ⟨Nat.le_of_ble_eq_true rfl, Nat.le_of_ble_eq_true rfl⟩ rfl hl.1 rfl (Nat.le_of_ble_eq_true rfl) d_Mo_pass_68 ⟨(Nat.le_of_ble_eq_true rfl), (Nat.le_of_ble_eq_true rfl)⟩) (fun M15 H locs hp hw => ?_)
          exact ret_vm hC hr hlk hw hp d_Mo_pass_71
      · have hp := hp.1 hc
        exact ret_vm hC hr hlk hw hp d_Mo_pass_46
  refine lv_aload_n (pc := 0) hx hb d_Mo_pass_0 rfl (lv_at hl 0 rfl) ?_
  obtain ⟨k1, hp⟩ := hp
  refine gf_Mo_65 (pc := 1) hC hw k0 (Nat.ne_of_gt k1.1) d_Mo_pass_1 ?_
  refine lv_iload_n (pc := 4) hx hb d_Mo_pass_4 rfl (lv_at hl 1 rfl) ?_
  obtain ⟨k2, hp⟩ := hp
  refine fm_iald (pc := 5) hC hw k1 k2 rfl d_Mo_pass_5 ?_
  refine lv_aload_n (pc := 6) hx hb d_Mo_pass_6 rfl (lv_at hl 0 rfl) ?_
  refine gf_Mo_174 (pc := 7) hC hw k0 d_Mo_pass_7 ?_
  refine lv_icmp_ne (pc := 10) (tgt := 25) hx hb d_Mo_pass_10 rfl (fun hc => ?_) (fun hc => ?_)
  · have hp := hp.2 hc
    exact B25  h x1 M ls _ _ k0 (lv_sub hl [0, 1] rfl) hw hp
  · have hp := hp.1 hc
    refine lv_aload_n (pc := 13) hx hb d_Mo_pass_13 rfl (lv_at hl 0 rfl) ?_
    refine gf_Mo_65 (pc := 14) hC hw k0 (Nat.ne_of_gt k1.1) d_Mo_pass_14 ?_
    refine lv_iload_n (pc := 17) hx hb d_Mo_pass_17 rfl (lv_at hl 1 rfl) ?_
    refine lv_iconst (v := -1) (pc := 18) hx hb d_Mo_pass_18 (by decide) ?_
    obtain ⟨k3, hp⟩ := hp
    refine fm_iast (pc := 19) hC hw k1 k3 rfl d_Mo_pass_19 (fun M4 H locs eM4 hw => ?_)
    have hp := hp M4 eM4
    refine lv_aload_n (pc := 20) hx hb d_Mo_pass_20 rfl (lv_at hl 0 rfl) ?_
    refine lv_iload_n (pc := 21) hx hb d_Mo_pass_21 rfl (lv_at hl 1 rfl) ?_
    refine call_vm (pc := 22) (fun _ h => h) hw (fm_runV (As := [.int x1]) (rest := []) hC hw (c_Mo_sendAck l D dA b n T R M4 sz h x1 _) cy_Mo_sendAck hp rfl rfl mw_387 mw_388 mw_389 (rfl : classes[11]? = _) (by decide) k0 ⟨Nat.le_of_ble_eq_true rfl, Nat.le_of_ble_eq_true rfl⟩ rfl hl.1 rfl (Nat.le_of_ble_eq_true rfl) d_Mo_pass_22 ⟨(Nat.le_of_ble_eq_true rfl), (Nat.le_of_ble_eq_true rfl)⟩) (fun M5 H locs hp hw => ?_)
    exact B25  h x1 M5 ls _ _ k0 (lv_sub hl [0, 1] rfl) hw hp
set_option maxHeartbeats 4000000 in
set_option maxRecDepth 100000 in
theorem c_Mo_tick (l : Launch) (D : va_G) (dA : Nat → ClassId) (b n : Nat) (T : mT) (R : mR) (M : mM) (sz : Nat) (h : Nat) (Q : Int32 → mM → Prop) : Met l y_Mo_tick (Cond.code y_Mo_tick b_Mo_tick 1 (some .int) :: tW) ({ frames := 3, cells := 0, slots := 0, locals := 74 }) (Pm D dA b n T R M sz [.ref (b + h)] (w_Mo_tick n T R M h Q)) (Qim D dA (An b n) b n T R sz Q) 0 0 (An b n) := by
  refine fm_body (An b n) (by decide) (Nat.le_of_ble_eq_true rfl) (fun k h0 h1 => ⟨by omega, by omega⟩) (fun p e s m below meth c ls hC hr hlk hnm hl hw hp => ?_)
  have hx := hC.1.1
  have hb := hC.1.2.1
  have hl : lv_has ls 1 [(0, .ref (b + h))] := hl
  generalize hav : (List.toArray ([.ref (b + h)] : List Value)) = av at hC ⊢
  unfold w_Mo_tick at hp
  obtain ⟨k0, hp⟩ := hp
  refine lv_aload_n (pc := 0) hx hb d_Mo_tick_0 rfl (lv_at hl 0 rfl) ?_
  refine lv_dup (pc := 1) hx hb d_Mo_tick_1 rfl ?_
  refine gf_Mo_174 (pc := 2) hC hw k0 d_Mo_tick_2 ?_
  refine lv_iconst (v := 1) (pc := 5) hx hb d_Mo_tick_5 (by decide) ?_
  refine lv_iadd (pc := 6) hx hb d_Mo_tick_6 ?_
  refine pf_Mo_174 (pc := 7) hC hw k0 d_Mo_tick_7 (fun M1 H locs eM1 hw => ?_)
  have hp := hp M1 eM1
  refine lv_aload_n (pc := 10) hx hb d_Mo_tick_10 rfl (lv_at hl 0 rfl) ?_
  refine lv_iconst (v := 0) (pc := 11) hx hb d_Mo_tick_11 (by decide) ?_
  refine pf_Mo_150 (pc := 12) hC hw k0 d_Mo_tick_12 (fun M2 H locs eM2 hw => ?_)
  have hp := hp M2 eM2
  refine lv_aload_n (pc := 15) hx hb d_Mo_tick_15 rfl (lv_at hl 0 rfl) ?_
  refine lv_iconst (v := 0) (pc := 16) hx hb d_Mo_tick_16 (by decide) ?_
  refine call_vm (pc := 17) (fun _ h => h) hw (fm_runV (As := [.int (0 : Int32)]) (rest := []) hC hw (c_Mo_pass l D dA b n T R M2 sz h (0 : Int32) _) cy_Mo_pass hp rfl rfl mw_393 mw_394 mw_395 (rfl : classes[11]? = _) (by decide) k0 ⟨Nat.le_of_ble_eq_true rfl, Nat.le_of_ble_eq_true rfl⟩ rfl hl.1 rfl (Nat.le_of_ble_eq_true rfl) d_Mo_tick_17 ⟨(Nat.le_of_ble_eq_true rfl), (Nat.le_of_ble_eq_true rfl)⟩) (fun M3 H locs hp hw => ?_)
  refine lv_aload_n (pc := 20) hx hb d_Mo_tick_20 rfl (lv_at hl 0 rfl) ?_
  refine lv_iconst (v := 1) (pc := 21) hx hb d_Mo_tick_21 (by decide) ?_
  refine call_vm (pc := 22) (fun _ h => h) hw (fm_runV (As := [.int (1 : Int32)]) (rest := []) hC hw (c_Mo_pass l D dA b n T R M3 sz h (1 : Int32) _) cy_Mo_pass hp rfl rfl mw_393 mw_394 mw_395 (rfl : classes[11]? = _) (by decide) k0 ⟨Nat.le_of_ble_eq_true rfl, Nat.le_of_ble_eq_true rfl⟩ rfl hl.1 rfl (Nat.le_of_ble_eq_true rfl) d_Mo_tick_22 ⟨(Nat.le_of_ble_eq_true rfl), (Nat.le_of_ble_eq_true rfl)⟩) (fun M4 H locs hp hw => ?_)
  refine lv_aload_n (pc := 25) hx hb d_Mo_tick_25 rfl (lv_at hl 0 rfl) ?_
  refine gf_Mo_150 (pc := 26) hC hw k0 d_Mo_tick_26 ?_
  exact ret_im hC hr hlk hw hp d_Mo_tick_29
set_option maxHeartbeats 4000000 in
set_option maxRecDepth 100000 in
theorem c_Mo_send (l : Launch) (D : va_G) (dA : Nat → ClassId) (b n : Nat) (T : mT) (R : mR) (M : mM) (sz : Nat) (h : Nat) (x1 : Int32) (x2 : Int32) (Q : Int32 → mM → Prop) : Met l y_Mo_send (Cond.code y_Mo_send b_Mo_send 5 (some .boolean) :: tW) ({ frames := 1, cells := 0, slots := 0, locals := 24 }) (Pm D dA b n T R M sz [.ref (b + h), .int x1, .int x2] (w_Mo_send n T R M h x1 x2 Q)) (Qzm D dA (An b n) b n T R sz Q) 0 0 (An b n) := by
  refine fm_body (An b n) (by decide) (Nat.le_of_ble_eq_true rfl) (fun k h0 h1 => ⟨by omega, by omega⟩) (fun p e s m below meth c ls hC hr hlk hnm hl hw hp => ?_)
  have hx := hC.1.1
  have hb := hC.1.2.1
  have hl : lv_has ls 5 [(0, .ref (b + h)), (1, .int x1), (2, .int x2)] := hl
  generalize hav : (List.toArray ([.ref (b + h), .int x1, .int x2] : List Value)) = av at hC ⊢
  unfold w_Mo_send at hp
  obtain ⟨k0, hp⟩ := hp
  refine lv_iload_n (pc := 0) hx hb d_Mo_send_0 rfl (lv_at hl 1 rfl) ?_
  refine lv_if_lt (pc := 1) (tgt := 28) hx hb d_Mo_send_1 rfl (fun hc => ?_) (fun hc => ?_)
  · have hp := hp.1 hc
    refine lv_iconst (v := 0) (pc := 28) hx hb d_Mo_send_28 (by decide) ?_
    exact ret_zm hC hr hlk hw (Or.inl rfl) hp d_Mo_send_29
  · have hp := hp.2 hc
    refine lv_iload_n (pc := 4) hx hb d_Mo_send_4 rfl (lv_at hl 1 rfl) ?_
    refine lv_iconst (v := 1) (pc := 5) hx hb d_Mo_send_5 (by decide) ?_
    refine lv_icmp_gt (pc := 6) (tgt := 28) hx hb d_Mo_send_6 rfl (fun hc => ?_) (fun hc => ?_)
    · have hp := hp.1 hc
      refine lv_iconst (v := 0) (pc := 28) hx hb d_Mo_send_28 (by decide) ?_
      exact ret_zm hC hr hlk hw (Or.inl rfl) hp d_Mo_send_29
    · have hp := hp.2 hc
      refine lv_aload_n (pc := 9) hx hb d_Mo_send_9 rfl (lv_at hl 0 rfl) ?_
      obtain ⟨k1, hp⟩ := hp
      refine gf_Mo_41 (pc := 10) hC hw k0 (Nat.ne_of_gt k1.1) d_Mo_send_10 ?_
      refine lv_iload_n (pc := 13) hx hb d_Mo_send_13 rfl (lv_at hl 1 rfl) ?_
      obtain ⟨k2, hp⟩ := hp
      refine fm_iald (pc := 14) hC hw k1 k2 rfl d_Mo_send_14 ?_
      refine lv_iconst (v := 5) (pc := 15) hx hb d_Mo_send_15 (by decide) ?_
      refine lv_icmp_eq (pc := 16) (tgt := 28) hx hb d_Mo_send_16 rfl (fun hc => ?_) (fun hc => ?_)
      · have hp := hp.1 hc
        refine lv_iconst (v := 0) (pc := 28) hx hb d_Mo_send_28 (by decide) ?_
        exact ret_zm hC hr hlk hw (Or.inl rfl) hp d_Mo_send_29
      · have hp := hp.2 hc
        refine lv_aload_n (pc := 19) hx hb d_Mo_send_19 rfl (lv_at hl 0 rfl) ?_
        refine lv_iload_n (pc := 20) hx hb d_Mo_send_20 rfl (lv_at hl 1 rfl) ?_
        refine lv_iconst (v := 3) (pc := 21) hx hb d_Mo_send_21 (by decide) ?_
        refine call_zp (pc := 22) (fun _ h => h) hw (fm_runV (As := [.int x1, .int (3 : Int32)]) (rest := []) hC hw (c_Mo_writes l D dA b n T R M sz h x1 (3 : Int32) _) cy_Mo_writes hp rfl rfl mw_384 mw_385 mw_386 (rfl : classes[11]? = _) (by decide) k0 ⟨Nat.le_of_ble_eq_true rfl, Nat.le_of_ble_eq_true rfl⟩ rfl hl.1 rfl (Nat.le_of_ble_eq_true rfl) d_Mo_send_22 ⟨(Nat.le_of_ble_eq_true rfl), (Nat.le_of_ble_eq_true rfl)⟩) (fun r3 H locs hp z4 hw => ?_)
        refine lv_if_ne (pc := 25) (tgt := 30) hx hb d_Mo_send_25 rfl (fun hc => ?_) (fun hc => ?_)
        · have hp := hp.2 hc
          refine lv_aload_n (pc := 30) hx hb d_Mo_send_30 rfl (lv_at hl 0 rfl) ?_
          obtain ⟨k5, hp⟩ := hp
          refine gf_Mo_47 (pc := 31) hC hw k0 (Nat.ne_of_gt k5.1) d_Mo_send_31 ?_
          refine lv_iconst (v := 4) (pc := 34) hx hb d_Mo_send_34 (by decide) ?_
          refine lv_iload_n (pc := 35) hx hb d_Mo_send_35 rfl (lv_at hl 1 rfl) ?_
          refine lv_imul (pc := 36) hx hb d_Mo_send_36 ?_
          refine lv_iconst (v := 3) (pc := 37) hx hb d_Mo_send_37 (by decide) ?_
          refine lv_iadd (pc := 38) hx hb d_Mo_send_38 ?_
          obtain ⟨k6, hp⟩ := hp
          refine fm_iald (pc := 39) hC hw k5 k6 rfl d_Mo_send_39 ?_
          refine lv_topi (fun v7 ev7 => ?_)
          have hp := hp v7 ev7
          refine lv_istore_n (pc := 40) hx hb d_Mo_send_40 rfl hl (by decide) rfl (fun ls hl => ?_)
          have hl : lv_has ls 5 [(3, .int v7), (0, .ref (b + h)), (1, .int x1), (2, .int x2)] := hl
          refine lv_aload_n (pc := 41) hx hb d_Mo_send_41 rfl (lv_at hl 1 rfl) ?_
          refine gf_Mo_47 (pc := 42) hC hw k0 (Nat.ne_of_gt k5.1) d_Mo_send_42 ?_
          refine lv_iconst (v := 4) (pc := 45) hx hb d_Mo_send_45 (by decide) ?_
          refine lv_iload_n (pc := 46) hx hb d_Mo_send_46 rfl (lv_at hl 2 rfl) ?_
          refine lv_imul (pc := 47) hx hb d_Mo_send_47 ?_
          refine lv_iconst (v := 3) (pc := 48) hx hb d_Mo_send_48 (by decide) ?_
          refine lv_iadd (pc := 49) hx hb d_Mo_send_49 ?_
          refine lv_dup2_11 (pc := 50) hx hb d_Mo_send_50 rfl rfl ?_
          obtain ⟨k8, hp⟩ := hp
          refine fm_iald (pc := 51) hC hw k5 k8 rfl d_Mo_send_51 ?_
          refine lv_iconst (v := 1) (pc := 52) hx hb d_Mo_send_52 (by decide) ?_
          refine lv_iadd (pc := 53) hx hb d_Mo_send_53 ?_
          obtain ⟨k9, hp⟩ := hp
          refine fm_iast (pc := 54) hC hw k5 k9 rfl d_Mo_send_54 (fun M10 H locs eM10 hw => ?_)
          have hp := hp M10 eM10
          refine lv_aload_n (pc := 55) hx hb d_Mo_send_55 rfl (lv_at hl 1 rfl) ?_
          refine lv_iload_n (pc := 56) hx hb d_Mo_send_56 rfl (lv_at hl 2 rfl) ?_
          refine lv_iconst (v := 2) (pc := 57) hx hb d_Mo_send_57 (by decide) ?_
          refine lv_iconst (v := 3) (pc := 58) hx hb d_Mo_send_58 (by decide) ?_
          refine lv_iload_n (pc := 59) hx hb d_Mo_send_59 rfl (lv_at hl 0 rfl) ?_
          refine call_im (pc := 60) (fun _ h => h) hw (fm_runV (As := [.int x1, .int (2 : Int32), .int (3 : Int32), .int v7]) (rest := []) hC hw (c_Mo_put l D dA b n T R M10 sz h x1 (2 : Int32) (3 : Int32) v7 _) cy_Mo_put hp rfl rfl mw_372 mw_373 mw_374 (rfl : classes[11]? = _) (by decide) k0 ⟨Nat.le_of_ble_eq_true rfl, Nat.le_of_ble_eq_true rfl⟩ rfl hl.1 rfl (Nat.le_of_ble_eq_true rfl) d_Mo_send_60 ⟨(Nat.le_of_ble_eq_true rfl), (Nat.le_of_ble_eq_true rfl)⟩) (fun r11 M12 H locs hp hw => ?_)
          refine lv_istore (pc := 63) hx hb d_Mo_send_63 hl (by decide) rfl (fun ls hl => ?_)
          have hl : lv_has ls 5 [(4, .int r11), (3, .int v7), (0, .ref (b + h)), (1, .int x1), (2, .int x2)] := hl
          refine lv_iload (pc := 65) hx hb d_Mo_send_65 (lv_at hl 0 rfl) ?_
          refine lv_if_lt (pc := 67) (tgt := 78) hx hb d_Mo_send_67 rfl (fun hc => ?_) (fun hc => ?_)
          · have hp := hp.1 hc
            refine lv_iconst (v := 1) (pc := 78) hx hb d_Mo_send_78 (by decide) ?_
            exact ret_zm hC hr hlk hw (Or.inr rfl) hp d_Mo_send_79
          · have hp := hp.2 hc
            refine lv_aload_n (pc := 70) hx hb d_Mo_send_70 rfl (lv_at hl 2 rfl) ?_
            obtain ⟨k13, hp⟩ := hp
            refine gf_Mo_26 (pc := 71) hC hw k0 (Nat.ne_of_gt k13.1) d_Mo_send_71 ?_
            refine lv_iload (pc := 74) hx hb d_Mo_send_74 (lv_at hl 0 rfl) ?_
            refine lv_iload_n (pc := 76) hx hb d_Mo_send_76 rfl (lv_at hl 4 rfl) ?_
            obtain ⟨k14, hp⟩ := hp
            refine fm_iast (pc := 77) hC hw k13 k14 rfl d_Mo_send_77 (fun M15 H locs eM15 hw => ?_)
            have hp := hp M15 eM15
            refine lv_iconst (v := 1) (pc := 78) hx hb d_Mo_send_78 (by decide) ?_
            exact ret_zm hC hr hlk hw (Or.inr rfl) hp d_Mo_send_79
        · have hp := hp.1 hc
          refine lv_iconst (v := 0) (pc := 28) hx hb d_Mo_send_28 (by decide) ?_
          exact ret_zm hC hr hlk hw (Or.inl rfl) hp d_Mo_send_29
set_option maxHeartbeats 4000000 in
set_option maxRecDepth 100000 in
theorem c_Mo_isRecord (l : Launch) (D : va_G) (dA : Nat → ClassId) (b n : Nat) (T : mT) (R : mR) (M : mM) (sz : Nat) (h : Nat) (x1 : Int32) (Q : Int32 → Prop) : Met l y_Mo_isRecord (Cond.code y_Mo_isRecord b_Mo_isRecord 2 (some .boolean) :: tW) ({ frames := 0, cells := 0, slots := 0, locals := 0 }) (Pm D dA b n T R M sz [.ref (b + h), .int x1] (w_Mo_isRecord n T R M h x1 Q)) (Qzp D dA (An b n) b n T R M sz Q) 0 0 (An b n) := by
  refine fm_body (An b n) (by decide) (Nat.le_of_ble_eq_true rfl) (fun k h0 h1 => ⟨by omega, by omega⟩) (fun p e s m below meth c ls hC hr hlk hnm hl hw hp => ?_)
  have hx := hC.1.1
  have hb := hC.1.2.1
  have hl : lv_has ls 2 [(0, .ref (b + h)), (1, .int x1)] := hl
  generalize hav : (List.toArray ([.ref (b + h), .int x1] : List Value)) = av at hC ⊢
  unfold w_Mo_isRecord at hp
  obtain ⟨k0, hp⟩ := hp
  refine lv_iload_n (pc := 0) hx hb d_Mo_isRecord_0 rfl (lv_at hl 1 rfl) ?_
  refine lv_if_lt (pc := 1) (tgt := 16) hx hb d_Mo_isRecord_1 rfl (fun hc => ?_) (fun hc => ?_)
  · have hp := hp.1 hc
    refine lv_iconst (v := 0) (pc := 16) hx hb d_Mo_isRecord_16 (by decide) ?_
    exact ret_zp hC hr hlk hw (Or.inl rfl) hp d_Mo_isRecord_17
  · have hp := hp.2 hc
    refine lv_iload_n (pc := 4) hx hb d_Mo_isRecord_4 rfl (lv_at hl 1 rfl) ?_
    refine lv_aload_n (pc := 5) hx hb d_Mo_isRecord_5 rfl (lv_at hl 0 rfl) ?_
    refine gf_Mo_153 (pc := 6) hC hw k0 d_Mo_isRecord_6 ?_
    refine lv_icmp_ge (pc := 9) (tgt := 16) hx hb d_Mo_isRecord_9 rfl (fun hc => ?_) (fun hc => ?_)
    · have hp := hp.1 hc
      refine lv_iconst (v := 0) (pc := 16) hx hb d_Mo_isRecord_16 (by decide) ?_
      exact ret_zp hC hr hlk hw (Or.inl rfl) hp d_Mo_isRecord_17
    · have hp := hp.2 hc
      refine lv_iconst (v := 1) (pc := 12) hx hb d_Mo_isRecord_12 (by decide) ?_
      refine lv_goto (pc := 13) (tgt := 17) hx hb d_Mo_isRecord_13 rfl ?_
      exact ret_zp hC hr hlk hw (Or.inr rfl) hp d_Mo_isRecord_17
set_option maxHeartbeats 4000000 in
set_option maxRecDepth 100000 in
theorem c_Mo_reads (l : Launch) (D : va_G) (dA : Nat → ClassId) (b n : Nat) (T : mT) (R : mR) (M : mM) (sz : Nat) (h : Nat) (x1 : Int32) (x2 : Int32) (Q : Int32 → Prop) : Met l y_Mo_reads (Cond.code y_Mo_reads b_Mo_reads 4 (some .boolean) :: tW) ({ frames := 0, cells := 0, slots := 0, locals := 0 }) (Pm D dA b n T R M sz [.ref (b + h), .int x1, .int x2] (w_Mo_reads n T R M h x1 x2 Q)) (Qzp D dA (An b n) b n T R M sz Q) 0 0 (An b n) := by
  refine fm_body (An b n) (by decide) (Nat.le_of_ble_eq_true rfl) (fun k h0 h1 => ⟨by omega, by omega⟩) (fun p e s m below meth c ls hC hr hlk hnm hl hw hp => ?_)
  have hx := hC.1.1
  have hb := hC.1.2.1
  have hl : lv_has ls 4 [(0, .ref (b + h)), (1, .int x1), (2, .int x2)] := hl
  generalize hav : (List.toArray ([.ref (b + h), .int x1, .int x2] : List Value)) = av at hC ⊢
  unfold w_Mo_reads at hp
  obtain ⟨k0, hp⟩ := hp
  refine lv_aload_n (pc := 0) hx hb d_Mo_reads_0 rfl (lv_at hl 0 rfl) ?_
  obtain ⟨k1, hp⟩ := hp
  refine gf_Mo_44 (pc := 1) hC hw k0 (Nat.ne_of_gt k1.1) d_Mo_reads_1 ?_
  refine lv_iload_n (pc := 4) hx hb d_Mo_reads_4 rfl (lv_at hl 1 rfl) ?_
  obtain ⟨k2, hp⟩ := hp
  refine fm_iald (pc := 5) hC hw k1 k2 rfl d_Mo_reads_5 ?_
  refine lv_topi (fun v3 ev3 => ?_)
  have hp := hp v3 ev3
  refine lv_istore_n (pc := 6) hx hb d_Mo_reads_6 rfl hl (by decide) rfl (fun ls hl => ?_)
  have hl : lv_has ls 4 [(3, .int v3), (0, .ref (b + h)), (1, .int x1), (2, .int x2)] := hl
  refine lv_iload_n (pc := 7) hx hb d_Mo_reads_7 rfl (lv_at hl 3 rfl) ?_
  refine lv_if_eq (pc := 8) (tgt := 48) hx hb d_Mo_reads_8 rfl (fun hc => ?_) (fun hc => ?_)
  · have hp := hp.1 hc
    refine lv_iconst (v := 1) (pc := 48) hx hb d_Mo_reads_48 (by decide) ?_
    refine lv_goto (pc := 49) (tgt := 53) hx hb d_Mo_reads_49 rfl ?_
    exact ret_zp hC hr hlk hw (Or.inr rfl) hp d_Mo_reads_53
  · have hp := hp.2 hc
    refine lv_iload_n (pc := 11) hx hb d_Mo_reads_11 rfl (lv_at hl 3 rfl) ?_
    refine lv_iconst (v := 2) (pc := 12) hx hb d_Mo_reads_12 (by decide) ?_
    refine lv_icmp_ne (pc := 13) (tgt := 33) hx hb d_Mo_reads_13 rfl (fun hc => ?_) (fun hc => ?_)
    · have hp := hp.2 hc
      refine lv_iload_n (pc := 33) hx hb d_Mo_reads_33 rfl (lv_at hl 0 rfl) ?_
      refine lv_iload_n (pc := 34) hx hb d_Mo_reads_34 rfl (lv_at hl 2 rfl) ?_
      refine lv_if_ne (pc := 35) (tgt := 43) hx hb d_Mo_reads_35 rfl (fun hc => ?_) (fun hc => ?_)
      · have hp := hp.2 hc
        refine lv_bipush (v := 8) (pc := 43) hx hb d_Mo_reads_43 (by decide) ?_
        refine lv_icmp_lt (pc := 45) (tgt := 52) hx hb d_Mo_reads_45 rfl (fun hc => ?_) (fun hc => ?_)
        · have hp := hp.1 hc
          refine lv_iconst (v := 0) (pc := 52) hx hb d_Mo_reads_52 (by decide) ?_
          exact ret_zp hC hr hlk hw (Or.inl rfl) hp d_Mo_reads_53
        · have hp := hp.2 hc
          refine lv_iconst (v := 1) (pc := 48) hx hb d_Mo_reads_48 (by decide) ?_
          refine lv_goto (pc := 49) (tgt := 53) hx hb d_Mo_reads_49 rfl ?_
          exact ret_zp hC hr hlk hw (Or.inr rfl) hp d_Mo_reads_53
      · have hp := hp.1 hc
        refine lv_bipush (v := 7) (pc := 38) hx hb d_Mo_reads_38 (by decide) ?_
        refine lv_goto (pc := 40) (tgt := 45) hx hb d_Mo_reads_40 rfl ?_
        refine lv_icmp_lt (pc := 45) (tgt := 52) hx hb d_Mo_reads_45 rfl (fun hc => ?_) (fun hc => ?_)
        · have hp := hp.1 hc
          refine lv_iconst (v := 0) (pc := 52) hx hb d_Mo_reads_52 (by decide) ?_
          exact ret_zp hC hr hlk hw (Or.inl rfl) hp d_Mo_reads_53
        · have hp := hp.2 hc
          refine lv_iconst (v := 1) (pc := 48) hx hb d_Mo_reads_48 (by decide) ?_
          refine lv_goto (pc := 49) (tgt := 53) hx hb d_Mo_reads_49 rfl ?_
          exact ret_zp hC hr hlk hw (Or.inr rfl) hp d_Mo_reads_53
    · have hp := hp.1 hc
      refine lv_iload_n (pc := 16) hx hb d_Mo_reads_16 rfl (lv_at hl 0 rfl) ?_
      refine lv_iload_n (pc := 17) hx hb d_Mo_reads_17 rfl (lv_at hl 2 rfl) ?_
      refine lv_if_ne (pc := 18) (tgt := 25) hx hb d_Mo_reads_18 rfl (fun hc => ?_) (fun hc => ?_)
      · have hp := hp.2 hc
        refine lv_bipush (v := 7) (pc := 25) hx hb d_Mo_reads_25 (by decide) ?_
        refine lv_icmp_lt (pc := 27) (tgt := 52) hx hb d_Mo_reads_27 rfl (fun hc => ?_) (fun hc => ?_)
        · have hp := hp.1 hc
          refine lv_iconst (v := 0) (pc := 52) hx hb d_Mo_reads_52 (by decide) ?_
          exact ret_zp hC hr hlk hw (Or.inl rfl) hp d_Mo_reads_53
        · have hp := hp.2 hc
          refine lv_goto (pc := 30) (tgt := 48) hx hb d_Mo_reads_30 rfl ?_
          refine lv_iconst (v := 1) (pc := 48) hx hb d_Mo_reads_48 (by decide) ?_
          refine lv_goto (pc := 49) (tgt := 53) hx hb d_Mo_reads_49 rfl ?_
          exact ret_zp hC hr hlk hw (Or.inr rfl) hp d_Mo_reads_53
      · have hp := hp.1 hc
        refine lv_iconst (v := 4) (pc := 21) hx hb d_Mo_reads_21 (by decide) ?_
        refine lv_goto (pc := 22) (tgt := 27) hx hb d_Mo_reads_22 rfl ?_
        refine lv_icmp_lt (pc := 27) (tgt := 52) hx hb d_Mo_reads_27 rfl (fun hc => ?_) (fun hc => ?_)
        · have hp := hp.1 hc
          refine lv_iconst (v := 0) (pc := 52) hx hb d_Mo_reads_52 (by decide) ?_
          exact ret_zp hC hr hlk hw (Or.inl rfl) hp d_Mo_reads_53
        · have hp := hp.2 hc
          refine lv_goto (pc := 30) (tgt := 48) hx hb d_Mo_reads_30 rfl ?_
          refine lv_iconst (v := 1) (pc := 48) hx hb d_Mo_reads_48 (by decide) ?_
          refine lv_goto (pc := 49) (tgt := 53) hx hb d_Mo_reads_49 rfl ?_
          exact ret_zp hC hr hlk hw (Or.inr rfl) hp d_Mo_reads_53
