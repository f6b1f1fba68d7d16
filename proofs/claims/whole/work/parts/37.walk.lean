set_option maxHeartbeats 4000000 in
set_option maxRecDepth 100000 in
theorem c_Mo_byteAt (l : Launch) (D : va_G) (dA : Nat → ClassId) (b n : Nat) (T : mT) (R : mR) (M : mM) (sz : Nat) (x1 : Int32) (x2 : Int32) (Q : Int32 → Prop) : Met l y_Mo_byteAt (Cond.code y_Mo_byteAt b_Mo_byteAt 2 (some .int) :: tW) ({ frames := 0, cells := 0, slots := 0, locals := 0 }) (Pm D dA b n T R M sz [.int x1, .int x2] (w_Mo_byteAt n T R M x1 x2 Q)) (Qip D dA (An b n) b n T R M sz Q) 0 0 (An b n) := by
  refine fm_body (An b n) (by decide) (Nat.le_of_ble_eq_true rfl) (fun k h0 h1 => ⟨by omega, by omega⟩) (fun p e s m below meth c ls hC hr hlk hnm hl hw hp => ?_)
  have hx := hC.1.1
  have hb := hC.1.2.1
  have hl : lv_has ls 2 [(0, .int x1), (1, .int x2)] := hl
  generalize hav : (List.toArray ([.int x1, .int x2] : List Value)) = av at hC ⊢
  unfold w_Mo_byteAt at hp
  refine lv_iload_n (pc := 0) hx hb d_Mo_byteAt_0 rfl (lv_at hl 0 rfl) ?_
  refine lv_bipush (v := 8) (pc := 1) hx hb d_Mo_byteAt_1 (by decide) ?_
  refine lv_iload_n (pc := 3) hx hb d_Mo_byteAt_3 rfl (lv_at hl 1 rfl) ?_
  refine lv_imul (pc := 4) hx hb d_Mo_byteAt_4 ?_
  refine lv_iushr (v := jushr x1 ((8 : Int32) * x2)) (pc := 5) hx hb d_Mo_byteAt_5 rfl ?_
  refine lv_sipush (v := 255) (pc := 6) hx hb d_Mo_byteAt_6 (by decide) ?_
  refine lv_iand (pc := 9) hx hb d_Mo_byteAt_9 ?_
  exact ret_ip hC hr hlk hw hp d_Mo_byteAt_10
set_option maxHeartbeats 4000000 in
set_option maxRecDepth 100000 in
theorem c_Mo_content2 (l : Launch) (D : va_G) (dA : Nat → ClassId) (b n : Nat) (T : mT) (R : mR) (M : mM) (sz : Nat) (h : Nat) (x1 : Int32) (x2 : Int32) (Q : Int32 → Prop) : Met l y_Mo_content2 (Cond.code y_Mo_content2 b_Mo_content2 3 (some .int) :: tW) ({ frames := 1, cells := 0, slots := 0, locals := 22 }) (Pm D dA b n T R M sz [.ref (b + h), .int x1, .int x2] (w_Mo_content2 n T R M h x1 x2 Q)) (Qip D dA (An b n) b n T R M sz Q) 0 0 (An b n) := by
  refine fm_body (An b n) (by decide) (Nat.le_of_ble_eq_true rfl) (fun k h0 h1 => ⟨by omega, by omega⟩) (fun p e s m below meth c ls hC hr hlk hnm hl hw hp => ?_)
  have hx := hC.1.1
  have hb := hC.1.2.1
  have hl : lv_has ls 3 [(0, .ref (b + h)), (1, .int x1), (2, .int x2)] := hl
  generalize hav : (List.toArray ([.ref (b + h), .int x1, .int x2] : List Value)) = av at hC ⊢
  unfold w_Mo_content2 at hp
  obtain ⟨k0, hp⟩ := hp
  refine lv_iload_n (pc := 0) hx hb d_Mo_content2_0 rfl (lv_at hl 1 rfl) ?_
  by_cases hs1_0 : x1 = (0 : Int32)
  · have hp := hp.1 hs1_0
    refine lv_tableIn (pc := 1) (tgt := 44) hx hb d_Mo_content2_1 (by rw [hs1_0]; decide) (by rw [hs1_0]; decide) (by rw [hs1_0]; try rfl) rfl ?_
    refine lv_iload_n (pc := 44) hx hb d_Mo_content2_44 rfl (lv_at hl 2 rfl) ?_
    refine lv_iconst (v := 4) (pc := 45) hx hb d_Mo_content2_45 (by decide) ?_
    refine lv_icmp_ge (pc := 46) (tgt := 60) hx hb d_Mo_content2_46 rfl (fun hc => ?_) (fun hc => ?_)
    · have hp := hp.1 hc
      refine lv_iconst (v := 0) (pc := 60) hx hb d_Mo_content2_60 (by decide) ?_
      exact ret_ip hC hr hlk hw hp d_Mo_content2_61
    · have hp := hp.2 hc
      refine lv_aload_n (pc := 49) hx hb d_Mo_content2_49 rfl (lv_at hl 0 rfl) ?_
      refine gf_Mo_121 (pc := 50) hC hw k0 d_Mo_content2_50 ?_
      refine lv_iload_n (pc := 53) hx hb d_Mo_content2_53 rfl (lv_at hl 2 rfl) ?_
      refine call_ip (pc := 54) (fun _ h => h) hw (fm_runS (As := [.int (M h 2), .int x2]) (rest := []) hC hw (c_Mo_byteAt l D dA b n T R M sz (M h 2) x2 _) cy_Mo_byteAt hp rfl rfl mw_357 mw_358 ⟨Nat.le_of_ble_eq_true rfl, Nat.le_of_ble_eq_true rfl⟩ rfl hl.1 rfl (Nat.le_of_ble_eq_true rfl) d_Mo_content2_54 ⟨(Nat.le_of_ble_eq_true rfl), (Nat.le_of_ble_eq_true rfl)⟩) (fun r1 H locs hp hw => ?_)
      refine lv_goto (pc := 57) (tgt := 61) hx hb d_Mo_content2_57 rfl ?_
      exact ret_ip hC hr hlk hw hp d_Mo_content2_61
  by_cases hs1_1 : x1 = (1 : Int32)
  · have hp := hp.2.1 hs1_1
    refine lv_tableIn (pc := 1) (tgt := 62) hx hb d_Mo_content2_1 (by rw [hs1_1]; decide) (by rw [hs1_1]; decide) (by rw [hs1_1]; try rfl) rfl ?_
    refine lv_aload_n (pc := 62) hx hb d_Mo_content2_62 rfl (lv_at hl 0 rfl) ?_
    refine gf_Mo_127 (pc := 63) hC hw k0 d_Mo_content2_63 ?_
    refine lv_iload_n (pc := 66) hx hb d_Mo_content2_66 rfl (lv_at hl 2 rfl) ?_
    refine call_ip (pc := 67) (fun _ h => h) hw (fm_runS (As := [.int (M h 4), .int x2]) (rest := []) hC hw (c_Mo_byteAt l D dA b n T R M sz (M h 4) x2 _) cy_Mo_byteAt hp rfl rfl mw_357 mw_358 ⟨Nat.le_of_ble_eq_true rfl, Nat.le_of_ble_eq_true rfl⟩ rfl hl.1 rfl (Nat.le_of_ble_eq_true rfl) d_Mo_content2_67 ⟨(Nat.le_of_ble_eq_true rfl), (Nat.le_of_ble_eq_true rfl)⟩) (fun r2 H locs hp hw => ?_)
    exact ret_ip hC hr hlk hw hp d_Mo_content2_70
  by_cases hs1_2 : x1 = (2 : Int32)
  · have hp := hp.2.2.1 hs1_2
    refine lv_tableIn (pc := 1) (tgt := 71) hx hb d_Mo_content2_1 (by rw [hs1_2]; decide) (by rw [hs1_2]; decide) (by rw [hs1_2]; try rfl) rfl ?_
    refine lv_iload_n (pc := 71) hx hb d_Mo_content2_71 rfl (lv_at hl 2 rfl) ?_
    refine lv_iconst (v := 4) (pc := 72) hx hb d_Mo_content2_72 (by decide) ?_
    refine lv_icmp_ge (pc := 73) (tgt := 87) hx hb d_Mo_content2_73 rfl (fun hc => ?_) (fun hc => ?_)
    · have hp := hp.1 hc
      refine lv_aload_n (pc := 87) hx hb d_Mo_content2_87 rfl (lv_at hl 0 rfl) ?_
      refine gf_Mo_127 (pc := 88) hC hw k0 d_Mo_content2_88 ?_
      refine lv_iload_n (pc := 91) hx hb d_Mo_content2_91 rfl (lv_at hl 2 rfl) ?_
      refine lv_iconst (v := 4) (pc := 92) hx hb d_Mo_content2_92 (by decide) ?_
      refine lv_isub (pc := 93) hx hb d_Mo_content2_93 ?_
      refine call_ip (pc := 94) (fun _ h => h) hw (fm_runS (As := [.int (M h 4), .int (x2 - (4 : Int32))]) (rest := []) hC hw (c_Mo_byteAt l D dA b n T R M sz (M h 4) (x2 - (4 : Int32)) _) cy_Mo_byteAt hp rfl rfl mw_357 mw_358 ⟨Nat.le_of_ble_eq_true rfl, Nat.le_of_ble_eq_true rfl⟩ rfl hl.1 rfl (Nat.le_of_ble_eq_true rfl) d_Mo_content2_94 ⟨(Nat.le_of_ble_eq_true rfl), (Nat.le_of_ble_eq_true rfl)⟩) (fun r3 H locs hp hw => ?_)
      exact ret_ip hC hr hlk hw hp d_Mo_content2_97
    · have hp := hp.2 hc
      refine lv_aload_n (pc := 76) hx hb d_Mo_content2_76 rfl (lv_at hl 0 rfl) ?_
      refine gf_Mo_121 (pc := 77) hC hw k0 d_Mo_content2_77 ?_
      refine lv_iload_n (pc := 80) hx hb d_Mo_content2_80 rfl (lv_at hl 2 rfl) ?_
      refine call_ip (pc := 81) (fun _ h => h) hw (fm_runS (As := [.int (M h 2), .int x2]) (rest := []) hC hw (c_Mo_byteAt l D dA b n T R M sz (M h 2) x2 _) cy_Mo_byteAt hp rfl rfl mw_357 mw_358 ⟨Nat.le_of_ble_eq_true rfl, Nat.le_of_ble_eq_true rfl⟩ rfl hl.1 rfl (Nat.le_of_ble_eq_true rfl) d_Mo_content2_81 ⟨(Nat.le_of_ble_eq_true rfl), (Nat.le_of_ble_eq_true rfl)⟩) (fun r4 H locs hp hw => ?_)
      refine lv_goto (pc := 84) (tgt := 97) hx hb d_Mo_content2_84 rfl ?_
      exact ret_ip hC hr hlk hw hp d_Mo_content2_97
  by_cases hs1_3 : x1 = (3 : Int32)
  · have hp := hp.2.2.2.1 hs1_3
    refine lv_tableIn (pc := 1) (tgt := 98) hx hb d_Mo_content2_1 (by rw [hs1_3]; decide) (by rw [hs1_3]; decide) (by rw [hs1_3]; try rfl) rfl ?_
    refine lv_aload_n (pc := 98) hx hb d_Mo_content2_98 rfl (lv_at hl 0 rfl) ?_
    refine gf_Mo_124 (pc := 99) hC hw k0 d_Mo_content2_99 ?_
    refine lv_iconst (v := 1) (pc := 102) hx hb d_Mo_content2_102 (by decide) ?_
    refine lv_iadd (pc := 103) hx hb d_Mo_content2_103 ?_
    refine lv_aload_n (pc := 104) hx hb d_Mo_content2_104 rfl (lv_at hl 0 rfl) ?_
    refine gf_Mo_121 (pc := 105) hC hw k0 d_Mo_content2_105 ?_
    refine call_ip (pc := 108) (fun _ h => h) hw (fm_runS (As := [.int ((M h 3) + (1 : Int32)), .int (M h 2)]) (rest := []) hC hw (c_Mo_mix l D dA b n T R M sz ((M h 3) + (1 : Int32)) (M h 2) _) cy_Mo_mix hp rfl rfl mw_359 mw_360 ⟨Nat.le_of_ble_eq_true rfl, Nat.le_of_ble_eq_true rfl⟩ rfl hl.1 rfl (Nat.le_of_ble_eq_true rfl) d_Mo_content2_108 ⟨(Nat.le_of_ble_eq_true rfl), (Nat.le_of_ble_eq_true rfl)⟩) (fun r5 H locs hp hw => ?_)
    refine lv_iload_n (pc := 111) hx hb d_Mo_content2_111 rfl (lv_at hl 2 rfl) ?_
    refine call_ip (pc := 112) (fun _ h => h) hw (fm_runS (As := [.int r5, .int x2]) (rest := []) hC hw (c_Mo_byteAt l D dA b n T R M sz r5 x2 _) cy_Mo_byteAt hp rfl rfl mw_357 mw_358 ⟨Nat.le_of_ble_eq_true rfl, Nat.le_of_ble_eq_true rfl⟩ rfl hl.1 rfl (Nat.le_of_ble_eq_true rfl) d_Mo_content2_112 ⟨(Nat.le_of_ble_eq_true rfl), (Nat.le_of_ble_eq_true rfl)⟩) (fun r6 H locs hp hw => ?_)
    exact ret_ip hC hr hlk hw hp d_Mo_content2_115
  by_cases hs1_4 : x1 = (4 : Int32)
  · have hp := hp.2.2.2.2.1 hs1_4
    refine lv_tableIn (pc := 1) (tgt := 116) hx hb d_Mo_content2_1 (by rw [hs1_4]; decide) (by rw [hs1_4]; decide) (by rw [hs1_4]; try rfl) rfl ?_
    refine lv_aload_n (pc := 116) hx hb d_Mo_content2_116 rfl (lv_at hl 0 rfl) ?_
    refine gf_Mo_121 (pc := 117) hC hw k0 d_Mo_content2_117 ?_
    refine lv_iload_n (pc := 120) hx hb d_Mo_content2_120 rfl (lv_at hl 2 rfl) ?_
    refine call_ip (pc := 121) (fun _ h => h) hw (fm_runS (As := [.int (M h 2), .int x2]) (rest := []) hC hw (c_Mo_mix l D dA b n T R M sz (M h 2) x2 _) cy_Mo_mix hp rfl rfl mw_359 mw_360 ⟨Nat.le_of_ble_eq_true rfl, Nat.le_of_ble_eq_true rfl⟩ rfl hl.1 rfl (Nat.le_of_ble_eq_true rfl) d_Mo_content2_121 ⟨(Nat.le_of_ble_eq_true rfl), (Nat.le_of_ble_eq_true rfl)⟩) (fun r7 H locs hp hw => ?_)
    refine lv_sipush (v := 255) (pc := 124) hx hb d_Mo_content2_124 (by decide) ?_
    refine lv_iand (pc := 127) hx hb d_Mo_content2_127 ?_
    exact ret_ip hC hr hlk hw hp d_Mo_content2_128
  by_cases hs1_5 : x1 = (5 : Int32)
  · have hp := hp.2.2.2.2.2.1 hs1_5
    refine lv_tableIn (pc := 1) (tgt := 129) hx hb d_Mo_content2_1 (by rw [hs1_5]; decide) (by rw [hs1_5]; decide) (by rw [hs1_5]; try rfl) rfl ?_
    refine lv_aload_n (pc := 129) hx hb d_Mo_content2_129 rfl (lv_at hl 0 rfl) ?_
    refine gf_Mo_124 (pc := 130) hC hw k0 d_Mo_content2_130 ?_
    refine lv_iconst (v := 2) (pc := 133) hx hb d_Mo_content2_133 (by decide) ?_
    refine lv_iadd (pc := 134) hx hb d_Mo_content2_134 ?_
    refine lv_iload_n (pc := 135) hx hb d_Mo_content2_135 rfl (lv_at hl 2 rfl) ?_
    refine call_ip (pc := 136) (fun _ h => h) hw (fm_runS (As := [.int ((M h 3) + (2 : Int32)), .int x2]) (rest := []) hC hw (c_Mo_mix l D dA b n T R M sz ((M h 3) + (2 : Int32)) x2 _) cy_Mo_mix hp rfl rfl mw_359 mw_360 ⟨Nat.le_of_ble_eq_true rfl, Nat.le_of_ble_eq_true rfl⟩ rfl hl.1 rfl (Nat.le_of_ble_eq_true rfl) d_Mo_content2_136 ⟨(Nat.le_of_ble_eq_true rfl), (Nat.le_of_ble_eq_true rfl)⟩) (fun r8 H locs hp hw => ?_)
    refine lv_sipush (v := 255) (pc := 139) hx hb d_Mo_content2_139 (by decide) ?_
    refine lv_iand (pc := 142) hx hb d_Mo_content2_142 ?_
    exact ret_ip hC hr hlk hw hp d_Mo_content2_143
  by_cases hs1_6 : x1 = (6 : Int32)
  · have hp := hp.2.2.2.2.2.2.1 hs1_6
    refine lv_tableIn (pc := 1) (tgt := 144) hx hb d_Mo_content2_1 (by rw [hs1_6]; decide) (by rw [hs1_6]; decide) (by rw [hs1_6]; try rfl) rfl ?_
    refine lv_aload_n (pc := 144) hx hb d_Mo_content2_144 rfl (lv_at hl 0 rfl) ?_
    refine gf_Mo_134 (pc := 145) hC hw k0 d_Mo_content2_145 ?_
    refine lv_iload_n (pc := 148) hx hb d_Mo_content2_148 rfl (lv_at hl 2 rfl) ?_
    refine call_ip (pc := 149) (fun _ h => h) hw (fm_runS (As := [.int (M h 5), .int x2]) (rest := []) hC hw (c_Mo_byteAt l D dA b n T R M sz (M h 5) x2 _) cy_Mo_byteAt hp rfl rfl mw_357 mw_358 ⟨Nat.le_of_ble_eq_true rfl, Nat.le_of_ble_eq_true rfl⟩ rfl hl.1 rfl (Nat.le_of_ble_eq_true rfl) d_Mo_content2_149 ⟨(Nat.le_of_ble_eq_true rfl), (Nat.le_of_ble_eq_true rfl)⟩) (fun r9 H locs hp hw => ?_)
    exact ret_ip hC hr hlk hw hp d_Mo_content2_152
  have hp := hp.2.2.2.2.2.2.2 hs1_0 hs1_1 hs1_2 hs1_3 hs1_4 hs1_5 hs1_6
  refine lv_tableOut (pc := 1) (tgt := 153) hx hb d_Mo_content2_1 (by have q0 := lv_neT (a := 0) hs1_0 (by decide); have q1 := lv_neT (a := 1) hs1_1 (by decide); have q2 := lv_neT (a := 2) hs1_2 (by decide); have q3 := lv_neT (a := 3) hs1_3 (by decide); have q4 := lv_neT (a := 4) hs1_4 (by decide); have q5 := lv_neT (a := 5) hs1_5 (by decide); have q6 := lv_neT (a := 6) hs1_6 (by decide); omega) rfl ?_
  refine lv_aload_n (pc := 153) hx hb d_Mo_content2_153 rfl (lv_at hl 0 rfl) ?_
  refine gf_Mo_137 (pc := 154) hC hw k0 d_Mo_content2_154 ?_
  refine lv_iload_n (pc := 157) hx hb d_Mo_content2_157 rfl (lv_at hl 2 rfl) ?_
  refine call_ip (pc := 158) (fun _ h => h) hw (fm_runS (As := [.int (M h 6), .int x2]) (rest := []) hC hw (c_Mo_byteAt l D dA b n T R M sz (M h 6) x2 _) cy_Mo_byteAt hp rfl rfl mw_357 mw_358 ⟨Nat.le_of_ble_eq_true rfl, Nat.le_of_ble_eq_true rfl⟩ rfl hl.1 rfl (Nat.le_of_ble_eq_true rfl) d_Mo_content2_158 ⟨(Nat.le_of_ble_eq_true rfl), (Nat.le_of_ble_eq_true rfl)⟩) (fun r10 H locs hp hw => ?_)
  exact ret_ip hC hr hlk hw hp d_Mo_content2_161
set_option maxHeartbeats 4000000 in
set_option maxRecDepth 100000 in
theorem c_Mo_told (l : Launch) (D : va_G) (dA : Nat → ClassId) (b n : Nat) (T : mT) (R : mR) (M : mM) (sz : Nat) (h : Nat) (x1 : Int32) (Q : Int32 → Prop) : Met l y_Mo_told (Cond.code y_Mo_told b_Mo_told 5 (some .int) :: tW) ({ frames := 2, cells := 0, slots := 0, locals := 44 }) (Pm D dA b n T R M sz [.ref (b + h), .int x1] (w_Mo_told n T R M h x1 Q)) (Qip D dA (An b n) b n T R M sz Q) 0 0 (An b n) := by
  refine fm_body (An b n) (by decide) (Nat.le_of_ble_eq_true rfl) (fun k h0 h1 => ⟨by omega, by omega⟩) (fun p e s m below meth c ls hC hr hlk hnm hl hw hp => ?_)
  have hx := hC.1.1
  have hb := hC.1.2.1
  have hl : lv_has ls 5 [(0, .ref (b + h)), (1, .int x1)] := hl
  generalize hav : (List.toArray ([.ref (b + h), .int x1] : List Value)) = av at hC ⊢
  unfold w_Mo_told at hp
  obtain ⟨k0, hp⟩ := hp
  have L4 : ∀ (N4 : Nat) (a0 : Nat) (a1 : Int32) (a2 : Int32) (a3 : Int32)   (ls : Array Slot) (H : Heap) (locs : List Loc), ok T n a0 11 → lv_has ls 5 [(0, .ref (b + a0)), (1, .int a1), (2, .int a2), (3, .int a3)] → St D dA (An b n) b n T R M sz s.heap H locs → w_Mo_told_L4 n T R M Q a0 a1 N4 a2 a3 → W p l e ({ frames := 2, cells := 0, slots := 0, locals := 44 }) s m av below meth c H locs 0 0 (MQ below (Qip D dA (An b n) b n T R M sz Q) av s 0 0 (An b n)) (F0 m 4 ls []) := by
    intro N4
    induction N4 with
    | zero => intro a0 a1 a2 a3 ls H locs f1 hl hw hp; exact False.elim hp
    | succ N4 ih4 =>
      intro a0 a1 a2 a3 ls H locs f1 hl hw hp
      unfold w_Mo_told_L4 at hp
      refine lv_iload_n (pc := 4) hx hb d_Mo_told_4 rfl (lv_at hl 3 rfl) ?_
      refine lv_iload_n (pc := 5) hx hb d_Mo_told_5 rfl (lv_at hl 1 rfl) ?_
      refine lv_icmp_ge (pc := 6) (tgt := 49) hx hb d_Mo_told_6 rfl (fun hc => ?_) (fun hc => ?_)
      · have hp := hp.1 hc
        refine lv_iload_n (pc := 49) hx hb d_Mo_told_49 rfl (lv_at hl 2 rfl) ?_
        exact ret_ip hC hr hlk hw hp d_Mo_told_50
      · have hp := hp.2 hc
        refine lv_iconst (v := 0) (pc := 9) hx hb d_Mo_told_9 (by decide) ?_
        refine lv_istore (pc := 10) hx hb d_Mo_told_10 hl (by decide) rfl (fun ls hl => ?_)
        have hl : lv_has ls 5 [(4, .int (0 : Int32)), (0, .ref (b + a0)), (1, .int a1), (2, .int a2), (3, .int a3)] := hl
        have L12 : ∀ (N12 : Nat) (a0 : Nat) (a1 : Int32) (a2 : Int32) (a3 : Int32) (a4 : Int32)   (ls : Array Slot) (H : Heap) (locs : List Loc), ok T n a0 11 → lv_has ls 5 [(0, .ref (b + a0)), (1, .int a1), (2, .int a2), (3, .int a3), (4, .int a4)] → St D dA (An b n) b n T R M sz s.heap H locs → w_Mo_told_L12 n T R M Q (fun a0 a1 a2 a3 => w_Mo_told_L4 n T R M Q a0 a1 N4 a2 a3) a0 a1 a3 N12 a2 a4 → W p l e ({ frames := 2, cells := 0, slots := 0, locals := 44 }) s m av below meth c H locs 0 0 (MQ below (Qip D dA (An b n) b n T R M sz Q) av s 0 0 (An b n)) (F0 m 12 ls []) := by
          intro N12
          induction N12 with
          | zero => intro a0 a1 a2 a3 a4 ls H locs f2 hl hw hp; exact False.elim hp
          | succ N12 ih12 =>
            intro a0 a1 a2 a3 a4 ls H locs f2 hl hw hp
            unfold w_Mo_told_L12 at hp
            refine lv_iload (pc := 12) hx hb d_Mo_told_12 (lv_at hl 4 rfl) ?_
            refine lv_aload_n (pc := 14) hx hb d_Mo_told_14 rfl (lv_at hl 0 rfl) ?_
            refine lv_iload_n (pc := 15) hx hb d_Mo_told_15 rfl (lv_at hl 3 rfl) ?_
            refine call_ip (pc := 16) (fun _ h => h) hw (fm_runV (As := [.int a3]) (rest := [.int a4]) hC hw (c_Mo_sizeOf l D dA b n T R M sz a0 a3 _) cy_Mo_sizeOf hp rfl rfl mw_361 mw_362 mw_363 (rfl : classes[11]? = _) (by decide) f2 ⟨Nat.le_of_ble_eq_true rfl, Nat.le_of_ble_eq_true rfl⟩ rfl hl.1 rfl (Nat.le_of_ble_eq_true rfl) d_Mo_told_16 ⟨(Nat.le_of_ble_eq_true rfl), (Nat.le_of_ble_eq_true rfl)⟩) (fun r3 H locs hp hw => ?_)
            refine lv_icmp_ge (pc := 19) (tgt := 43) hx hb d_Mo_told_19 rfl (fun hc => ?_) (fun hc => ?_)
            · have hp := hp.1 hc
              obtain ⟨v4, ev4⟩ : ∃ z : Int32, z = a3 + (1 : Int32) := ⟨_, rfl⟩
              have hp := hp v4 ev4
              refine lv_iinc (pc := 43) (k := 3) (v := v4) hx hb d_Mo_told_43 hl rfl ev4.symm (by decide) rfl (fun ls hl => ?_)
              have hl : lv_has ls 5 [(3, .int v4), (0, .ref (b + a0)), (1, .int a1), (2, .int a2), (4, .int a4)] := hl
              refine lv_goto (pc := 46) (tgt := 4) hx hb d_Mo_told_46 rfl ?_
              exact ih4  a0 a1 a2 v4 ls _ _ f2 (lv_sub hl [1, 2, 3, 0] rfl) hw hp
            · have hp := hp.2 hc
              refine lv_iload_n (pc := 22) hx hb d_Mo_told_22 rfl (lv_at hl 2 rfl) ?_
              refine lv_bipush (v := 31) (pc := 23) hx hb d_Mo_told_23 (by decide) ?_
              refine lv_imul (pc := 25) hx hb d_Mo_told_25 ?_
              refine lv_aload_n (pc := 26) hx hb d_Mo_told_26 rfl (lv_at hl 0 rfl) ?_
              refine lv_iload_n (pc := 27) hx hb d_Mo_told_27 rfl (lv_at hl 3 rfl) ?_
              refine lv_iload (pc := 28) hx hb d_Mo_told_28 (lv_at hl 4 rfl) ?_
              refine call_ip (pc := 30) (fun _ h => h) hw (fm_runV (As := [.int a3, .int a4]) (rest := [.int (a2 * (31 : Int32))]) hC hw (c_Mo_content2 l D dA b n T R M sz a0 a3 a4 _) cy_Mo_content2 hp rfl rfl mw_364 mw_365 mw_366 (rfl : classes[11]? = _) (by decide) f2 ⟨Nat.le_of_ble_eq_true rfl, Nat.le_of_ble_eq_true rfl⟩ rfl hl.1 rfl (Nat.le_of_ble_eq_true rfl) d_Mo_told_30 ⟨(Nat.le_of_ble_eq_true rfl), (Nat.le_of_ble_eq_true rfl)⟩) (fun r5 H locs hp hw => ?_)
              refine lv_iadd (pc := 33) hx hb d_Mo_told_33 ?_
              refine lv_iconst (v := 1) (pc := 34) hx hb d_Mo_told_34 (by decide) ?_
              refine lv_iadd (pc := 35) hx hb d_Mo_told_35 ?_
              refine lv_topi (fun v6 ev6 => ?_)
              have hp := hp v6 ev6
              refine lv_istore_n (pc := 36) hx hb d_Mo_told_36 rfl hl (by decide) rfl (fun ls hl => ?_)
              have hl : lv_has ls 5 [(2, .int v6), (0, .ref (b + a0)), (1, .int a1), (3, .int a3), (4, .int a4)] := hl
              obtain ⟨v7, ev7⟩ : ∃ z : Int32, z = a4 + (1 : Int32) := ⟨_, rfl⟩
              have hp := hp v7 ev7
              refine lv_iinc (pc := 37) (k := 4) (v := v7) hx hb d_Mo_told_37 hl rfl ev7.symm (by decide) rfl (fun ls hl => ?_)
              have hl : lv_has ls 5 [(4, .int v7), (2, .int v6), (0, .ref (b + a0)), (1, .int a1), (3, .int a3)] := hl
              refine lv_goto (pc := 40) (tgt := 12) hx hb d_Mo_told_40 rfl ?_
              exact ih12  a0 a1 v6 a3 v7 ls _ _ f2 (lv_sub hl [2, 3, 1, 4, 0] rfl) hw hp
        obtain ⟨N12, hp⟩ := hp
        exact L12 N12 a0 a1 a2 a3 (0 : Int32) ls _ _ f1 (lv_sub hl [1, 2, 3, 4, 0] rfl) hw hp
  refine lv_iconst (v := 0) (pc := 0) hx hb d_Mo_told_0 (by decide) ?_
  refine lv_istore_n (pc := 1) hx hb d_Mo_told_1 rfl hl (by decide) rfl (fun ls hl => ?_)
  have hl : lv_has ls 5 [(2, .int (0 : Int32)), (0, .ref (b + h)), (1, .int x1)] := hl
  refine lv_iconst (v := 0) (pc := 2) hx hb d_Mo_told_2 (by decide) ?_
  refine lv_istore_n (pc := 3) hx hb d_Mo_told_3 rfl hl (by decide) rfl (fun ls hl => ?_)
  have hl : lv_has ls 5 [(3, .int (0 : Int32)), (2, .int (0 : Int32)), (0, .ref (b + h)), (1, .int x1)] := hl
  obtain ⟨N4, hp⟩ := hp
  exact L4 N4 h x1 (0 : Int32) (0 : Int32) ls _ _ k0 (lv_sub hl [2, 3, 1, 0] rfl) hw hp
set_option maxHeartbeats 4000000 in
set_option maxRecDepth 100000 in
theorem c_Mo_init (l : Launch) (D : va_G) (dA : Nat → ClassId) (b n : Nat) (T : mT) (R : mR) (M : mM) (h : Nat) (x1 : Int32) (x2 : Int32) (Q : Nat → mT → mR → mM → Prop) : Met l y_Mo_init (Cond.code y_Mo_init b_Mo_init 4 none :: tW) ({ frames := 3, cells := 33, slots := 2500, locals := 68 }) (Pm D dA b n T R M (b + n + 1) [.ref (b + h), .int x1, .int x2] (w_Mo_init n T R M h x1 x2 Q)) (Qva D dA b  Q) 33 2500 (Ab b) := by
  refine fm_body (Ab b) (by decide) (Nat.le_of_ble_eq_true rfl) (fun k h0 _ => show b < b + k by omega) (fun p e s m below meth c ls hC hr hlk hnm hl hw hp => ?_)
  have hx := hC.1.1
  have hb := hC.1.2.1
  have hl : lv_has ls 4 [(0, .ref (b + h)), (1, .int x1), (2, .int x2)] := hl
  generalize hav : (List.toArray ([.ref (b + h), .int x1, .int x2] : List Value)) = av at hC ⊢
  unfold w_Mo_init at hp
  obtain ⟨k0, hp⟩ := hp
  have L409 : ∀ (N409 : Nat) (a0 : Nat) (a3 : Int32) (n : Nat) (T : mT) (R : mR) (M : mM) (cs : Nat) (sl : Nat) (ls : Array Slot) (H : Heap) (locs : List Loc), ok T n a0 11 → cs ≤ 33 ∧ sl ≤ 2500 → lv_has ls 4 [(0, .ref (b + a0)), (3, .int a3)] → St D dA (Ab b) b n T R M (b + n + 1) s.heap H locs → w_Mo_init_L409 Q a0 N409 a3 n T R M cs sl → W p l e ({ frames := 3, cells := 33, slots := 2500, locals := 68 }) s m av below meth c H locs cs sl (MQ below (Qva D dA b  Q) av s 33 2500 (Ab b)) (F0 m 409 ls []) := by
    intro N409
    induction N409 with
    | zero => intro a0 a3 n T R M cs sl ls H locs f184 hcs hl hw hp; exact False.elim hp
    | succ N409 ih409 =>
      intro a0 a3 n T R M cs sl ls H locs f184 hcs hl hw hp
      unfold w_Mo_init_L409 at hp
      refine lv_iload_n (pc := 409) hx hb d_Mo_init_409 rfl (lv_at hl 1 rfl) ?_
      refine lv_iconst (v := 2) (pc := 410) hx hb d_Mo_init_410 (by decide) ?_
      refine lv_icmp_ge (pc := 411) (tgt := 427) hx hb d_Mo_init_411 rfl (fun hc => ?_) (fun hc => ?_)
      · have hp := hp.1 hc
        refine W.widen (k := 33) (n := 2500) hcs.1 hcs.2 ?_
        exact ret_va hC hr hlk hw hp d_Mo_init_427
      · have hp := hp.2 hc
        refine lv_aload_n (pc := 414) hx hb d_Mo_init_414 rfl (lv_at hl 0 rfl) ?_
        obtain ⟨k185, hp⟩ := hp
        refine gf_Mo_65 (pc := 415) hC hw f184 (Nat.ne_of_gt k185.1) d_Mo_init_415 ?_
        refine lv_iload_n (pc := 418) hx hb d_Mo_init_418 rfl (lv_at hl 1 rfl) ?_
        refine lv_iconst (v := -1) (pc := 419) hx hb d_Mo_init_419 (by decide) ?_
        obtain ⟨k186, hp⟩ := hp
        refine fm_iast (pc := 420) hC hw k185 k186 rfl d_Mo_init_420 (fun M187 H locs eM187 hw => ?_)
        have hp := hp M187 eM187
        obtain ⟨v188, ev188⟩ : ∃ z : Int32, z = a3 + (1 : Int32) := ⟨_, rfl⟩
        have hp := hp v188 ev188
        refine lv_iinc (pc := 421) (k := 1) (v := v188) hx hb d_Mo_init_421 hl rfl ev188.symm (by decide) rfl (fun ls hl => ?_)
        have hl : lv_has ls 4 [(3, .int v188), (0, .ref (b + a0))] := hl
        refine lv_goto (pc := 424) (tgt := 409) hx hb d_Mo_init_424 rfl ?_
        exact ih409  a0 v188 n T R M187 cs sl ls _ _ f184 (by omega) (lv_sub hl [1, 0] rfl) hw hp
  have L387 : ∀ (N387 : Nat) (a0 : Nat) (a3 : Int32) (n : Nat) (T : mT) (R : mR) (M : mM) (cs : Nat) (sl : Nat) (ls : Array Slot) (H : Heap) (locs : List Loc), ok T n a0 11 → cs ≤ 33 ∧ sl ≤ 2500 → lv_has ls 4 [(0, .ref (b + a0)), (3, .int a3)] → St D dA (Ab b) b n T R M (b + n + 1) s.heap H locs → w_Mo_init_L387 Q a0 N387 a3 n T R M cs sl → W p l e ({ frames := 3, cells := 33, slots := 2500, locals := 68 }) s m av below meth c H locs cs sl (MQ below (Qva D dA b  Q) av s 33 2500 (Ab b)) (F0 m 387 ls []) := by
    intro N387
    induction N387 with
    | zero => intro a0 a3 n T R M cs sl ls H locs f183 hcs hl hw hp; exact False.elim hp
    | succ N387 ih387 =>
      intro a0 a3 n T R M cs sl ls H locs f183 hcs hl hw hp
      unfold w_Mo_init_L387 at hp
      refine lv_iload_n (pc := 387) hx hb d_Mo_init_387 rfl (lv_at hl 1 rfl) ?_
      refine lv_sipush (v := 128) (pc := 388) hx hb d_Mo_init_388 (by decide) ?_
      refine lv_icmp_ge (pc := 391) (tgt := 407) hx hb d_Mo_init_391 rfl (fun hc => ?_) (fun hc => ?_)
      · have hp := hp.1 hc
        refine lv_iconst (v := 0) (pc := 407) hx hb d_Mo_init_407 (by decide) ?_
        refine lv_istore_n (pc := 408) hx hb d_Mo_init_408 rfl hl (by decide) rfl (fun ls hl => ?_)
        have hl : lv_has ls 4 [(3, .int (0 : Int32)), (0, .ref (b + a0))] := hl
        obtain ⟨N409, hp⟩ := hp
        exact L409 N409 a0 (0 : Int32) n T R M cs sl ls _ _ f183 (by omega) (lv_sub hl [1, 0] rfl) hw hp
      · have hp := hp.2 hc
        refine lv_aload_n (pc := 394) hx hb d_Mo_init_394 rfl (lv_at hl 0 rfl) ?_
        obtain ⟨k189, hp⟩ := hp
        refine gf_Mo_53 (pc := 395) hC hw f183 (Nat.ne_of_gt k189.1) d_Mo_init_395 ?_
        refine lv_iload_n (pc := 398) hx hb d_Mo_init_398 rfl (lv_at hl 1 rfl) ?_
        refine lv_iconst (v := -1) (pc := 399) hx hb d_Mo_init_399 (by decide) ?_
        obtain ⟨k190, hp⟩ := hp
        refine fm_iast (pc := 400) hC hw k189 k190 rfl d_Mo_init_400 (fun M191 H locs eM191 hw => ?_)
        have hp := hp M191 eM191
        obtain ⟨v192, ev192⟩ : ∃ z : Int32, z = a3 + (1 : Int32) := ⟨_, rfl⟩
        have hp := hp v192 ev192
        refine lv_iinc (pc := 401) (k := 1) (v := v192) hx hb d_Mo_init_401 hl rfl ev192.symm (by decide) rfl (fun ls hl => ?_)
        have hl : lv_has ls 4 [(3, .int v192), (0, .ref (b + a0))] := hl
        refine lv_goto (pc := 404) (tgt := 387) hx hb d_Mo_init_404 rfl ?_
        exact ih387  a0 v192 n T R M191 cs sl ls _ _ f183 (by omega) (lv_sub hl [1, 0] rfl) hw hp
  have L366 : ∀ (N366 : Nat) (a0 : Nat) (a3 : Int32) (n : Nat) (T : mT) (R : mR) (M : mM) (cs : Nat) (sl : Nat) (ls : Array Slot) (H : Heap) (locs : List Loc), ok T n a0 11 → cs ≤ 33 ∧ sl ≤ 2500 → lv_has ls 4 [(0, .ref (b + a0)), (3, .int a3)] → St D dA (Ab b) b n T R M (b + n + 1) s.heap H locs → w_Mo_init_L366 Q a0 N366 a3 n T R M cs sl → W p l e ({ frames := 3, cells := 33, slots := 2500, locals := 68 }) s m av below meth c H locs cs sl (MQ below (Qva D dA b  Q) av s 33 2500 (Ab b)) (F0 m 366 ls []) := by
    intro N366
    induction N366 with
    | zero => intro a0 a3 n T R M cs sl ls H locs f182 hcs hl hw hp; exact False.elim hp
    | succ N366 ih366 =>
      intro a0 a3 n T R M cs sl ls H locs f182 hcs hl hw hp
      unfold w_Mo_init_L366 at hp
      refine lv_iload_n (pc := 366) hx hb d_Mo_init_366 rfl (lv_at hl 1 rfl) ?_
      refine lv_bipush (v := 8) (pc := 367) hx hb d_Mo_init_367 (by decide) ?_
      refine lv_icmp_ge (pc := 369) (tgt := 385) hx hb d_Mo_init_369 rfl (fun hc => ?_) (fun hc => ?_)
      · have hp := hp.1 hc
        refine lv_iconst (v := 0) (pc := 385) hx hb d_Mo_init_385 (by decide) ?_
        refine lv_istore_n (pc := 386) hx hb d_Mo_init_386 rfl hl (by decide) rfl (fun ls hl => ?_)
        have hl : lv_has ls 4 [(3, .int (0 : Int32)), (0, .ref (b + a0))] := hl
        obtain ⟨N387, hp⟩ := hp
        exact L387 N387 a0 (0 : Int32) n T R M cs sl ls _ _ f182 (by omega) (lv_sub hl [1, 0] rfl) hw hp
      · have hp := hp.2 hc
        refine lv_aload_n (pc := 372) hx hb d_Mo_init_372 rfl (lv_at hl 0 rfl) ?_
        obtain ⟨k193, hp⟩ := hp
        refine gf_Mo_50 (pc := 373) hC hw f182 (Nat.ne_of_gt k193.1) d_Mo_init_373 ?_
        refine lv_iload_n (pc := 376) hx hb d_Mo_init_376 rfl (lv_at hl 1 rfl) ?_
        refine lv_iconst (v := -1) (pc := 377) hx hb d_Mo_init_377 (by decide) ?_
        obtain ⟨k194, hp⟩ := hp
        refine fm_iast (pc := 378) hC hw k193 k194 rfl d_Mo_init_378 (fun M195 H locs eM195 hw => ?_)
        have hp := hp M195 eM195
        obtain ⟨v196, ev196⟩ : ∃ z : Int32, z = a3 + (1 : Int32) := ⟨_, rfl⟩
        have hp := hp v196 ev196
        refine lv_iinc (pc := 379) (k := 1) (v := v196) hx hb d_Mo_init_379 hl rfl ev196.symm (by decide) rfl (fun ls hl => ?_)
        have hl : lv_has ls 4 [(3, .int v196), (0, .ref (b + a0))] := hl
        refine lv_goto (pc := 382) (tgt := 366) hx hb d_Mo_init_382 rfl ?_
        exact ih366  a0 v196 n T R M195 cs sl ls _ _ f182 (by omega) (lv_sub hl [1, 0] rfl) hw hp
  have B289 : ∀ (a0 : Nat) (a1 : Int32) (s0 : Nat) (s1 : Int32) (n : Nat) (T : mT) (R : mR) (M : mM) (cs : Nat) (sl : Nat) (ls : Array Slot) (H : Heap) (locs : List Loc), ok T n a0 11 → ok T n s0 11 → cs ≤ 33 ∧ sl ≤ 2500 → lv_has ls 4 [(0, .ref (b + a0)), (1, .int a1)] → St D dA (Ab b) b n T R M (b + n + 1) s.heap H locs → w_Mo_init_B289 Q a0 a1 s0 s1 n T R M cs sl → W p l e ({ frames := 3, cells := 33, slots := 2500, locals := 68 }) s m av below meth c H locs cs sl (MQ below (Qva D dA b  Q) av s 33 2500 (Ab b)) (F0 m 289 ls [.int s1, .ref (b + s0)]) := by
    intro a0 a1 s0 s1 n T R M cs sl ls H locs f166 f167 hcs hl hw hp
    unfold w_Mo_init_B289 at hp
    refine pf_Mo_110 (pc := 289) hC hw f167 hnm d_Mo_init_289 (fun M168 H locs eM168 hw => ?_)
    have hp := hp M168 eM168
    refine lv_aload_n (pc := 292) hx hb d_Mo_init_292 rfl (lv_at hl 0 rfl) ?_
    refine lv_bipush (v := 12) (pc := 293) hx hb d_Mo_init_293 (by decide) ?_
    refine lv_iload_n (pc := 295) hx hb d_Mo_init_295 rfl (lv_at hl 1 rfl) ?_
    refine lv_bipush (v := 31) (pc := 296) hx hb d_Mo_init_296 (by decide) ?_
    refine lv_iand (pc := 298) hx hb d_Mo_init_298 ?_
    refine lv_iadd (pc := 299) hx hb d_Mo_init_299 ?_
    refine pf_Mo_114 (pc := 300) hC hw f166 hnm d_Mo_init_300 (fun M169 H locs eM169 hw => ?_)
    have hp := hp M169 eM169
    refine lv_aload_n (pc := 303) hx hb d_Mo_init_303 rfl (lv_at hl 0 rfl) ?_
    refine lv_iload_n (pc := 304) hx hb d_Mo_init_304 rfl (lv_at hl 1 rfl) ?_
    refine lv_iconst (v := 1) (pc := 305) hx hb d_Mo_init_305 (by decide) ?_
    refine call_ip (pc := 306) (fun _ h => h.1) hw (fm_runS (As := [.int a1, .int (1 : Int32)]) (rest := [.ref (b + a0)]) hC hw (c_Mo_mix l D dA b n T R M169 (b + n + 1) a1 (1 : Int32) _) cy_Mo_mix hp rfl rfl mw_359 mw_360 ⟨Nat.le_of_ble_eq_true rfl, Nat.le_of_ble_eq_true rfl⟩ rfl hl.1 rfl (Nat.le_of_ble_eq_true rfl) d_Mo_init_306 ⟨(show cs + 0 ≤ 33 by omega), (show sl + 0 ≤ 2500 by omega)⟩) (fun r170 H locs hp hw => ?_)
    refine pf_Mo_121 (pc := 309) hC hw f166 hnm d_Mo_init_309 (fun M171 H locs eM171 hw => ?_)
    have hp := hp M171 eM171
    refine lv_aload_n (pc := 312) hx hb d_Mo_init_312 rfl (lv_at hl 0 rfl) ?_
    refine lv_iload_n (pc := 313) hx hb d_Mo_init_313 rfl (lv_at hl 1 rfl) ?_
    refine lv_iconst (v := 2) (pc := 314) hx hb d_Mo_init_314 (by decide) ?_
    refine call_ip (pc := 315) (fun _ h => h.1) hw (fm_runS (As := [.int a1, .int (2 : Int32)]) (rest := [.ref (b + a0)]) hC hw (c_Mo_mix l D dA b n T R M171 (b + n + 1) a1 (2 : Int32) _) cy_Mo_mix hp rfl rfl mw_359 mw_360 ⟨Nat.le_of_ble_eq_true rfl, Nat.le_of_ble_eq_true rfl⟩ rfl hl.1 rfl (Nat.le_of_ble_eq_true rfl) d_Mo_init_315 ⟨(show cs + 0 ≤ 33 by omega), (show sl + 0 ≤ 2500 by omega)⟩) (fun r172 H locs hp hw => ?_)
    refine pf_Mo_124 (pc := 318) hC hw f166 hnm d_Mo_init_318 (fun M173 H locs eM173 hw => ?_)
    have hp := hp M173 eM173
    refine lv_aload_n (pc := 321) hx hb d_Mo_init_321 rfl (lv_at hl 0 rfl) ?_
    refine lv_aload_n (pc := 322) hx hb d_Mo_init_322 rfl (lv_at hl 0 rfl) ?_
    refine gf_Mo_124 (pc := 323) hC hw f166 d_Mo_init_323 ?_
    refine lv_aload_n (pc := 326) hx hb d_Mo_init_326 rfl (lv_at hl 0 rfl) ?_
    refine gf_Mo_121 (pc := 327) hC hw f166 d_Mo_init_327 ?_
    refine call_ip (pc := 330) (fun _ h => h.1) hw (fm_runS (As := [.int (M173 a0 3), .int (M173 a0 2)]) (rest := [.ref (b + a0)]) hC hw (c_Mo_mix l D dA b n T R M173 (b + n + 1) (M173 a0 3) (M173 a0 2) _) cy_Mo_mix hp rfl rfl mw_359 mw_360 ⟨Nat.le_of_ble_eq_true rfl, Nat.le_of_ble_eq_true rfl⟩ rfl hl.1 rfl (Nat.le_of_ble_eq_true rfl) d_Mo_init_330 ⟨(show cs + 0 ≤ 33 by omega), (show sl + 0 ≤ 2500 by omega)⟩) (fun r174 H locs hp hw => ?_)
    refine pf_Mo_127 (pc := 333) hC hw f166 hnm d_Mo_init_333 (fun M175 H locs eM175 hw => ?_)
    have hp := hp M175 eM175
    refine lv_aload_n (pc := 336) hx hb d_Mo_init_336 rfl (lv_at hl 0 rfl) ?_
    refine lv_aload_n (pc := 337) hx hb d_Mo_init_337 rfl (lv_at hl 0 rfl) ?_
    refine lv_bipush (v := 6) (pc := 338) hx hb d_Mo_init_338 (by decide) ?_
    refine call_ip (pc := 340) (fun _ h => h.1) hw (fm_runV (As := [.int (6 : Int32)]) (rest := [.ref (b + a0)]) hC hw (c_Mo_told l D dA b n T R M175 (b + n + 1) a0 (6 : Int32) _) cy_Mo_told hp rfl rfl mw_369 mw_370 mw_371 (rfl : classes[11]? = _) (by decide) f166 ⟨Nat.le_of_ble_eq_true rfl, Nat.le_of_ble_eq_true rfl⟩ rfl hl.1 rfl (Nat.le_of_ble_eq_true rfl) d_Mo_init_340 ⟨(show cs + 0 ≤ 33 by omega), (show sl + 0 ≤ 2500 by omega)⟩) (fun r176 H locs hp hw => ?_)
    refine lv_iconst (v := 2) (pc := 343) hx hb d_Mo_init_343 (by decide) ?_
    refine call_ip (pc := 344) (fun _ h => h.1) hw (fm_runS (As := [.int r176, .int (2 : Int32)]) (rest := [.ref (b + a0)]) hC hw (c_Mo_mix l D dA b n T R M175 (b + n + 1) r176 (2 : Int32) _) cy_Mo_mix hp rfl rfl mw_359 mw_360 ⟨Nat.le_of_ble_eq_true rfl, Nat.le_of_ble_eq_true rfl⟩ rfl hl.1 rfl (Nat.le_of_ble_eq_true rfl) d_Mo_init_344 ⟨(show cs + 0 ≤ 33 by omega), (show sl + 0 ≤ 2500 by omega)⟩) (fun r177 H locs hp hw => ?_)
    refine pf_Mo_134 (pc := 347) hC hw f166 d_Mo_init_347 (fun M178 H locs eM178 hw => ?_)
    have hp := hp M178 eM178
    refine lv_aload_n (pc := 350) hx hb d_Mo_init_350 rfl (lv_at hl 0 rfl) ?_
    refine lv_aload_n (pc := 351) hx hb d_Mo_init_351 rfl (lv_at hl 0 rfl) ?_
    refine lv_bipush (v := 7) (pc := 352) hx hb d_Mo_init_352 (by decide) ?_
    refine call_ip (pc := 354) (fun _ h => h.1) hw (fm_runV (As := [.int (7 : Int32)]) (rest := [.ref (b + a0)]) hC hw (c_Mo_told l D dA b n T R M178 (b + n + 1) a0 (7 : Int32) _) cy_Mo_told hp rfl rfl mw_369 mw_370 mw_371 (rfl : classes[11]? = _) (by decide) f166 ⟨Nat.le_of_ble_eq_true rfl, Nat.le_of_ble_eq_true rfl⟩ rfl hl.1 rfl (Nat.le_of_ble_eq_true rfl) d_Mo_init_354 ⟨(show cs + 0 ≤ 33 by omega), (show sl + 0 ≤ 2500 by omega)⟩) (fun r179 H locs hp hw => ?_)
    refine lv_iconst (v := 1) (pc := 357) hx hb d_Mo_init_357 (by decide) ?_
    refine call_ip (pc := 358) (fun _ h => h.1) hw (fm_runS (As := [.int r179, .int (1 : Int32)]) (rest := [.ref (b + a0)]) hC hw (c_Mo_mix l D dA b n T R M178 (b + n + 1) r179 (1 : Int32) _) cy_Mo_mix hp rfl rfl mw_359 mw_360 ⟨Nat.le_of_ble_eq_true rfl, Nat.le_of_ble_eq_true rfl⟩ rfl hl.1 rfl (Nat.le_of_ble_eq_true rfl) d_Mo_init_358 ⟨(show cs + 0 ≤ 33 by omega), (show sl + 0 ≤ 2500 by omega)⟩) (fun r180 H locs hp hw => ?_)
    refine pf_Mo_137 (pc := 361) hC hw f166 d_Mo_init_361 (fun M181 H locs eM181 hw => ?_)
    have hp := hp M181 eM181
    refine lv_iconst (v := 0) (pc := 364) hx hb d_Mo_init_364 (by decide) ?_
    refine lv_istore_n (pc := 365) hx hb d_Mo_init_365 rfl hl (by decide) rfl (fun ls hl => ?_)
    have hl : lv_has ls 4 [(3, .int (0 : Int32)), (0, .ref (b + a0)), (1, .int a1)] := hl
    obtain ⟨N366, hp⟩ := hp
    exact L366 N366 a0 (0 : Int32) n T R M181 cs sl ls _ _ f166 (by omega) (lv_sub hl [1, 0] rfl) hw hp
  refine lv_aload_n (pc := 0) hx hb d_Mo_init_0 rfl (lv_at hl 0 rfl) ?_
  refine W.objInit hx hb hC.1.2.2.2.1 (hC.1.2.2.2.2 _ mw_367) (hC.1.2.2.2.2 _ mw_1) (hC.1.2.2.2.2 _ mw_2) rfl (hl.1.trans hC.1.2.2.1.symm) rfl d_Mo_init_1 (Nat.le_of_ble_eq_true rfl) (Nat.le_of_ble_eq_true rfl) ?_
  refine W.eq (g2 := F0 m 4 ls []) rfl ?_
  refine lv_aload_n (pc := 4) hx hb d_Mo_init_4 rfl (lv_at hl 0 rfl) ?_
  refine lv_bipush (v := 60) (pc := 5) hx hb d_Mo_init_5 (by decide) ?_
  refine fm_newi (pc := 7) (N' := 60) hC hw mw_3 (by decide) (by decide) (by decide) (Nat.le_of_ble_eq_true rfl) (Nat.le_of_ble_eq_true rfl) d_Mo_init_7 (fun T1 R2 M3 H eT1 eR2 eM3 hw => ?_)
  have hp := hp T1 R2 M3 eT1 eR2 eM3
  have k0 := (ok_push eT1 k0 : _)
  have k4 := ok_new eT1
  refine W.widen (k := 1) (n := 60) (Nat.le_of_ble_eq_true rfl) (Nat.le_of_ble_eq_true rfl) ?_
  refine pf_Mo_7 (pc := 9) hC hw k0 hnm (Nat.ne_of_gt k4.1) d_Mo_init_9 (fun R5 H locs eR5 hw => ?_)
  have hp := hp R5 eR5
  refine lv_aload_n (pc := 12) hx hb d_Mo_init_12 rfl (lv_at hl 0 rfl) ?_
  refine lv_bipush (v := 60) (pc := 13) hx hb d_Mo_init_13 (by decide) ?_
  refine fm_newi (pc := 15) (N' := 60) hC hw mw_3 (by decide) (by decide) (by decide) (Nat.le_of_ble_eq_true rfl) (Nat.le_of_ble_eq_true rfl) d_Mo_init_15 (fun T6 R7 M8 H eT6 eR7 eM8 hw => ?_)
  have hp := hp T6 R7 M8 eT6 eR7 eM8
  have k0 := (ok_push eT6 k0 : _)
  have k4 := (ok_push eT6 k4 : _)
  have k9 := ok_new eT6
  refine W.widen (k := 2) (n := 120) (Nat.le_of_ble_eq_true rfl) (Nat.le_of_ble_eq_true rfl) ?_
  refine pf_Mo_13 (pc := 17) hC hw k0 hnm (Nat.ne_of_gt k9.1) d_Mo_init_17 (fun R10 H locs eR10 hw => ?_)
  have hp := hp R10 eR10
  refine lv_aload_n (pc := 20) hx hb d_Mo_init_20 rfl (lv_at hl 0 rfl) ?_
  refine lv_bipush (v := 60) (pc := 21) hx hb d_Mo_init_21 (by decide) ?_
  refine fm_newi (pc := 23) (N' := 60) hC hw mw_3 (by decide) (by decide) (by decide) (Nat.le_of_ble_eq_true rfl) (Nat.le_of_ble_eq_true rfl) d_Mo_init_23 (fun T11 R12 M13 H eT11 eR12 eM13 hw => ?_)
  have hp := hp T11 R12 M13 eT11 eR12 eM13
  have k0 := (ok_push eT11 k0 : _)
  have k4 := (ok_push eT11 k4 : _)
  have k9 := (ok_push eT11 k9 : _)
  have k14 := ok_new eT11
  refine W.widen (k := 3) (n := 180) (Nat.le_of_ble_eq_true rfl) (Nat.le_of_ble_eq_true rfl) ?_
  refine pf_Mo_16 (pc := 25) hC hw k0 hnm (Nat.ne_of_gt k14.1) d_Mo_init_25 (fun R15 H locs eR15 hw => ?_)
  have hp := hp R15 eR15
  refine lv_aload_n (pc := 28) hx hb d_Mo_init_28 rfl (lv_at hl 0 rfl) ?_
  refine lv_bipush (v := 60) (pc := 29) hx hb d_Mo_init_29 (by decide) ?_
  refine fm_newi (pc := 31) (N' := 60) hC hw mw_3 (by decide) (by decide) (by decide) (Nat.le_of_ble_eq_true rfl) (Nat.le_of_ble_eq_true rfl) d_Mo_init_31 (fun T16 R17 M18 H eT16 eR17 eM18 hw => ?_)
  have hp := hp T16 R17 M18 eT16 eR17 eM18
  have k0 := (ok_push eT16 k0 : _)
  have k4 := (ok_push eT16 k4 : _)
  have k9 := (ok_push eT16 k9 : _)
  have k14 := (ok_push eT16 k14 : _)
  have k19 := ok_new eT16
  refine W.widen (k := 4) (n := 240) (Nat.le_of_ble_eq_true rfl) (Nat.le_of_ble_eq_true rfl) ?_
  refine pf_Mo_19 (pc := 33) hC hw k0 hnm (Nat.ne_of_gt k19.1) d_Mo_init_33 (fun R20 H locs eR20 hw => ?_)
  have hp := hp R20 eR20
  refine lv_aload_n (pc := 36) hx hb d_Mo_init_36 rfl (lv_at hl 0 rfl) ?_
  refine lv_bipush (v := 60) (pc := 37) hx hb d_Mo_init_37 (by decide) ?_
  refine fm_newz (pc := 39) (N' := 60) hC hw mw_368 (by decide) (by decide) (by decide) (Nat.le_of_ble_eq_true rfl) (Nat.le_of_ble_eq_true rfl) d_Mo_init_39 (fun T21 R22 M23 H eT21 eR22 eM23 hw => ?_)
  have hp := hp T21 R22 M23 eT21 eR22 eM23
  have k0 := (ok_push eT21 k0 : _)
  have k4 := (ok_push eT21 k4 : _)
  have k9 := (ok_push eT21 k9 : _)
  have k14 := (ok_push eT21 k14 : _)
  have k19 := (ok_push eT21 k19 : _)
  have k24 := ok_new eT21
  refine W.widen (k := 5) (n := 300) (Nat.le_of_ble_eq_true rfl) (Nat.le_of_ble_eq_true rfl) ?_
  refine pf_Mo_22 (pc := 41) hC hw k0 hnm (Nat.ne_of_gt k24.1) d_Mo_init_41 (fun R25 H locs eR25 hw => ?_)
  have hp := hp R25 eR25
  refine lv_aload_n (pc := 44) hx hb d_Mo_init_44 rfl (lv_at hl 0 rfl) ?_
  refine lv_bipush (v := 60) (pc := 45) hx hb d_Mo_init_45 (by decide) ?_
  refine fm_newi (pc := 47) (N' := 60) hC hw mw_3 (by decide) (by decide) (by decide) (Nat.le_of_ble_eq_true rfl) (Nat.le_of_ble_eq_true rfl) d_Mo_init_47 (fun T26 R27 M28 H eT26 eR27 eM28 hw => ?_)
  have hp := hp T26 R27 M28 eT26 eR27 eM28
  have k0 := (ok_push eT26 k0 : _)
  have k4 := (ok_push eT26 k4 : _)
  have k9 := (ok_push eT26 k9 : _)
  have k14 := (ok_push eT26 k14 : _)
  have k19 := (ok_push eT26 k19 : _)
  have k24 := (ok_push eT26 k24 : _)
  have k29 := ok_new eT26
  refine W.widen (k := 6) (n := 360) (Nat.le_of_ble_eq_true rfl) (Nat.le_of_ble_eq_true rfl) ?_
  refine pf_Mo_26 (pc := 49) hC hw k0 hnm (Nat.ne_of_gt k29.1) d_Mo_init_49 (fun R30 H locs eR30 hw => ?_)
  have hp := hp R30 eR30
  refine lv_aload_n (pc := 52) hx hb d_Mo_init_52 rfl (lv_at hl 0 rfl) ?_
  refine lv_bipush (v := 60) (pc := 53) hx hb d_Mo_init_53 (by decide) ?_
  refine fm_newi (pc := 55) (N' := 60) hC hw mw_3 (by decide) (by decide) (by decide) (Nat.le_of_ble_eq_true rfl) (Nat.le_of_ble_eq_true rfl) d_Mo_init_55 (fun T31 R32 M33 H eT31 eR32 eM33 hw => ?_)
  have hp := hp T31 R32 M33 eT31 eR32 eM33
  have k0 := (ok_push eT31 k0 : _)
  have k4 := (ok_push eT31 k4 : _)
  have k9 := (ok_push eT31 k9 : _)
  have k14 := (ok_push eT31 k14 : _)
  have k19 := (ok_push eT31 k19 : _)
  have k24 := (ok_push eT31 k24 : _)
  have k29 := (ok_push eT31 k29 : _)
  have k34 := ok_new eT31
  refine W.widen (k := 7) (n := 420) (Nat.le_of_ble_eq_true rfl) (Nat.le_of_ble_eq_true rfl) ?_
  refine pf_Mo_29 (pc := 57) hC hw k0 hnm (Nat.ne_of_gt k34.1) d_Mo_init_57 (fun R35 H locs eR35 hw => ?_)
  have hp := hp R35 eR35
  refine lv_aload_n (pc := 60) hx hb d_Mo_init_60 rfl (lv_at hl 0 rfl) ?_
  refine lv_bipush (v := 60) (pc := 61) hx hb d_Mo_init_61 (by decide) ?_
  refine fm_newi (pc := 63) (N' := 60) hC hw mw_3 (by decide) (by decide) (by decide) (Nat.le_of_ble_eq_true rfl) (Nat.le_of_ble_eq_true rfl) d_Mo_init_63 (fun T36 R37 M38 H eT36 eR37 eM38 hw => ?_)
  have hp := hp T36 R37 M38 eT36 eR37 eM38
  have k0 := (ok_push eT36 k0 : _)
  have k4 := (ok_push eT36 k4 : _)
  have k9 := (ok_push eT36 k9 : _)
  have k14 := (ok_push eT36 k14 : _)
  have k19 := (ok_push eT36 k19 : _)
  have k24 := (ok_push eT36 k24 : _)
  have k29 := (ok_push eT36 k29 : _)
  have k34 := (ok_push eT36 k34 : _)
  have k39 := ok_new eT36
  refine W.widen (k := 8) (n := 480) (Nat.le_of_ble_eq_true rfl) (Nat.le_of_ble_eq_true rfl) ?_
  refine pf_Mo_32 (pc := 65) hC hw k0 hnm (Nat.ne_of_gt k39.1) d_Mo_init_65 (fun R40 H locs eR40 hw => ?_)
  have hp := hp R40 eR40
  refine lv_aload_n (pc := 68) hx hb d_Mo_init_68 rfl (lv_at hl 0 rfl) ?_
  refine lv_sipush (v := 480) (pc := 69) hx hb d_Mo_init_69 (by decide) ?_
  refine fm_newi (pc := 72) (N' := 480) hC hw mw_3 (by decide) (by decide) (by decide) (Nat.le_of_ble_eq_true rfl) (Nat.le_of_ble_eq_true rfl) d_Mo_init_72 (fun T41 R42 M43 H eT41 eR42 eM43 hw => ?_)
  have hp := hp T41 R42 M43 eT41 eR42 eM43
  have k0 := (ok_push eT41 k0 : _)
  have k4 := (ok_push eT41 k4 : _)
  have k9 := (ok_push eT41 k9 : _)
  have k14 := (ok_push eT41 k14 : _)
  have k19 := (ok_push eT41 k19 : _)
  have k24 := (ok_push eT41 k24 : _)
  have k29 := (ok_push eT41 k29 : _)
  have k34 := (ok_push eT41 k34 : _)
  have k39 := (ok_push eT41 k39 : _)
  have k44 := ok_new eT41
  refine W.widen (k := 9) (n := 960) (Nat.le_of_ble_eq_true rfl) (Nat.le_of_ble_eq_true rfl) ?_
  refine pf_Mo_35 (pc := 74) hC hw k0 hnm (Nat.ne_of_gt k44.1) d_Mo_init_74 (fun R45 H locs eR45 hw => ?_)
  have hp := hp R45 eR45
  refine lv_aload_n (pc := 77) hx hb d_Mo_init_77 rfl (lv_at hl 0 rfl) ?_
  refine lv_sipush (v := 480) (pc := 78) hx hb d_Mo_init_78 (by decide) ?_
  refine fm_newi (pc := 81) (N' := 480) hC hw mw_3 (by decide) (by decide) (by decide) (Nat.le_of_ble_eq_true rfl) (Nat.le_of_ble_eq_true rfl) d_Mo_init_81 (fun T46 R47 M48 H eT46 eR47 eM48 hw => ?_)
  have hp := hp T46 R47 M48 eT46 eR47 eM48
  have k0 := (ok_push eT46 k0 : _)
  have k4 := (ok_push eT46 k4 : _)
  have k9 := (ok_push eT46 k9 : _)
  have k14 := (ok_push eT46 k14 : _)
  have k19 := (ok_push eT46 k19 : _)
  have k24 := (ok_push eT46 k24 : _)
  have k29 := (ok_push eT46 k29 : _)
  have k34 := (ok_push eT46 k34 : _)
  have k39 := (ok_push eT46 k39 : _)
  have k44 := (ok_push eT46 k44 : _)
  have k49 := ok_new eT46
  refine W.widen (k := 10) (n := 1440) (Nat.le_of_ble_eq_true rfl) (Nat.le_of_ble_eq_true rfl) ?_
  refine pf_Mo_38 (pc := 83) hC hw k0 hnm (Nat.ne_of_gt k49.1) d_Mo_init_83 (fun R50 H locs eR50 hw => ?_)
  have hp := hp R50 eR50
  refine lv_aload_n (pc := 86) hx hb d_Mo_init_86 rfl (lv_at hl 0 rfl) ?_
  refine lv_iconst (v := 2) (pc := 87) hx hb d_Mo_init_87 (by decide) ?_
  refine fm_newi (pc := 88) (N' := 2) hC hw mw_3 (by decide) (by decide) (by decide) (Nat.le_of_ble_eq_true rfl) (Nat.le_of_ble_eq_true rfl) d_Mo_init_88 (fun T51 R52 M53 H eT51 eR52 eM53 hw => ?_)
  have hp := hp T51 R52 M53 eT51 eR52 eM53
  have k0 := (ok_push eT51 k0 : _)
  have k4 := (ok_push eT51 k4 : _)
  have k9 := (ok_push eT51 k9 : _)
  have k14 := (ok_push eT51 k14 : _)
  have k19 := (ok_push eT51 k19 : _)
  have k24 := (ok_push eT51 k24 : _)
  have k29 := (ok_push eT51 k29 : _)
  have k34 := (ok_push eT51 k34 : _)
  have k39 := (ok_push eT51 k39 : _)
  have k44 := (ok_push eT51 k44 : _)
  have k49 := (ok_push eT51 k49 : _)
  have k54 := ok_new eT51
  refine W.widen (k := 11) (n := 1442) (Nat.le_of_ble_eq_true rfl) (Nat.le_of_ble_eq_true rfl) ?_
  refine pf_Mo_41 (pc := 90) hC hw k0 hnm (Nat.ne_of_gt k54.1) d_Mo_init_90 (fun R55 H locs eR55 hw => ?_)
  have hp := hp R55 eR55
  refine lv_aload_n (pc := 93) hx hb d_Mo_init_93 rfl (lv_at hl 0 rfl) ?_
  refine lv_iconst (v := 2) (pc := 94) hx hb d_Mo_init_94 (by decide) ?_
  refine fm_newi (pc := 95) (N' := 2) hC hw mw_3 (by decide) (by decide) (by decide) (Nat.le_of_ble_eq_true rfl) (Nat.le_of_ble_eq_true rfl) d_Mo_init_95 (fun T56 R57 M58 H eT56 eR57 eM58 hw => ?_)
  have hp := hp T56 R57 M58 eT56 eR57 eM58
  have k0 := (ok_push eT56 k0 : _)
  have k4 := (ok_push eT56 k4 : _)
  have k9 := (ok_push eT56 k9 : _)
  have k14 := (ok_push eT56 k14 : _)
  have k19 := (ok_push eT56 k19 : _)
  have k24 := (ok_push eT56 k24 : _)
  have k29 := (ok_push eT56 k29 : _)
  have k34 := (ok_push eT56 k34 : _)
  have k39 := (ok_push eT56 k39 : _)
  have k44 := (ok_push eT56 k44 : _)
  have k49 := (ok_push eT56 k49 : _)
  have k54 := (ok_push eT56 k54 : _)
  have k59 := ok_new eT56
  refine W.widen (k := 12) (n := 1444) (Nat.le_of_ble_eq_true rfl) (Nat.le_of_ble_eq_true rfl) ?_
  refine pf_Mo_44 (pc := 97) hC hw k0 hnm (Nat.ne_of_gt k59.1) d_Mo_init_97 (fun R60 H locs eR60 hw => ?_)
  have hp := hp R60 eR60
  refine lv_aload_n (pc := 100) hx hb d_Mo_init_100 rfl (lv_at hl 0 rfl) ?_
  refine lv_bipush (v := 8) (pc := 101) hx hb d_Mo_init_101 (by decide) ?_
  refine fm_newi (pc := 103) (N' := 8) hC hw mw_3 (by decide) (by decide) (by decide) (Nat.le_of_ble_eq_true rfl) (Nat.le_of_ble_eq_true rfl) d_Mo_init_103 (fun T61 R62 M63 H eT61 eR62 eM63 hw => ?_)
  have hp := hp T61 R62 M63 eT61 eR62 eM63
  have k0 := (ok_push eT61 k0 : _)
  have k4 := (ok_push eT61 k4 : _)
  have k9 := (ok_push eT61 k9 : _)
  have k14 := (ok_push eT61 k14 : _)
  have k19 := (ok_push eT61 k19 : _)
  have k24 := (ok_push eT61 k24 : _)
  have k29 := (ok_push eT61 k29 : _)
  have k34 := (ok_push eT61 k34 : _)
  have k39 := (ok_push eT61 k39 : _)
  have k44 := (ok_push eT61 k44 : _)
  have k49 := (ok_push eT61 k49 : _)
  have k54 := (ok_push eT61 k54 : _)
  have k59 := (ok_push eT61 k59 : _)
  have k64 := ok_new eT61
  refine W.widen (k := 13) (n := 1452) (Nat.le_of_ble_eq_true rfl) (Nat.le_of_ble_eq_true rfl) ?_
  refine pf_Mo_47 (pc := 105) hC hw k0 hnm (Nat.ne_of_gt k64.1) d_Mo_init_105 (fun R65 H locs eR65 hw => ?_)
  have hp := hp R65 eR65
  refine lv_aload_n (pc := 108) hx hb d_Mo_init_108 rfl (lv_at hl 0 rfl) ?_
  refine lv_bipush (v := 8) (pc := 109) hx hb d_Mo_init_109 (by decide) ?_
  refine fm_newi (pc := 111) (N' := 8) hC hw mw_3 (by decide) (by decide) (by decide) (Nat.le_of_ble_eq_true rfl) (Nat.le_of_ble_eq_true rfl) d_Mo_init_111 (fun T66 R67 M68 H eT66 eR67 eM68 hw => ?_)
  have hp := hp T66 R67 M68 eT66 eR67 eM68
  have k0 := (ok_push eT66 k0 : _)
  have k4 := (ok_push eT66 k4 : _)
  have k9 := (ok_push eT66 k9 : _)
  have k14 := (ok_push eT66 k14 : _)
  have k19 := (ok_push eT66 k19 : _)
  have k24 := (ok_push eT66 k24 : _)
  have k29 := (ok_push eT66 k29 : _)
  have k34 := (ok_push eT66 k34 : _)
  have k39 := (ok_push eT66 k39 : _)
  have k44 := (ok_push eT66 k44 : _)
  have k49 := (ok_push eT66 k49 : _)
  have k54 := (ok_push eT66 k54 : _)
  have k59 := (ok_push eT66 k59 : _)
  have k64 := (ok_push eT66 k64 : _)
  have k69 := ok_new eT66
  refine W.widen (k := 14) (n := 1460) (Nat.le_of_ble_eq_true rfl) (Nat.le_of_ble_eq_true rfl) ?_
  refine pf_Mo_50 (pc := 113) hC hw k0 hnm (Nat.ne_of_gt k69.1) d_Mo_init_113 (fun R70 H locs eR70 hw => ?_)
  have hp := hp R70 eR70
  refine lv_aload_n (pc := 116) hx hb d_Mo_init_116 rfl (lv_at hl 0 rfl) ?_
  refine lv_sipush (v := 128) (pc := 117) hx hb d_Mo_init_117 (by decide) ?_
  refine fm_newi (pc := 120) (N' := 128) hC hw mw_3 (by decide) (by decide) (by decide) (Nat.le_of_ble_eq_true rfl) (Nat.le_of_ble_eq_true rfl) d_Mo_init_120 (fun T71 R72 M73 H eT71 eR72 eM73 hw => ?_)
  have hp := hp T71 R72 M73 eT71 eR72 eM73
  have k0 := (ok_push eT71 k0 : _)
  have k4 := (ok_push eT71 k4 : _)
  have k9 := (ok_push eT71 k9 : _)
  have k14 := (ok_push eT71 k14 : _)
  have k19 := (ok_push eT71 k19 : _)
  have k24 := (ok_push eT71 k24 : _)
  have k29 := (ok_push eT71 k29 : _)
  have k34 := (ok_push eT71 k34 : _)
  have k39 := (ok_push eT71 k39 : _)
  have k44 := (ok_push eT71 k44 : _)
  have k49 := (ok_push eT71 k49 : _)
  have k54 := (ok_push eT71 k54 : _)
  have k59 := (ok_push eT71 k59 : _)
  have k64 := (ok_push eT71 k64 : _)
  have k69 := (ok_push eT71 k69 : _)
  have k74 := ok_new eT71
  refine W.widen (k := 15) (n := 1588) (Nat.le_of_ble_eq_true rfl) (Nat.le_of_ble_eq_true rfl) ?_
  refine pf_Mo_53 (pc := 122) hC hw k0 hnm (Nat.ne_of_gt k74.1) d_Mo_init_122 (fun R75 H locs eR75 hw => ?_)
  have hp := hp R75 eR75
  refine lv_aload_n (pc := 125) hx hb d_Mo_init_125 rfl (lv_at hl 0 rfl) ?_
  refine lv_iconst (v := 2) (pc := 126) hx hb d_Mo_init_126 (by decide) ?_
  refine fm_newi (pc := 127) (N' := 2) hC hw mw_3 (by decide) (by decide) (by decide) (Nat.le_of_ble_eq_true rfl) (Nat.le_of_ble_eq_true rfl) d_Mo_init_127 (fun T76 R77 M78 H eT76 eR77 eM78 hw => ?_)
  have hp := hp T76 R77 M78 eT76 eR77 eM78
  have k0 := (ok_push eT76 k0 : _)
  have k4 := (ok_push eT76 k4 : _)
  have k9 := (ok_push eT76 k9 : _)
  have k14 := (ok_push eT76 k14 : _)
  have k19 := (ok_push eT76 k19 : _)
  have k24 := (ok_push eT76 k24 : _)
  have k29 := (ok_push eT76 k29 : _)
  have k34 := (ok_push eT76 k34 : _)
  have k39 := (ok_push eT76 k39 : _)
  have k44 := (ok_push eT76 k44 : _)
  have k49 := (ok_push eT76 k49 : _)
  have k54 := (ok_push eT76 k54 : _)
  have k59 := (ok_push eT76 k59 : _)
  have k64 := (ok_push eT76 k64 : _)
  have k69 := (ok_push eT76 k69 : _)
  have k74 := (ok_push eT76 k74 : _)
  have k79 := ok_new eT76
  refine W.widen (k := 16) (n := 1590) (Nat.le_of_ble_eq_true rfl) (Nat.le_of_ble_eq_true rfl) ?_
  refine pf_Mo_56 (pc := 129) hC hw k0 hnm (Nat.ne_of_gt k79.1) d_Mo_init_129 (fun R80 H locs eR80 hw => ?_)
  have hp := hp R80 eR80
  refine lv_aload_n (pc := 132) hx hb d_Mo_init_132 rfl (lv_at hl 0 rfl) ?_
  refine lv_bipush (v := 16) (pc := 133) hx hb d_Mo_init_133 (by decide) ?_
  refine fm_newi (pc := 135) (N' := 16) hC hw mw_3 (by decide) (by decide) (by decide) (Nat.le_of_ble_eq_true rfl) (Nat.le_of_ble_eq_true rfl) d_Mo_init_135 (fun T81 R82 M83 H eT81 eR82 eM83 hw => ?_)
  have hp := hp T81 R82 M83 eT81 eR82 eM83
  have k0 := (ok_push eT81 k0 : _)
  have k4 := (ok_push eT81 k4 : _)
  have k9 := (ok_push eT81 k9 : _)
  have k14 := (ok_push eT81 k14 : _)
  have k19 := (ok_push eT81 k19 : _)
  have k24 := (ok_push eT81 k24 : _)
  have k29 := (ok_push eT81 k29 : _)
  have k34 := (ok_push eT81 k34 : _)
  have k39 := (ok_push eT81 k39 : _)
  have k44 := (ok_push eT81 k44 : _)
  have k49 := (ok_push eT81 k49 : _)
  have k54 := (ok_push eT81 k54 : _)
  have k59 := (ok_push eT81 k59 : _)
  have k64 := (ok_push eT81 k64 : _)
  have k69 := (ok_push eT81 k69 : _)
  have k74 := (ok_push eT81 k74 : _)
  have k79 := (ok_push eT81 k79 : _)
  have k84 := ok_new eT81
  refine W.widen (k := 17) (n := 1606) (Nat.le_of_ble_eq_true rfl) (Nat.le_of_ble_eq_true rfl) ?_
  refine pf_Mo_59 (pc := 137) hC hw k0 hnm (Nat.ne_of_gt k84.1) d_Mo_init_137 (fun R85 H locs eR85 hw => ?_)
  have hp := hp R85 eR85
  refine lv_aload_n (pc := 140) hx hb d_Mo_init_140 rfl (lv_at hl 0 rfl) ?_
  refine lv_bipush (v := 16) (pc := 141) hx hb d_Mo_init_141 (by decide) ?_
  refine fm_newi (pc := 143) (N' := 16) hC hw mw_3 (by decide) (by decide) (by decide) (Nat.le_of_ble_eq_true rfl) (Nat.le_of_ble_eq_true rfl) d_Mo_init_143 (fun T86 R87 M88 H eT86 eR87 eM88 hw => ?_)
  have hp := hp T86 R87 M88 eT86 eR87 eM88
  have k0 := (ok_push eT86 k0 : _)
  have k4 := (ok_push eT86 k4 : _)
  have k9 := (ok_push eT86 k9 : _)
  have k14 := (ok_push eT86 k14 : _)
  have k19 := (ok_push eT86 k19 : _)
  have k24 := (ok_push eT86 k24 : _)
  have k29 := (ok_push eT86 k29 : _)
  have k34 := (ok_push eT86 k34 : _)
  have k39 := (ok_push eT86 k39 : _)
  have k44 := (ok_push eT86 k44 : _)
  have k49 := (ok_push eT86 k49 : _)
  have k54 := (ok_push eT86 k54 : _)
  have k59 := (ok_push eT86 k59 : _)
  have k64 := (ok_push eT86 k64 : _)
  have k69 := (ok_push eT86 k69 : _)
  have k74 := (ok_push eT86 k74 : _)
  have k79 := (ok_push eT86 k79 : _)
  have k84 := (ok_push eT86 k84 : _)
  have k89 := ok_new eT86
  refine W.widen (k := 18) (n := 1622) (Nat.le_of_ble_eq_true rfl) (Nat.le_of_ble_eq_true rfl) ?_
  refine pf_Mo_62 (pc := 145) hC hw k0 hnm (Nat.ne_of_gt k89.1) d_Mo_init_145 (fun R90 H locs eR90 hw => ?_)
  have hp := hp R90 eR90
  refine lv_aload_n (pc := 148) hx hb d_Mo_init_148 rfl (lv_at hl 0 rfl) ?_
  refine lv_iconst (v := 2) (pc := 149) hx hb d_Mo_init_149 (by decide) ?_
  refine fm_newi (pc := 150) (N' := 2) hC hw mw_3 (by decide) (by decide) (by decide) (Nat.le_of_ble_eq_true rfl) (Nat.le_of_ble_eq_true rfl) d_Mo_init_150 (fun T91 R92 M93 H eT91 eR92 eM93 hw => ?_)
  have hp := hp T91 R92 M93 eT91 eR92 eM93
  have k0 := (ok_push eT91 k0 : _)
  have k4 := (ok_push eT91 k4 : _)
  have k9 := (ok_push eT91 k9 : _)
  have k14 := (ok_push eT91 k14 : _)
  have k19 := (ok_push eT91 k19 : _)
  have k24 := (ok_push eT91 k24 : _)
  have k29 := (ok_push eT91 k29 : _)
  have k34 := (ok_push eT91 k34 : _)
  have k39 := (ok_push eT91 k39 : _)
  have k44 := (ok_push eT91 k44 : _)
  have k49 := (ok_push eT91 k49 : _)
  have k54 := (ok_push eT91 k54 : _)
  have k59 := (ok_push eT91 k59 : _)
  have k64 := (ok_push eT91 k64 : _)
  have k69 := (ok_push eT91 k69 : _)
  have k74 := (ok_push eT91 k74 : _)
  have k79 := (ok_push eT91 k79 : _)
  have k84 := (ok_push eT91 k84 : _)
  have k89 := (ok_push eT91 k89 : _)
  have k94 := ok_new eT91
  refine W.widen (k := 19) (n := 1624) (Nat.le_of_ble_eq_true rfl) (Nat.le_of_ble_eq_true rfl) ?_
  refine pf_Mo_65 (pc := 152) hC hw k0 hnm (Nat.ne_of_gt k94.1) d_Mo_init_152 (fun R95 H locs eR95 hw => ?_)
  have hp := hp R95 eR95
  refine lv_aload_n (pc := 155) hx hb d_Mo_init_155 rfl (lv_at hl 0 rfl) ?_
  refine lv_iconst (v := 2) (pc := 156) hx hb d_Mo_init_156 (by decide) ?_
  refine fm_newi (pc := 157) (N' := 2) hC hw mw_3 (by decide) (by decide) (by decide) (Nat.le_of_ble_eq_true rfl) (Nat.le_of_ble_eq_true rfl) d_Mo_init_157 (fun T96 R97 M98 H eT96 eR97 eM98 hw => ?_)
  have hp := hp T96 R97 M98 eT96 eR97 eM98
  have k0 := (ok_push eT96 k0 : _)
  have k4 := (ok_push eT96 k4 : _)
  have k9 := (ok_push eT96 k9 : _)
  have k14 := (ok_push eT96 k14 : _)
  have k19 := (ok_push eT96 k19 : _)
  have k24 := (ok_push eT96 k24 : _)
  have k29 := (ok_push eT96 k29 : _)
  have k34 := (ok_push eT96 k34 : _)
  have k39 := (ok_push eT96 k39 : _)
  have k44 := (ok_push eT96 k44 : _)
  have k49 := (ok_push eT96 k49 : _)
  have k54 := (ok_push eT96 k54 : _)
  have k59 := (ok_push eT96 k59 : _)
  have k64 := (ok_push eT96 k64 : _)
  have k69 := (ok_push eT96 k69 : _)
  have k74 := (ok_push eT96 k74 : _)
  have k79 := (ok_push eT96 k79 : _)
  have k84 := (ok_push eT96 k84 : _)
  have k89 := (ok_push eT96 k89 : _)
  have k94 := (ok_push eT96 k94 : _)
  have k99 := ok_new eT96
  refine W.widen (k := 20) (n := 1626) (Nat.le_of_ble_eq_true rfl) (Nat.le_of_ble_eq_true rfl) ?_
  refine pf_Mo_68 (pc := 159) hC hw k0 hnm (Nat.ne_of_gt k99.1) d_Mo_init_159 (fun R100 H locs eR100 hw => ?_)
  have hp := hp R100 eR100
  refine lv_aload_n (pc := 162) hx hb d_Mo_init_162 rfl (lv_at hl 0 rfl) ?_
  refine lv_bipush (v := 24) (pc := 163) hx hb d_Mo_init_163 (by decide) ?_
  refine fm_newi (pc := 165) (N' := 24) hC hw mw_3 (by decide) (by decide) (by decide) (Nat.le_of_ble_eq_true rfl) (Nat.le_of_ble_eq_true rfl) d_Mo_init_165 (fun T101 R102 M103 H eT101 eR102 eM103 hw => ?_)
  have hp := hp T101 R102 M103 eT101 eR102 eM103
  have k0 := (ok_push eT101 k0 : _)
  have k4 := (ok_push eT101 k4 : _)
  have k9 := (ok_push eT101 k9 : _)
  have k14 := (ok_push eT101 k14 : _)
  have k19 := (ok_push eT101 k19 : _)
  have k24 := (ok_push eT101 k24 : _)
  have k29 := (ok_push eT101 k29 : _)
  have k34 := (ok_push eT101 k34 : _)
  have k39 := (ok_push eT101 k39 : _)
  have k44 := (ok_push eT101 k44 : _)
  have k49 := (ok_push eT101 k49 : _)
  have k54 := (ok_push eT101 k54 : _)
  have k59 := (ok_push eT101 k59 : _)
  have k64 := (ok_push eT101 k64 : _)
  have k69 := (ok_push eT101 k69 : _)
  have k74 := (ok_push eT101 k74 : _)
  have k79 := (ok_push eT101 k79 : _)
  have k84 := (ok_push eT101 k84 : _)
  have k89 := (ok_push eT101 k89 : _)
  have k94 := (ok_push eT101 k94 : _)
  have k99 := (ok_push eT101 k99 : _)
  have k104 := ok_new eT101
  refine W.widen (k := 21) (n := 1650) (Nat.le_of_ble_eq_true rfl) (Nat.le_of_ble_eq_true rfl) ?_
  refine pf_Mo_71 (pc := 167) hC hw k0 hnm (Nat.ne_of_gt k104.1) d_Mo_init_167 (fun R105 H locs eR105 hw => ?_)
  have hp := hp R105 eR105
  refine lv_aload_n (pc := 170) hx hb d_Mo_init_170 rfl (lv_at hl 0 rfl) ?_
  refine lv_bipush (v := 24) (pc := 171) hx hb d_Mo_init_171 (by decide) ?_
  refine fm_newi (pc := 173) (N' := 24) hC hw mw_3 (by decide) (by decide) (by decide) (Nat.le_of_ble_eq_true rfl) (Nat.le_of_ble_eq_true rfl) d_Mo_init_173 (fun T106 R107 M108 H eT106 eR107 eM108 hw => ?_)
  have hp := hp T106 R107 M108 eT106 eR107 eM108
  have k0 := (ok_push eT106 k0 : _)
  have k4 := (ok_push eT106 k4 : _)
  have k9 := (ok_push eT106 k9 : _)
  have k14 := (ok_push eT106 k14 : _)
  have k19 := (ok_push eT106 k19 : _)
  have k24 := (ok_push eT106 k24 : _)
  have k29 := (ok_push eT106 k29 : _)
  have k34 := (ok_push eT106 k34 : _)
  have k39 := (ok_push eT106 k39 : _)
  have k44 := (ok_push eT106 k44 : _)
  have k49 := (ok_push eT106 k49 : _)
  have k54 := (ok_push eT106 k54 : _)
  have k59 := (ok_push eT106 k59 : _)
  have k64 := (ok_push eT106 k64 : _)
  have k69 := (ok_push eT106 k69 : _)
  have k74 := (ok_push eT106 k74 : _)
  have k79 := (ok_push eT106 k79 : _)
  have k84 := (ok_push eT106 k84 : _)
  have k89 := (ok_push eT106 k89 : _)
  have k94 := (ok_push eT106 k94 : _)
  have k99 := (ok_push eT106 k99 : _)
  have k104 := (ok_push eT106 k104 : _)
  have k109 := ok_new eT106
  refine W.widen (k := 22) (n := 1674) (Nat.le_of_ble_eq_true rfl) (Nat.le_of_ble_eq_true rfl) ?_
  refine pf_Mo_74 (pc := 175) hC hw k0 hnm (Nat.ne_of_gt k109.1) d_Mo_init_175 (fun R110 H locs eR110 hw => ?_)
  have hp := hp R110 eR110
  refine lv_aload_n (pc := 178) hx hb d_Mo_init_178 rfl (lv_at hl 0 rfl) ?_
  refine lv_bipush (v := 24) (pc := 179) hx hb d_Mo_init_179 (by decide) ?_
  refine fm_newz (pc := 181) (N' := 24) hC hw mw_368 (by decide) (by decide) (by decide) (Nat.le_of_ble_eq_true rfl) (Nat.le_of_ble_eq_true rfl) d_Mo_init_181 (fun T111 R112 M113 H eT111 eR112 eM113 hw => ?_)
  have hp := hp T111 R112 M113 eT111 eR112 eM113
  have k0 := (ok_push eT111 k0 : _)
  have k4 := (ok_push eT111 k4 : _)
  have k9 := (ok_push eT111 k9 : _)
  have k14 := (ok_push eT111 k14 : _)
  have k19 := (ok_push eT111 k19 : _)
  have k24 := (ok_push eT111 k24 : _)
  have k29 := (ok_push eT111 k29 : _)
  have k34 := (ok_push eT111 k34 : _)
  have k39 := (ok_push eT111 k39 : _)
  have k44 := (ok_push eT111 k44 : _)
  have k49 := (ok_push eT111 k49 : _)
  have k54 := (ok_push eT111 k54 : _)
  have k59 := (ok_push eT111 k59 : _)
  have k64 := (ok_push eT111 k64 : _)
  have k69 := (ok_push eT111 k69 : _)
  have k74 := (ok_push eT111 k74 : _)
  have k79 := (ok_push eT111 k79 : _)
  have k84 := (ok_push eT111 k84 : _)
  have k89 := (ok_push eT111 k89 : _)
  have k94 := (ok_push eT111 k94 : _)
  have k99 := (ok_push eT111 k99 : _)
  have k104 := (ok_push eT111 k104 : _)
  have k109 := (ok_push eT111 k109 : _)
  have k114 := ok_new eT111
  refine W.widen (k := 23) (n := 1698) (Nat.le_of_ble_eq_true rfl) (Nat.le_of_ble_eq_true rfl) ?_
  refine pf_Mo_77 (pc := 183) hC hw k0 hnm (Nat.ne_of_gt k114.1) d_Mo_init_183 (fun R115 H locs eR115 hw => ?_)
  have hp := hp R115 eR115
  refine lv_aload_n (pc := 186) hx hb d_Mo_init_186 rfl (lv_at hl 0 rfl) ?_
  refine lv_iconst (v := 2) (pc := 187) hx hb d_Mo_init_187 (by decide) ?_
  refine fm_newi (pc := 188) (N' := 2) hC hw mw_3 (by decide) (by decide) (by decide) (Nat.le_of_ble_eq_true rfl) (Nat.le_of_ble_eq_true rfl) d_Mo_init_188 (fun T116 R117 M118 H eT116 eR117 eM118 hw => ?_)
  have hp := hp T116 R117 M118 eT116 eR117 eM118
  have k0 := (ok_push eT116 k0 : _)
  have k4 := (ok_push eT116 k4 : _)
  have k9 := (ok_push eT116 k9 : _)
  have k14 := (ok_push eT116 k14 : _)
  have k19 := (ok_push eT116 k19 : _)
  have k24 := (ok_push eT116 k24 : _)
  have k29 := (ok_push eT116 k29 : _)
  have k34 := (ok_push eT116 k34 : _)
  have k39 := (ok_push eT116 k39 : _)
  have k44 := (ok_push eT116 k44 : _)
  have k49 := (ok_push eT116 k49 : _)
  have k54 := (ok_push eT116 k54 : _)
  have k59 := (ok_push eT116 k59 : _)
  have k64 := (ok_push eT116 k64 : _)
  have k69 := (ok_push eT116 k69 : _)
  have k74 := (ok_push eT116 k74 : _)
  have k79 := (ok_push eT116 k79 : _)
  have k84 := (ok_push eT116 k84 : _)
  have k89 := (ok_push eT116 k89 : _)
  have k94 := (ok_push eT116 k94 : _)
  have k99 := (ok_push eT116 k99 : _)
  have k104 := (ok_push eT116 k104 : _)
  have k109 := (ok_push eT116 k109 : _)
  have k114 := (ok_push eT116 k114 : _)
  have k119 := ok_new eT116
  refine W.widen (k := 24) (n := 1700) (Nat.le_of_ble_eq_true rfl) (Nat.le_of_ble_eq_true rfl) ?_
  refine pf_Mo_80 (pc := 190) hC hw k0 hnm (Nat.ne_of_gt k119.1) d_Mo_init_190 (fun R120 H locs eR120 hw => ?_)
  have hp := hp R120 eR120
  refine lv_aload_n (pc := 193) hx hb d_Mo_init_193 rfl (lv_at hl 0 rfl) ?_
  refine lv_sipush (v := 160) (pc := 194) hx hb d_Mo_init_194 (by decide) ?_
  refine fm_newi (pc := 197) (N' := 160) hC hw mw_3 (by decide) (by decide) (by decide) (Nat.le_of_ble_eq_true rfl) (Nat.le_of_ble_eq_true rfl) d_Mo_init_197 (fun T121 R122 M123 H eT121 eR122 eM123 hw => ?_)
  have hp := hp T121 R122 M123 eT121 eR122 eM123
  have k0 := (ok_push eT121 k0 : _)
  have k4 := (ok_push eT121 k4 : _)
  have k9 := (ok_push eT121 k9 : _)
  have k14 := (ok_push eT121 k14 : _)
  have k19 := (ok_push eT121 k19 : _)
  have k24 := (ok_push eT121 k24 : _)
  have k29 := (ok_push eT121 k29 : _)
  have k34 := (ok_push eT121 k34 : _)
  have k39 := (ok_push eT121 k39 : _)
  have k44 := (ok_push eT121 k44 : _)
  have k49 := (ok_push eT121 k49 : _)
  have k54 := (ok_push eT121 k54 : _)
  have k59 := (ok_push eT121 k59 : _)
  have k64 := (ok_push eT121 k64 : _)
  have k69 := (ok_push eT121 k69 : _)
  have k74 := (ok_push eT121 k74 : _)
  have k79 := (ok_push eT121 k79 : _)
  have k84 := (ok_push eT121 k84 : _)
  have k89 := (ok_push eT121 k89 : _)
  have k94 := (ok_push eT121 k94 : _)
  have k99 := (ok_push eT121 k99 : _)
  have k104 := (ok_push eT121 k104 : _)
  have k109 := (ok_push eT121 k109 : _)
  have k114 := (ok_push eT121 k114 : _)
  have k119 := (ok_push eT121 k119 : _)
  have k124 := ok_new eT121
  refine W.widen (k := 25) (n := 1860) (Nat.le_of_ble_eq_true rfl) (Nat.le_of_ble_eq_true rfl) ?_
  refine pf_Mo_83 (pc := 199) hC hw k0 hnm (Nat.ne_of_gt k124.1) d_Mo_init_199 (fun R125 H locs eR125 hw => ?_)
  have hp := hp R125 eR125
  refine lv_aload_n (pc := 202) hx hb d_Mo_init_202 rfl (lv_at hl 0 rfl) ?_
  refine lv_sipush (v := 160) (pc := 203) hx hb d_Mo_init_203 (by decide) ?_
  refine fm_newi (pc := 206) (N' := 160) hC hw mw_3 (by decide) (by decide) (by decide) (Nat.le_of_ble_eq_true rfl) (Nat.le_of_ble_eq_true rfl) d_Mo_init_206 (fun T126 R127 M128 H eT126 eR127 eM128 hw => ?_)
  have hp := hp T126 R127 M128 eT126 eR127 eM128
  have k0 := (ok_push eT126 k0 : _)
  have k4 := (ok_push eT126 k4 : _)
  have k9 := (ok_push eT126 k9 : _)
  have k14 := (ok_push eT126 k14 : _)
  have k19 := (ok_push eT126 k19 : _)
  have k24 := (ok_push eT126 k24 : _)
  have k29 := (ok_push eT126 k29 : _)
  have k34 := (ok_push eT126 k34 : _)
  have k39 := (ok_push eT126 k39 : _)
  have k44 := (ok_push eT126 k44 : _)
  have k49 := (ok_push eT126 k49 : _)
  have k54 := (ok_push eT126 k54 : _)
  have k59 := (ok_push eT126 k59 : _)
  have k64 := (ok_push eT126 k64 : _)
  have k69 := (ok_push eT126 k69 : _)
  have k74 := (ok_push eT126 k74 : _)
  have k79 := (ok_push eT126 k79 : _)
  have k84 := (ok_push eT126 k84 : _)
  have k89 := (ok_push eT126 k89 : _)
  have k94 := (ok_push eT126 k94 : _)
  have k99 := (ok_push eT126 k99 : _)
  have k104 := (ok_push eT126 k104 : _)
  have k109 := (ok_push eT126 k109 : _)
  have k114 := (ok_push eT126 k114 : _)
  have k119 := (ok_push eT126 k119 : _)
  have k124 := (ok_push eT126 k124 : _)
  have k129 := ok_new eT126
  refine W.widen (k := 26) (n := 2020) (Nat.le_of_ble_eq_true rfl) (Nat.le_of_ble_eq_true rfl) ?_
  refine pf_Mo_86 (pc := 208) hC hw k0 hnm (Nat.ne_of_gt k129.1) d_Mo_init_208 (fun R130 H locs eR130 hw => ?_)
  have hp := hp R130 eR130
  refine lv_aload_n (pc := 211) hx hb d_Mo_init_211 rfl (lv_at hl 0 rfl) ?_
  refine lv_sipush (v := 160) (pc := 212) hx hb d_Mo_init_212 (by decide) ?_
  refine fm_newi (pc := 215) (N' := 160) hC hw mw_3 (by decide) (by decide) (by decide) (Nat.le_of_ble_eq_true rfl) (Nat.le_of_ble_eq_true rfl) d_Mo_init_215 (fun T131 R132 M133 H eT131 eR132 eM133 hw => ?_)
  have hp := hp T131 R132 M133 eT131 eR132 eM133
  have k0 := (ok_push eT131 k0 : _)
  have k4 := (ok_push eT131 k4 : _)
  have k9 := (ok_push eT131 k9 : _)
  have k14 := (ok_push eT131 k14 : _)
  have k19 := (ok_push eT131 k19 : _)
  have k24 := (ok_push eT131 k24 : _)
  have k29 := (ok_push eT131 k29 : _)
  have k34 := (ok_push eT131 k34 : _)
  have k39 := (ok_push eT131 k39 : _)
  have k44 := (ok_push eT131 k44 : _)
  have k49 := (ok_push eT131 k49 : _)
  have k54 := (ok_push eT131 k54 : _)
  have k59 := (ok_push eT131 k59 : _)
  have k64 := (ok_push eT131 k64 : _)
  have k69 := (ok_push eT131 k69 : _)
  have k74 := (ok_push eT131 k74 : _)
  have k79 := (ok_push eT131 k79 : _)
  have k84 := (ok_push eT131 k84 : _)
  have k89 := (ok_push eT131 k89 : _)
  have k94 := (ok_push eT131 k94 : _)
  have k99 := (ok_push eT131 k99 : _)
  have k104 := (ok_push eT131 k104 : _)
  have k109 := (ok_push eT131 k109 : _)
  have k114 := (ok_push eT131 k114 : _)
  have k119 := (ok_push eT131 k119 : _)
  have k124 := (ok_push eT131 k124 : _)
  have k129 := (ok_push eT131 k129 : _)
  have k134 := ok_new eT131
  refine W.widen (k := 27) (n := 2180) (Nat.le_of_ble_eq_true rfl) (Nat.le_of_ble_eq_true rfl) ?_
  refine pf_Mo_89 (pc := 217) hC hw k0 hnm (Nat.ne_of_gt k134.1) d_Mo_init_217 (fun R135 H locs eR135 hw => ?_)
  have hp := hp R135 eR135
  refine lv_aload_n (pc := 220) hx hb d_Mo_init_220 rfl (lv_at hl 0 rfl) ?_
  refine lv_iconst (v := 2) (pc := 221) hx hb d_Mo_init_221 (by decide) ?_
  refine fm_newi (pc := 222) (N' := 2) hC hw mw_3 (by decide) (by decide) (by decide) (Nat.le_of_ble_eq_true rfl) (Nat.le_of_ble_eq_true rfl) d_Mo_init_222 (fun T136 R137 M138 H eT136 eR137 eM138 hw => ?_)
  have hp := hp T136 R137 M138 eT136 eR137 eM138
  have k0 := (ok_push eT136 k0 : _)
  have k4 := (ok_push eT136 k4 : _)
  have k9 := (ok_push eT136 k9 : _)
  have k14 := (ok_push eT136 k14 : _)
  have k19 := (ok_push eT136 k19 : _)
  have k24 := (ok_push eT136 k24 : _)
  have k29 := (ok_push eT136 k29 : _)
  have k34 := (ok_push eT136 k34 : _)
  have k39 := (ok_push eT136 k39 : _)
  have k44 := (ok_push eT136 k44 : _)
  have k49 := (ok_push eT136 k49 : _)
  have k54 := (ok_push eT136 k54 : _)
  have k59 := (ok_push eT136 k59 : _)
  have k64 := (ok_push eT136 k64 : _)
  have k69 := (ok_push eT136 k69 : _)
  have k74 := (ok_push eT136 k74 : _)
  have k79 := (ok_push eT136 k79 : _)
  have k84 := (ok_push eT136 k84 : _)
  have k89 := (ok_push eT136 k89 : _)
  have k94 := (ok_push eT136 k94 : _)
  have k99 := (ok_push eT136 k99 : _)
  have k104 := (ok_push eT136 k104 : _)
  have k109 := (ok_push eT136 k109 : _)
  have k114 := (ok_push eT136 k114 : _)
  have k119 := (ok_push eT136 k119 : _)
  have k124 := (ok_push eT136 k124 : _)
  have k129 := (ok_push eT136 k129 : _)
  have k134 := (ok_push eT136 k134 : _)
  have k139 := ok_new eT136
  refine W.widen (k := 28) (n := 2182) (Nat.le_of_ble_eq_true rfl) (Nat.le_of_ble_eq_true rfl) ?_
  refine pf_Mo_92 (pc := 224) hC hw k0 hnm (Nat.ne_of_gt k139.1) d_Mo_init_224 (fun R140 H locs eR140 hw => ?_)
  have hp := hp R140 eR140
  refine lv_aload_n (pc := 227) hx hb d_Mo_init_227 rfl (lv_at hl 0 rfl) ?_
  refine lv_iconst (v := 2) (pc := 228) hx hb d_Mo_init_228 (by decide) ?_
  refine fm_newi (pc := 229) (N' := 2) hC hw mw_3 (by decide) (by decide) (by decide) (Nat.le_of_ble_eq_true rfl) (Nat.le_of_ble_eq_true rfl) d_Mo_init_229 (fun T141 R142 M143 H eT141 eR142 eM143 hw => ?_)
  have hp := hp T141 R142 M143 eT141 eR142 eM143
  have k0 := (ok_push eT141 k0 : _)
  have k4 := (ok_push eT141 k4 : _)
  have k9 := (ok_push eT141 k9 : _)
  have k14 := (ok_push eT141 k14 : _)
  have k19 := (ok_push eT141 k19 : _)
  have k24 := (ok_push eT141 k24 : _)
  have k29 := (ok_push eT141 k29 : _)
  have k34 := (ok_push eT141 k34 : _)
  have k39 := (ok_push eT141 k39 : _)
  have k44 := (ok_push eT141 k44 : _)
  have k49 := (ok_push eT141 k49 : _)
  have k54 := (ok_push eT141 k54 : _)
  have k59 := (ok_push eT141 k59 : _)
  have k64 := (ok_push eT141 k64 : _)
  have k69 := (ok_push eT141 k69 : _)
  have k74 := (ok_push eT141 k74 : _)
  have k79 := (ok_push eT141 k79 : _)
  have k84 := (ok_push eT141 k84 : _)
  have k89 := (ok_push eT141 k89 : _)
  have k94 := (ok_push eT141 k94 : _)
  have k99 := (ok_push eT141 k99 : _)
  have k104 := (ok_push eT141 k104 : _)
  have k109 := (ok_push eT141 k109 : _)
  have k114 := (ok_push eT141 k114 : _)
  have k119 := (ok_push eT141 k119 : _)
  have k124 := (ok_push eT141 k124 : _)
  have k129 := (ok_push eT141 k129 : _)
  have k134 := (ok_push eT141 k134 : _)
  have k139 := (ok_push eT141 k139 : _)
  have k144 := ok_new eT141
  refine W.widen (k := 29) (n := 2184) (Nat.le_of_ble_eq_true rfl) (Nat.le_of_ble_eq_true rfl) ?_
  refine pf_Mo_95 (pc := 231) hC hw k0 hnm (Nat.ne_of_gt k144.1) d_Mo_init_231 (fun R145 H locs eR145 hw => ?_)
  have hp := hp R145 eR145
  refine lv_aload_n (pc := 234) hx hb d_Mo_init_234 rfl (lv_at hl 0 rfl) ?_
  refine lv_iconst (v := 2) (pc := 235) hx hb d_Mo_init_235 (by decide) ?_
  refine fm_newi (pc := 236) (N' := 2) hC hw mw_3 (by decide) (by decide) (by decide) (Nat.le_of_ble_eq_true rfl) (Nat.le_of_ble_eq_true rfl) d_Mo_init_236 (fun T146 R147 M148 H eT146 eR147 eM148 hw => ?_)
  have hp := hp T146 R147 M148 eT146 eR147 eM148
  have k0 := (ok_push eT146 k0 : _)
  have k4 := (ok_push eT146 k4 : _)
  have k9 := (ok_push eT146 k9 : _)
  have k14 := (ok_push eT146 k14 : _)
  have k19 := (ok_push eT146 k19 : _)
  have k24 := (ok_push eT146 k24 : _)
  have k29 := (ok_push eT146 k29 : _)
  have k34 := (ok_push eT146 k34 : _)
  have k39 := (ok_push eT146 k39 : _)
  have k44 := (ok_push eT146 k44 : _)
  have k49 := (ok_push eT146 k49 : _)
  have k54 := (ok_push eT146 k54 : _)
  have k59 := (ok_push eT146 k59 : _)
  have k64 := (ok_push eT146 k64 : _)
  have k69 := (ok_push eT146 k69 : _)
  have k74 := (ok_push eT146 k74 : _)
  have k79 := (ok_push eT146 k79 : _)
  have k84 := (ok_push eT146 k84 : _)
  have k89 := (ok_push eT146 k89 : _)
  have k94 := (ok_push eT146 k94 : _)
  have k99 := (ok_push eT146 k99 : _)
  have k104 := (ok_push eT146 k104 : _)
  have k109 := (ok_push eT146 k109 : _)
  have k114 := (ok_push eT146 k114 : _)
  have k119 := (ok_push eT146 k119 : _)
  have k124 := (ok_push eT146 k124 : _)
  have k129 := (ok_push eT146 k129 : _)
  have k134 := (ok_push eT146 k134 : _)
  have k139 := (ok_push eT146 k139 : _)
  have k144 := (ok_push eT146 k144 : _)
  have k149 := ok_new eT146
  refine W.widen (k := 30) (n := 2186) (Nat.le_of_ble_eq_true rfl) (Nat.le_of_ble_eq_true rfl) ?_
  refine pf_Mo_98 (pc := 238) hC hw k0 hnm (Nat.ne_of_gt k149.1) d_Mo_init_238 (fun R150 H locs eR150 hw => ?_)
  have hp := hp R150 eR150
  refine lv_aload_n (pc := 241) hx hb d_Mo_init_241 rfl (lv_at hl 0 rfl) ?_
  refine lv_sipush (v := 192) (pc := 242) hx hb d_Mo_init_242 (by decide) ?_
  refine fm_newz (pc := 245) (N' := 192) hC hw mw_368 (by decide) (by decide) (by decide) (Nat.le_of_ble_eq_true rfl) (Nat.le_of_ble_eq_true rfl) d_Mo_init_245 (fun T151 R152 M153 H eT151 eR152 eM153 hw => ?_)
  have hp := hp T151 R152 M153 eT151 eR152 eM153
  have k0 := (ok_push eT151 k0 : _)
  have k4 := (ok_push eT151 k4 : _)
  have k9 := (ok_push eT151 k9 : _)
  have k14 := (ok_push eT151 k14 : _)
  have k19 := (ok_push eT151 k19 : _)
  have k24 := (ok_push eT151 k24 : _)
  have k29 := (ok_push eT151 k29 : _)
  have k34 := (ok_push eT151 k34 : _)
  have k39 := (ok_push eT151 k39 : _)
  have k44 := (ok_push eT151 k44 : _)
  have k49 := (ok_push eT151 k49 : _)
  have k54 := (ok_push eT151 k54 : _)
  have k59 := (ok_push eT151 k59 : _)
  have k64 := (ok_push eT151 k64 : _)
  have k69 := (ok_push eT151 k69 : _)
  have k74 := (ok_push eT151 k74 : _)
  have k79 := (ok_push eT151 k79 : _)
  have k84 := (ok_push eT151 k84 : _)
  have k89 := (ok_push eT151 k89 : _)
  have k94 := (ok_push eT151 k94 : _)
  have k99 := (ok_push eT151 k99 : _)
  have k104 := (ok_push eT151 k104 : _)
  have k109 := (ok_push eT151 k109 : _)
  have k114 := (ok_push eT151 k114 : _)
  have k119 := (ok_push eT151 k119 : _)
  have k124 := (ok_push eT151 k124 : _)
  have k129 := (ok_push eT151 k129 : _)
  have k134 := (ok_push eT151 k134 : _)
  have k139 := (ok_push eT151 k139 : _)
  have k144 := (ok_push eT151 k144 : _)
  have k149 := (ok_push eT151 k149 : _)
  have k154 := ok_new eT151
  refine W.widen (k := 31) (n := 2378) (Nat.le_of_ble_eq_true rfl) (Nat.le_of_ble_eq_true rfl) ?_
  refine pf_Mo_101 (pc := 247) hC hw k0 hnm (Nat.ne_of_gt k154.1) d_Mo_init_247 (fun R155 H locs eR155 hw => ?_)
  have hp := hp R155 eR155
  refine lv_aload_n (pc := 250) hx hb d_Mo_init_250 rfl (lv_at hl 0 rfl) ?_
  refine lv_bipush (v := 120) (pc := 251) hx hb d_Mo_init_251 (by decide) ?_
  refine fm_newi (pc := 253) (N' := 120) hC hw mw_3 (by decide) (by decide) (by decide) (Nat.le_of_ble_eq_true rfl) (Nat.le_of_ble_eq_true rfl) d_Mo_init_253 (fun T156 R157 M158 H eT156 eR157 eM158 hw => ?_)
  have hp := hp T156 R157 M158 eT156 eR157 eM158
  have k0 := (ok_push eT156 k0 : _)
  have k4 := (ok_push eT156 k4 : _)
  have k9 := (ok_push eT156 k9 : _)
  have k14 := (ok_push eT156 k14 : _)
  have k19 := (ok_push eT156 k19 : _)
  have k24 := (ok_push eT156 k24 : _)
  have k29 := (ok_push eT156 k29 : _)
  have k34 := (ok_push eT156 k34 : _)
  have k39 := (ok_push eT156 k39 : _)
  have k44 := (ok_push eT156 k44 : _)
  have k49 := (ok_push eT156 k49 : _)
  have k54 := (ok_push eT156 k54 : _)
  have k59 := (ok_push eT156 k59 : _)
  have k64 := (ok_push eT156 k64 : _)
  have k69 := (ok_push eT156 k69 : _)
  have k74 := (ok_push eT156 k74 : _)
  have k79 := (ok_push eT156 k79 : _)
  have k84 := (ok_push eT156 k84 : _)
  have k89 := (ok_push eT156 k89 : _)
  have k94 := (ok_push eT156 k94 : _)
  have k99 := (ok_push eT156 k99 : _)
  have k104 := (ok_push eT156 k104 : _)
  have k109 := (ok_push eT156 k109 : _)
  have k114 := (ok_push eT156 k114 : _)
  have k119 := (ok_push eT156 k119 : _)
  have k124 := (ok_push eT156 k124 : _)
  have k129 := (ok_push eT156 k129 : _)
  have k134 := (ok_push eT156 k134 : _)
  have k139 := (ok_push eT156 k139 : _)
  have k144 := (ok_push eT156 k144 : _)
  have k149 := (ok_push eT156 k149 : _)
  have k154 := (ok_push eT156 k154 : _)
  have k159 := ok_new eT156
  refine W.widen (k := 32) (n := 2498) (Nat.le_of_ble_eq_true rfl) (Nat.le_of_ble_eq_true rfl) ?_
  refine pf_Mo_104 (pc := 255) hC hw k0 hnm (Nat.ne_of_gt k159.1) d_Mo_init_255 (fun R160 H locs eR160 hw => ?_)
  have hp := hp R160 eR160
  refine lv_aload_n (pc := 258) hx hb d_Mo_init_258 rfl (lv_at hl 0 rfl) ?_
  refine lv_iconst (v := 2) (pc := 259) hx hb d_Mo_init_259 (by decide) ?_
  refine fm_newi (pc := 260) (N' := 2) hC hw mw_3 (by decide) (by decide) (by decide) (Nat.le_of_ble_eq_true rfl) (Nat.le_of_ble_eq_true rfl) d_Mo_init_260 (fun T161 R162 M163 H eT161 eR162 eM163 hw => ?_)
  have hp := hp T161 R162 M163 eT161 eR162 eM163
  have k0 := (ok_push eT161 k0 : _)
  have k4 := (ok_push eT161 k4 : _)
  have k9 := (ok_push eT161 k9 : _)
  have k14 := (ok_push eT161 k14 : _)
  have k19 := (ok_push eT161 k19 : _)
  have k24 := (ok_push eT161 k24 : _)
  have k29 := (ok_push eT161 k29 : _)
  have k34 := (ok_push eT161 k34 : _)
  have k39 := (ok_push eT161 k39 : _)
  have k44 := (ok_push eT161 k44 : _)
  have k49 := (ok_push eT161 k49 : _)
  have k54 := (ok_push eT161 k54 : _)
  have k59 := (ok_push eT161 k59 : _)
  have k64 := (ok_push eT161 k64 : _)
  have k69 := (ok_push eT161 k69 : _)
  have k74 := (ok_push eT161 k74 : _)
  have k79 := (ok_push eT161 k79 : _)
  have k84 := (ok_push eT161 k84 : _)
  have k89 := (ok_push eT161 k89 : _)
  have k94 := (ok_push eT161 k94 : _)
  have k99 := (ok_push eT161 k99 : _)
  have k104 := (ok_push eT161 k104 : _)
  have k109 := (ok_push eT161 k109 : _)
  have k114 := (ok_push eT161 k114 : _)
  have k119 := (ok_push eT161 k119 : _)
  have k124 := (ok_push eT161 k124 : _)
  have k129 := (ok_push eT161 k129 : _)
  have k134 := (ok_push eT161 k134 : _)
  have k139 := (ok_push eT161 k139 : _)
  have k144 := (ok_push eT161 k144 : _)
  have k149 := (ok_push eT161 k149 : _)
  have k154 := (ok_push eT161 k154 : _)
  have k159 := (ok_push eT161 k159 : _)
  have k164 := ok_new eT161
  refine W.widen (k := 33) (n := 2500) (Nat.le_of_ble_eq_true rfl) (Nat.le_of_ble_eq_true rfl) ?_
  refine pf_Mo_107 (pc := 262) hC hw k0 hnm (Nat.ne_of_gt k164.1) d_Mo_init_262 (fun R165 H locs eR165 hw => ?_)
  have hp := hp R165 eR165
  refine lv_aload_n (pc := 265) hx hb d_Mo_init_265 rfl (lv_at hl 0 rfl) ?_
  refine lv_iload_n (pc := 266) hx hb d_Mo_init_266 rfl (lv_at hl 2 rfl) ?_
  refine lv_bipush (v := 8) (pc := 267) hx hb d_Mo_init_267 (by decide) ?_
  refine lv_icmp_ge (pc := 269) (tgt := 277) hx hb d_Mo_init_269 rfl (fun hc => ?_) (fun hc => ?_)
  · have hp := hp.1 hc
    refine lv_iload_n (pc := 277) hx hb d_Mo_init_277 rfl (lv_at hl 2 rfl) ?_
    refine lv_bipush (v := 24) (pc := 278) hx hb d_Mo_init_278 (by decide) ?_
    refine lv_icmp_le (pc := 280) (tgt := 288) hx hb d_Mo_init_280 rfl (fun hc => ?_) (fun hc => ?_)
    · have hp := hp.1 hc
      refine lv_iload_n (pc := 288) hx hb d_Mo_init_288 rfl (lv_at hl 2 rfl) ?_
      exact B289  h x1 h x2 (((((((((((((((((((((((((((((((((n + 1) + 1) + 1) + 1) + 1) + 1) + 1) + 1) + 1) + 1) + 1) + 1) + 1) + 1) + 1) + 1) + 1) + 1) + 1) + 1) + 1) + 1) + 1) + 1) + 1) + 1) + 1) + 1) + 1) + 1) + 1) + 1) + 1) T161 R165 M163 33 2500 ls _ _ k0 k0 (by decide) (lv_sub hl [0, 1] rfl) hw hp
    · have hp := hp.2 hc
      refine lv_bipush (v := 24) (pc := 283) hx hb d_Mo_init_283 (by decide) ?_
      refine lv_goto (pc := 285) (tgt := 289) hx hb d_Mo_init_285 rfl ?_
      exact B289  h x1 h (24 : Int32) (((((((((((((((((((((((((((((((((n + 1) + 1) + 1) + 1) + 1) + 1) + 1) + 1) + 1) + 1) + 1) + 1) + 1) + 1) + 1) + 1) + 1) + 1) + 1) + 1) + 1) + 1) + 1) + 1) + 1) + 1) + 1) + 1) + 1) + 1) + 1) + 1) + 1) T161 R165 M163 33 2500 ls _ _ k0 k0 (by decide) (lv_sub hl [0, 1] rfl) hw hp
  · have hp := hp.2 hc
    refine lv_bipush (v := 8) (pc := 272) hx hb d_Mo_init_272 (by decide) ?_
    refine lv_goto (pc := 274) (tgt := 289) hx hb d_Mo_init_274 rfl ?_
    exact B289  h x1 h (8 : Int32) (((((((((((((((((((((((((((((((((n + 1) + 1) + 1) + 1) + 1) + 1) + 1) + 1) + 1) + 1) + 1) + 1) + 1) + 1) + 1) + 1) + 1) + 1) + 1) + 1) + 1) + 1) + 1) + 1) + 1) + 1) + 1) + 1) + 1) + 1) + 1) + 1) + 1) T161 R165 M163 33 2500 ls _ _ k0 k0 (by decide) (lv_sub hl [0, 1] rfl) hw hp
