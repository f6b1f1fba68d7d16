set_option maxHeartbeats 4000000 in
set_option maxRecDepth 100000 in
theorem c_Mo_become (l : Launch) (D : va_G) (dA : Nat → ClassId) (b n : Nat) (T : mT) (R : mR) (M : mM) (sz : Nat) (h : Nat) (x1 : Int32) (x2 : Int32) (Q : mM → Prop) : Met l y_Mo_become (Cond.code y_Mo_become b_Mo_become 3 none :: tW) ({ frames := 0, cells := 0, slots := 0, locals := 0 }) (Pm D dA b n T R M sz [.ref (b + h), .int x1, .int x2] (w_Mo_become n T R M h x1 x2 Q)) (Qvm D dA (An b n) b n T R sz Q) 0 0 (An b n) := by
  refine fm_body (An b n) (by decide) (Nat.le_of_ble_eq_true rfl) (fun k h0 h1 => ⟨by omega, by omega⟩) (fun p e s m below meth c ls hC hr hlk hnm hl hw hp => ?_)
  have hx := hC.1.1
  have hb := hC.1.2.1
  have hl : lv_has ls 3 [(0, .ref (b + h)), (1, .int x1), (2, .int x2)] := hl
  generalize hav : (List.toArray ([.ref (b + h), .int x1, .int x2] : List Value)) = av at hC ⊢
  unfold w_Mo_become at hp
  obtain ⟨k0, hp⟩ := hp
  refine lv_aload_n (pc := 0) hx hb d_Mo_become_0 rfl (lv_at hl 0 rfl) ?_
  obtain ⟨k1, hp⟩ := hp
  refine gf_Mo_41 (pc := 1) hC hw k0 (Nat.ne_of_gt k1.1) d_Mo_become_1 ?_
  refine lv_iload_n (pc := 4) hx hb d_Mo_become_4 rfl (lv_at hl 1 rfl) ?_
  refine lv_iload_n (pc := 5) hx hb d_Mo_become_5 rfl (lv_at hl 2 rfl) ?_
  obtain ⟨k2, hp⟩ := hp
  refine fm_iast (pc := 6) hC hw k1 k2 rfl d_Mo_become_6 (fun M3 H locs eM3 hw => ?_)
  have hp := hp M3 eM3
  refine lv_aload_n (pc := 7) hx hb d_Mo_become_7 rfl (lv_at hl 0 rfl) ?_
  obtain ⟨k4, hp⟩ := hp
  refine gf_Mo_65 (pc := 8) hC hw k0 (Nat.ne_of_gt k4.1) d_Mo_become_8 ?_
  refine lv_iload_n (pc := 11) hx hb d_Mo_become_11 rfl (lv_at hl 1 rfl) ?_
  refine lv_iconst (v := -1) (pc := 12) hx hb d_Mo_become_12 (by decide) ?_
  obtain ⟨k5, hp⟩ := hp
  refine fm_iast (pc := 13) hC hw k4 k5 rfl d_Mo_become_13 (fun M6 H locs eM6 hw => ?_)
  have hp := hp M6 eM6
  exact ret_vm hC hr hlk hw hp d_Mo_become_14
set_option maxHeartbeats 4000000 in
set_option maxRecDepth 100000 in
theorem c_Mo_put (l : Launch) (D : va_G) (dA : Nat → ClassId) (b n : Nat) (T : mT) (R : mR) (M : mM) (sz : Nat) (h : Nat) (x1 : Int32) (x2 : Int32) (x3 : Int32) (x4 : Int32) (Q : Int32 → mM → Prop) : Met l y_Mo_put (Cond.code y_Mo_put b_Mo_put 5 (some .int) :: tW) ({ frames := 0, cells := 0, slots := 0, locals := 0 }) (Pm D dA b n T R M sz [.ref (b + h), .int x1, .int x2, .int x3, .int x4] (w_Mo_put n T R M h x1 x2 x3 x4 Q)) (Qim D dA (An b n) b n T R sz Q) 0 0 (An b n) := by
  refine fm_body (An b n) (by decide) (Nat.le_of_ble_eq_true rfl) (fun k h0 h1 => ⟨by omega, by omega⟩) (fun p e s m below meth c ls hC hr hlk hnm hl hw hp => ?_)
  have hx := hC.1.1
  have hb := hC.1.2.1
  have hl : lv_has ls 5 [(0, .ref (b + h)), (1, .int x1), (2, .int x2), (3, .int x3), (4, .int x4)] := hl
  generalize hav : (List.toArray ([.ref (b + h), .int x1, .int x2, .int x3, .int x4] : List Value)) = av at hC ⊢
  unfold w_Mo_put at hp
  obtain ⟨k0, hp⟩ := hp
  refine lv_aload_n (pc := 0) hx hb d_Mo_put_0 rfl (lv_at hl 0 rfl) ?_
  refine lv_dup (pc := 1) hx hb d_Mo_put_1 rfl ?_
  refine gf_Mo_150 (pc := 2) hC hw k0 d_Mo_put_2 ?_
  refine lv_iconst (v := 1) (pc := 5) hx hb d_Mo_put_5 (by decide) ?_
  refine lv_iadd (pc := 6) hx hb d_Mo_put_6 ?_
  refine pf_Mo_150 (pc := 7) hC hw k0 d_Mo_put_7 (fun M1 H locs eM1 hw => ?_)
  have hp := hp M1 eM1
  refine lv_aload_n (pc := 10) hx hb d_Mo_put_10 rfl (lv_at hl 0 rfl) ?_
  refine gf_Mo_153 (pc := 11) hC hw k0 d_Mo_put_11 ?_
  refine lv_bipush (v := 60) (pc := 14) hx hb d_Mo_put_14 (by decide) ?_
  refine lv_icmp_ne (pc := 16) (tgt := 31) hx hb d_Mo_put_16 rfl (fun hc => ?_) (fun hc => ?_)
  · have hp := hp.2 hc
    refine lv_aload_n (pc := 31) hx hb d_Mo_put_31 rfl (lv_at hl 0 rfl) ?_
    obtain ⟨k3, hp⟩ := hp
    refine gf_Mo_7 (pc := 32) hC hw k0 (Nat.ne_of_gt k3.1) d_Mo_put_32 ?_
    refine lv_aload_n (pc := 35) hx hb d_Mo_put_35 rfl (lv_at hl 0 rfl) ?_
    refine gf_Mo_153 (pc := 36) hC hw k0 d_Mo_put_36 ?_
    refine lv_iload_n (pc := 39) hx hb d_Mo_put_39 rfl (lv_at hl 1 rfl) ?_
    obtain ⟨k4, hp⟩ := hp
    refine fm_iast (pc := 40) hC hw k3 k4 rfl d_Mo_put_40 (fun M5 H locs eM5 hw => ?_)
    have hp := hp M5 eM5
    refine lv_aload_n (pc := 41) hx hb d_Mo_put_41 rfl (lv_at hl 0 rfl) ?_
    obtain ⟨k6, hp⟩ := hp
    refine gf_Mo_13 (pc := 42) hC hw k0 (Nat.ne_of_gt k6.1) d_Mo_put_42 ?_
    refine lv_aload_n (pc := 45) hx hb d_Mo_put_45 rfl (lv_at hl 0 rfl) ?_
    refine gf_Mo_153 (pc := 46) hC hw k0 d_Mo_put_46 ?_
    refine lv_iload_n (pc := 49) hx hb d_Mo_put_49 rfl (lv_at hl 2 rfl) ?_
    obtain ⟨k7, hp⟩ := hp
    refine fm_iast (pc := 50) hC hw k6 k7 rfl d_Mo_put_50 (fun M8 H locs eM8 hw => ?_)
    have hp := hp M8 eM8
    refine lv_aload_n (pc := 51) hx hb d_Mo_put_51 rfl (lv_at hl 0 rfl) ?_
    obtain ⟨k9, hp⟩ := hp
    refine gf_Mo_16 (pc := 52) hC hw k0 (Nat.ne_of_gt k9.1) d_Mo_put_52 ?_
    refine lv_aload_n (pc := 55) hx hb d_Mo_put_55 rfl (lv_at hl 0 rfl) ?_
    refine gf_Mo_153 (pc := 56) hC hw k0 d_Mo_put_56 ?_
    refine lv_iload_n (pc := 59) hx hb d_Mo_put_59 rfl (lv_at hl 3 rfl) ?_
    obtain ⟨k10, hp⟩ := hp
    refine fm_iast (pc := 60) hC hw k9 k10 rfl d_Mo_put_60 (fun M11 H locs eM11 hw => ?_)
    have hp := hp M11 eM11
    refine lv_aload_n (pc := 61) hx hb d_Mo_put_61 rfl (lv_at hl 0 rfl) ?_
    obtain ⟨k12, hp⟩ := hp
    refine gf_Mo_19 (pc := 62) hC hw k0 (Nat.ne_of_gt k12.1) d_Mo_put_62 ?_
    refine lv_aload_n (pc := 65) hx hb d_Mo_put_65 rfl (lv_at hl 0 rfl) ?_
    refine gf_Mo_153 (pc := 66) hC hw k0 d_Mo_put_66 ?_
    refine lv_iload (pc := 69) hx hb d_Mo_put_69 (lv_at hl 4 rfl) ?_
    obtain ⟨k13, hp⟩ := hp
    refine fm_iast (pc := 71) hC hw k12 k13 rfl d_Mo_put_71 (fun M14 H locs eM14 hw => ?_)
    have hp := hp M14 eM14
    refine lv_aload_n (pc := 72) hx hb d_Mo_put_72 rfl (lv_at hl 0 rfl) ?_
    obtain ⟨k15, hp⟩ := hp
    refine gf_Mo_22 (pc := 73) hC hw k0 (Nat.ne_of_gt k15.1) d_Mo_put_73 ?_
    refine lv_aload_n (pc := 76) hx hb d_Mo_put_76 rfl (lv_at hl 0 rfl) ?_
    refine gf_Mo_153 (pc := 77) hC hw k0 d_Mo_put_77 ?_
    refine lv_iconst (v := 0) (pc := 80) hx hb d_Mo_put_80 (by decide) ?_
    obtain ⟨k16, hp⟩ := hp
    refine fm_zast (pc := 81) hC hw (Or.inl rfl) k15 k16 rfl d_Mo_put_81 (fun M17 H locs eM17 hw => ?_)
    have hp := hp M17 eM17
    refine lv_aload_n (pc := 82) hx hb d_Mo_put_82 rfl (lv_at hl 0 rfl) ?_
    obtain ⟨k18, hp⟩ := hp
    refine gf_Mo_26 (pc := 83) hC hw k0 (Nat.ne_of_gt k18.1) d_Mo_put_83 ?_
    refine lv_aload_n (pc := 86) hx hb d_Mo_put_86 rfl (lv_at hl 0 rfl) ?_
    refine gf_Mo_153 (pc := 87) hC hw k0 d_Mo_put_87 ?_
    refine lv_iconst (v := 0) (pc := 90) hx hb d_Mo_put_90 (by decide) ?_
    obtain ⟨k19, hp⟩ := hp
    refine fm_iast (pc := 91) hC hw k18 k19 rfl d_Mo_put_91 (fun M20 H locs eM20 hw => ?_)
    have hp := hp M20 eM20
    refine lv_aload_n (pc := 92) hx hb d_Mo_put_92 rfl (lv_at hl 0 rfl) ?_
    obtain ⟨k21, hp⟩ := hp
    refine gf_Mo_29 (pc := 93) hC hw k0 (Nat.ne_of_gt k21.1) d_Mo_put_93 ?_
    refine lv_aload_n (pc := 96) hx hb d_Mo_put_96 rfl (lv_at hl 0 rfl) ?_
    refine gf_Mo_153 (pc := 97) hC hw k0 d_Mo_put_97 ?_
    refine lv_iconst (v := 0) (pc := 100) hx hb d_Mo_put_100 (by decide) ?_
    obtain ⟨k22, hp⟩ := hp
    refine fm_iast (pc := 101) hC hw k21 k22 rfl d_Mo_put_101 (fun M23 H locs eM23 hw => ?_)
    have hp := hp M23 eM23
    refine lv_aload_n (pc := 102) hx hb d_Mo_put_102 rfl (lv_at hl 0 rfl) ?_
    obtain ⟨k24, hp⟩ := hp
    refine gf_Mo_32 (pc := 103) hC hw k0 (Nat.ne_of_gt k24.1) d_Mo_put_103 ?_
    refine lv_aload_n (pc := 106) hx hb d_Mo_put_106 rfl (lv_at hl 0 rfl) ?_
    refine gf_Mo_153 (pc := 107) hC hw k0 d_Mo_put_107 ?_
    refine lv_iconst (v := 0) (pc := 110) hx hb d_Mo_put_110 (by decide) ?_
    obtain ⟨k25, hp⟩ := hp
    refine fm_iast (pc := 111) hC hw k24 k25 rfl d_Mo_put_111 (fun M26 H locs eM26 hw => ?_)
    have hp := hp M26 eM26
    refine lv_aload_n (pc := 112) hx hb d_Mo_put_112 rfl (lv_at hl 0 rfl) ?_
    refine lv_dup (pc := 113) hx hb d_Mo_put_113 rfl ?_
    refine gf_Mo_153 (pc := 114) hC hw k0 d_Mo_put_114 ?_
    refine lv_iconst (v := 1) (pc := 117) hx hb d_Mo_put_117 (by decide) ?_
    refine lv_iadd (pc := 118) hx hb d_Mo_put_118 ?_
    refine pf_Mo_153 (pc := 119) hC hw k0 d_Mo_put_119 (fun M27 H locs eM27 hw => ?_)
    have hp := hp M27 eM27
    refine lv_aload_n (pc := 122) hx hb d_Mo_put_122 rfl (lv_at hl 0 rfl) ?_
    refine gf_Mo_153 (pc := 123) hC hw k0 d_Mo_put_123 ?_
    refine lv_iconst (v := 1) (pc := 126) hx hb d_Mo_put_126 (by decide) ?_
    refine lv_isub (pc := 127) hx hb d_Mo_put_127 ?_
    exact ret_im hC hr hlk hw hp d_Mo_put_128
  · have hp := hp.1 hc
    refine lv_aload_n (pc := 19) hx hb d_Mo_put_19 rfl (lv_at hl 0 rfl) ?_
    refine lv_dup (pc := 20) hx hb d_Mo_put_20 rfl ?_
    refine gf_Mo_156 (pc := 21) hC hw k0 d_Mo_put_21 ?_
    refine lv_iconst (v := 1) (pc := 24) hx hb d_Mo_put_24 (by decide) ?_
    refine lv_iadd (pc := 25) hx hb d_Mo_put_25 ?_
    refine pf_Mo_156 (pc := 26) hC hw k0 d_Mo_put_26 (fun M2 H locs eM2 hw => ?_)
    have hp := hp M2 eM2
    refine lv_iconst (v := -1) (pc := 29) hx hb d_Mo_put_29 (by decide) ?_
    exact ret_im hC hr hlk hw hp d_Mo_put_30
set_option maxHeartbeats 4000000 in
set_option maxRecDepth 100000 in
theorem c_Mo_sendPiece (l : Launch) (D : va_G) (dA : Nat → ClassId) (b n : Nat) (T : mT) (R : mR) (M : mM) (sz : Nat) (h : Nat) (x1 : Int32) (x2 : Int32) (Q : mM → Prop) : Met l y_Mo_sendPiece (Cond.code y_Mo_sendPiece b_Mo_sendPiece 9 none :: tW) ({ frames := 1, cells := 0, slots := 0, locals := 24 }) (Pm D dA b n T R M sz [.ref (b + h), .int x1, .int x2] (w_Mo_sendPiece n T R M h x1 x2 Q)) (Qvm D dA (An b n) b n T R sz Q) 0 0 (An b n) := by
  refine fm_body (An b n) (by decide) (Nat.le_of_ble_eq_true rfl) (fun k h0 h1 => ⟨by omega, by omega⟩) (fun p e s m below meth c ls hC hr hlk hnm hl hw hp => ?_)
  have hx := hC.1.1
  have hb := hC.1.2.1
  have hl : lv_has ls 9 [(0, .ref (b + h)), (1, .int x1), (2, .int x2)] := hl
  generalize hav : (List.toArray ([.ref (b + h), .int x1, .int x2] : List Value)) = av at hC ⊢
  unfold w_Mo_sendPiece at hp
  obtain ⟨k0, hp⟩ := hp
  have B22 : ∀ (a0 : Nat) (a1 : Int32) (a2 : Int32) (a3 : Int32) (s0 : Int32) (M : mM)  (ls : Array Slot) (H : Heap) (locs : List Loc), ok T n a0 11 → lv_has ls 9 [(0, .ref (b + a0)), (1, .int a1), (2, .int a2), (3, .int a3)] → St D dA (An b n) b n T R M sz s.heap H locs → w_Mo_sendPiece_B22 n T R Q a0 a1 a2 a3 s0 M → W p l e ({ frames := 1, cells := 0, slots := 0, locals := 24 }) s m av below meth c H locs 0 0 (MQ below (Qvm D dA (An b n) b n T R sz Q) av s 0 0 (An b n)) (F0 m 22 ls [.int s0]) := by
    intro a0 a1 a2 a3 s0 M ls H locs f4 hl hw hp
    unfold w_Mo_sendPiece_B22 at hp
    refine lv_istore (pc := 22) hx hb d_Mo_sendPiece_22 hl (by decide) rfl (fun ls hl => ?_)
    have hl : lv_has ls 9 [(4, .int s0), (0, .ref (b + a0)), (1, .int a1), (2, .int a2), (3, .int a3)] := hl
    refine lv_aload_n (pc := 24) hx hb d_Mo_sendPiece_24 rfl (lv_at hl 1 rfl) ?_
    obtain ⟨k5, hp⟩ := hp
    refine gf_Mo_47 (pc := 25) hC hw f4 (Nat.ne_of_gt k5.1) d_Mo_sendPiece_25 ?_
    refine lv_iconst (v := 4) (pc := 28) hx hb d_Mo_sendPiece_28 (by decide) ?_
    refine lv_iload_n (pc := 29) hx hb d_Mo_sendPiece_29 rfl (lv_at hl 2 rfl) ?_
    refine lv_imul (pc := 30) hx hb d_Mo_sendPiece_30 ?_
    refine lv_iload (pc := 31) hx hb d_Mo_sendPiece_31 (lv_at hl 0 rfl) ?_
    refine lv_iadd (pc := 33) hx hb d_Mo_sendPiece_33 ?_
    obtain ⟨k6, hp⟩ := hp
    refine fm_iald (pc := 34) hC hw k5 k6 rfl d_Mo_sendPiece_34 ?_
    refine lv_topi (fun v7 ev7 => ?_)
    have hp := hp v7 ev7
    refine lv_istore (pc := 35) hx hb d_Mo_sendPiece_35 hl (by decide) rfl (fun ls hl => ?_)
    have hl : lv_has ls 9 [(5, .int v7), (4, .int s0), (0, .ref (b + a0)), (1, .int a1), (2, .int a2), (3, .int a3)] := hl
    refine lv_aload_n (pc := 37) hx hb d_Mo_sendPiece_37 rfl (lv_at hl 2 rfl) ?_
    refine gf_Mo_47 (pc := 38) hC hw f4 (Nat.ne_of_gt k5.1) d_Mo_sendPiece_38 ?_
    refine lv_iconst (v := 4) (pc := 41) hx hb d_Mo_sendPiece_41 (by decide) ?_
    refine lv_iload_n (pc := 42) hx hb d_Mo_sendPiece_42 rfl (lv_at hl 3 rfl) ?_
    refine lv_imul (pc := 43) hx hb d_Mo_sendPiece_43 ?_
    refine lv_iload (pc := 44) hx hb d_Mo_sendPiece_44 (lv_at hl 1 rfl) ?_
    refine lv_iadd (pc := 46) hx hb d_Mo_sendPiece_46 ?_
    refine lv_dup2_11 (pc := 47) hx hb d_Mo_sendPiece_47 rfl rfl ?_
    obtain ⟨k8, hp⟩ := hp
    refine fm_iald (pc := 48) hC hw k5 k8 rfl d_Mo_sendPiece_48 ?_
    refine lv_iconst (v := 1) (pc := 49) hx hb d_Mo_sendPiece_49 (by decide) ?_
    refine lv_iadd (pc := 50) hx hb d_Mo_sendPiece_50 ?_
    obtain ⟨k9, hp⟩ := hp
    refine fm_iast (pc := 51) hC hw k5 k9 rfl d_Mo_sendPiece_51 (fun M10 H locs eM10 hw => ?_)
    have hp := hp M10 eM10
    refine lv_bipush (v := 80) (pc := 52) hx hb d_Mo_sendPiece_52 (by decide) ?_
    refine lv_iload_n (pc := 54) hx hb d_Mo_sendPiece_54 rfl (lv_at hl 3 rfl) ?_
    refine lv_imul (pc := 55) hx hb d_Mo_sendPiece_55 ?_
    refine lv_aload_n (pc := 56) hx hb d_Mo_sendPiece_56 rfl (lv_at hl 2 rfl) ?_
    obtain ⟨k11, hp⟩ := hp
    refine gf_Mo_80 (pc := 57) hC hw f4 (Nat.ne_of_gt k11.1) d_Mo_sendPiece_57 ?_
    refine lv_iload_n (pc := 60) hx hb d_Mo_sendPiece_60 rfl (lv_at hl 3 rfl) ?_
    obtain ⟨k12, hp⟩ := hp
    refine fm_iald (pc := 61) hC hw k11 k12 rfl d_Mo_sendPiece_61 ?_
    refine lv_iadd (pc := 62) hx hb d_Mo_sendPiece_62 ?_
    refine lv_topi (fun v13 ev13 => ?_)
    have hp := hp v13 ev13
    refine lv_istore (pc := 63) hx hb d_Mo_sendPiece_63 hl (by decide) rfl (fun ls hl => ?_)
    have hl : lv_has ls 9 [(6, .int v13), (5, .int v7), (4, .int s0), (0, .ref (b + a0)), (1, .int a1), (2, .int a2), (3, .int a3)] := hl
    refine lv_aload_n (pc := 65) hx hb d_Mo_sendPiece_65 rfl (lv_at hl 3 rfl) ?_
    obtain ⟨k14, hp⟩ := hp
    refine gf_Mo_83 (pc := 66) hC hw f4 (Nat.ne_of_gt k14.1) d_Mo_sendPiece_66 ?_
    refine lv_iload (pc := 69) hx hb d_Mo_sendPiece_69 (lv_at hl 0 rfl) ?_
    refine lv_iload (pc := 71) hx hb d_Mo_sendPiece_71 (lv_at hl 2 rfl) ?_
    obtain ⟨k15, hp⟩ := hp
    refine fm_iast (pc := 73) hC hw k14 k15 rfl d_Mo_sendPiece_73 (fun M16 H locs eM16 hw => ?_)
    have hp := hp M16 eM16
    refine lv_aload_n (pc := 74) hx hb d_Mo_sendPiece_74 rfl (lv_at hl 3 rfl) ?_
    obtain ⟨k17, hp⟩ := hp
    refine gf_Mo_86 (pc := 75) hC hw f4 (Nat.ne_of_gt k17.1) d_Mo_sendPiece_75 ?_
    refine lv_iload (pc := 78) hx hb d_Mo_sendPiece_78 (lv_at hl 0 rfl) ?_
    refine lv_iload (pc := 80) hx hb d_Mo_sendPiece_80 (lv_at hl 1 rfl) ?_
    obtain ⟨k18, hp⟩ := hp
    refine fm_iast (pc := 82) hC hw k17 k18 rfl d_Mo_sendPiece_82 (fun M19 H locs eM19 hw => ?_)
    have hp := hp M19 eM19
    refine lv_aload_n (pc := 83) hx hb d_Mo_sendPiece_83 rfl (lv_at hl 3 rfl) ?_
    obtain ⟨k20, hp⟩ := hp
    refine gf_Mo_89 (pc := 84) hC hw f4 (Nat.ne_of_gt k20.1) d_Mo_sendPiece_84 ?_
    refine lv_iload (pc := 87) hx hb d_Mo_sendPiece_87 (lv_at hl 0 rfl) ?_
    refine lv_iload_n (pc := 89) hx hb d_Mo_sendPiece_89 rfl (lv_at hl 5 rfl) ?_
    obtain ⟨k21, hp⟩ := hp
    refine fm_iast (pc := 90) hC hw k20 k21 rfl d_Mo_sendPiece_90 (fun M22 H locs eM22 hw => ?_)
    have hp := hp M22 eM22
    refine lv_aload_n (pc := 91) hx hb d_Mo_sendPiece_91 rfl (lv_at hl 3 rfl) ?_
    refine gf_Mo_80 (pc := 92) hC hw f4 (Nat.ne_of_gt k11.1) d_Mo_sendPiece_92 ?_
    refine lv_iload_n (pc := 95) hx hb d_Mo_sendPiece_95 rfl (lv_at hl 4 rfl) ?_
    refine lv_dup2_11 (pc := 96) hx hb d_Mo_sendPiece_96 rfl rfl ?_
    obtain ⟨k23, hp⟩ := hp
    refine fm_iald (pc := 97) hC hw k11 k23 rfl d_Mo_sendPiece_97 ?_
    refine lv_iconst (v := 1) (pc := 98) hx hb d_Mo_sendPiece_98 (by decide) ?_
    refine lv_iadd (pc := 99) hx hb d_Mo_sendPiece_99 ?_
    obtain ⟨k24, hp⟩ := hp
    refine fm_iast (pc := 100) hC hw k11 k24 rfl d_Mo_sendPiece_100 (fun M25 H locs eM25 hw => ?_)
    have hp := hp M25 eM25
    refine lv_aload_n (pc := 101) hx hb d_Mo_sendPiece_101 rfl (lv_at hl 3 rfl) ?_
    refine lv_iload_n (pc := 102) hx hb d_Mo_sendPiece_102 rfl (lv_at hl 4 rfl) ?_
    refine lv_iconst (v := 0) (pc := 103) hx hb d_Mo_sendPiece_103 (by decide) ?_
    refine lv_iload (pc := 104) hx hb d_Mo_sendPiece_104 (lv_at hl 2 rfl) ?_
    refine lv_iload (pc := 106) hx hb d_Mo_sendPiece_106 (lv_at hl 1 rfl) ?_
    refine call_im (pc := 108) (fun _ h => h) hw (fm_runV (As := [.int a1, .int (0 : Int32), .int s0, .int v7]) (rest := []) hC hw (c_Mo_put l D dA b n T R M25 sz a0 a1 (0 : Int32) s0 v7 _) cy_Mo_put hp rfl rfl mw_372 mw_373 mw_374 (rfl : classes[11]? = _) (by decide) f4 ⟨Nat.le_of_ble_eq_true rfl, Nat.le_of_ble_eq_true rfl⟩ rfl hl.1 rfl (Nat.le_of_ble_eq_true rfl) d_Mo_sendPiece_108 ⟨(Nat.le_of_ble_eq_true rfl), (Nat.le_of_ble_eq_true rfl)⟩) (fun r26 M27 H locs hp hw => ?_)
    refine lv_istore (pc := 111) hx hb d_Mo_sendPiece_111 hl (by decide) rfl (fun ls hl => ?_)
    have hl : lv_has ls 9 [(7, .int r26), (6, .int v13), (5, .int v7), (4, .int s0), (0, .ref (b + a0)), (1, .int a1), (2, .int a2), (3, .int a3)] := hl
    refine lv_iload (pc := 113) hx hb d_Mo_sendPiece_113 (lv_at hl 0 rfl) ?_
    refine lv_if_ge (pc := 115) (tgt := 119) hx hb d_Mo_sendPiece_115 rfl (fun hc => ?_) (fun hc => ?_)
    · have hp := hp.1 hc
      refine lv_aload_n (pc := 119) hx hb d_Mo_sendPiece_119 rfl (lv_at hl 4 rfl) ?_
      refine lv_iload_n (pc := 120) hx hb d_Mo_sendPiece_120 rfl (lv_at hl 7 rfl) ?_
      refine call_ip (pc := 121) (fun _ h => h) hw (fm_runV (As := [.int a3]) (rest := []) hC hw (c_Mo_sizeOf l D dA b n T R M27 sz a0 a3 _) cy_Mo_sizeOf hp rfl rfl mw_361 mw_362 mw_363 (rfl : classes[11]? = _) (by decide) f4 ⟨Nat.le_of_ble_eq_true rfl, Nat.le_of_ble_eq_true rfl⟩ rfl hl.1 rfl (Nat.le_of_ble_eq_true rfl) d_Mo_sendPiece_121 ⟨(Nat.le_of_ble_eq_true rfl), (Nat.le_of_ble_eq_true rfl)⟩) (fun r28 H locs hp hw => ?_)
      refine lv_aload_n (pc := 124) hx hb d_Mo_sendPiece_124 rfl (lv_at hl 4 rfl) ?_
      obtain ⟨k29, hp⟩ := hp
      refine gf_Mo_74 (pc := 125) hC hw f4 (Nat.ne_of_gt k29.1) d_Mo_sendPiece_125 ?_
      refine lv_bipush (v := 12) (pc := 128) hx hb d_Mo_sendPiece_128 (by decide) ?_
      refine lv_iload_n (pc := 130) hx hb d_Mo_sendPiece_130 rfl (lv_at hl 5 rfl) ?_
      refine lv_imul (pc := 131) hx hb d_Mo_sendPiece_131 ?_
      refine lv_iload_n (pc := 132) hx hb d_Mo_sendPiece_132 rfl (lv_at hl 6 rfl) ?_
      refine lv_iadd (pc := 133) hx hb d_Mo_sendPiece_133 ?_
      obtain ⟨k30, hp⟩ := hp
      refine fm_iald (pc := 134) hC hw k29 k30 rfl d_Mo_sendPiece_134 ?_
      refine lv_isub (pc := 135) hx hb d_Mo_sendPiece_135 ?_
      refine lv_topi (fun v31 ev31 => ?_)
      have hp := hp v31 ev31
      refine lv_istore (pc := 136) hx hb d_Mo_sendPiece_136 hl (by decide) rfl (fun ls hl => ?_)
      have hl : lv_has ls 9 [(8, .int v31), (7, .int r26), (6, .int v13), (5, .int v7), (4, .int s0), (0, .ref (b + a0)), (1, .int a1), (2, .int a2), (3, .int a3)] := hl
      refine lv_aload_n (pc := 138) hx hb d_Mo_sendPiece_138 rfl (lv_at hl 5 rfl) ?_
      obtain ⟨k32, hp⟩ := hp
      refine gf_Mo_26 (pc := 139) hC hw f4 (Nat.ne_of_gt k32.1) d_Mo_sendPiece_139 ?_
      refine lv_iload (pc := 142) hx hb d_Mo_sendPiece_142 (lv_at hl 1 rfl) ?_
      refine lv_iload_n (pc := 144) hx hb d_Mo_sendPiece_144 rfl (lv_at hl 8 rfl) ?_
      obtain ⟨k33, hp⟩ := hp
      refine fm_iast (pc := 145) hC hw k32 k33 rfl d_Mo_sendPiece_145 (fun M34 H locs eM34 hw => ?_)
      have hp := hp M34 eM34
      refine lv_aload_n (pc := 146) hx hb d_Mo_sendPiece_146 rfl (lv_at hl 5 rfl) ?_
      obtain ⟨k35, hp⟩ := hp
      refine gf_Mo_29 (pc := 147) hC hw f4 (Nat.ne_of_gt k35.1) d_Mo_sendPiece_147 ?_
      refine lv_iload (pc := 150) hx hb d_Mo_sendPiece_150 (lv_at hl 1 rfl) ?_
      refine lv_aload_n (pc := 152) hx hb d_Mo_sendPiece_152 rfl (lv_at hl 5 rfl) ?_
      refine gf_Mo_74 (pc := 153) hC hw f4 (Nat.ne_of_gt k29.1) d_Mo_sendPiece_153 ?_
      refine lv_bipush (v := 12) (pc := 156) hx hb d_Mo_sendPiece_156 (by decide) ?_
      refine lv_iload_n (pc := 158) hx hb d_Mo_sendPiece_158 rfl (lv_at hl 6 rfl) ?_
      refine lv_imul (pc := 159) hx hb d_Mo_sendPiece_159 ?_
      refine lv_iload_n (pc := 160) hx hb d_Mo_sendPiece_160 rfl (lv_at hl 7 rfl) ?_
      refine lv_iadd (pc := 161) hx hb d_Mo_sendPiece_161 ?_
      obtain ⟨k36, hp⟩ := hp
      refine fm_iald (pc := 162) hC hw k29 k36 rfl d_Mo_sendPiece_162 ?_
      obtain ⟨k37, hp⟩ := hp
      refine fm_iast (pc := 163) hC hw k35 k37 rfl d_Mo_sendPiece_163 (fun M38 H locs eM38 hw => ?_)
      have hp := hp M38 eM38
      refine lv_aload_n (pc := 164) hx hb d_Mo_sendPiece_164 rfl (lv_at hl 5 rfl) ?_
      obtain ⟨k39, hp⟩ := hp
      refine gf_Mo_32 (pc := 165) hC hw f4 (Nat.ne_of_gt k39.1) d_Mo_sendPiece_165 ?_
      refine lv_iload (pc := 168) hx hb d_Mo_sendPiece_168 (lv_at hl 1 rfl) ?_
      refine lv_iload (pc := 170) hx hb d_Mo_sendPiece_170 (lv_at hl 0 rfl) ?_
      refine lv_aload_n (pc := 172) hx hb d_Mo_sendPiece_172 rfl (lv_at hl 5 rfl) ?_
      refine gf_Mo_110 (pc := 173) hC hw f4 d_Mo_sendPiece_173 ?_
      refine lv_icmp_ge (pc := 176) (tgt := 184) hx hb d_Mo_sendPiece_176 rfl (fun hc => ?_) (fun hc => ?_)
      · have hp := hp.1 hc
        refine lv_aload_n (pc := 184) hx hb d_Mo_sendPiece_184 rfl (lv_at hl 5 rfl) ?_
        refine gf_Mo_110 (pc := 185) hC hw f4 d_Mo_sendPiece_185 ?_
        obtain ⟨k40, hp⟩ := hp
        refine fm_iast (pc := 188) hC hw k39 k40 rfl d_Mo_sendPiece_188 (fun M41 H locs eM41 hw => ?_)
        have hp := hp M41 eM41
        exact ret_vm hC hr hlk hw hp d_Mo_sendPiece_189
      · have hp := hp.2 hc
        refine lv_iload (pc := 179) hx hb d_Mo_sendPiece_179 (lv_at hl 0 rfl) ?_
        refine lv_goto (pc := 181) (tgt := 188) hx hb d_Mo_sendPiece_181 rfl ?_
        obtain ⟨k42, hp⟩ := hp
        refine fm_iast (pc := 188) hC hw k39 k42 rfl d_Mo_sendPiece_188 (fun M43 H locs eM43 hw => ?_)
        have hp := hp M43 eM43
        exact ret_vm hC hr hlk hw hp d_Mo_sendPiece_189
    · have hp := hp.2 hc
      exact ret_vm hC hr hlk hw hp d_Mo_sendPiece_118
  refine lv_aload_n (pc := 0) hx hb d_Mo_sendPiece_0 rfl (lv_at hl 0 rfl) ?_
  obtain ⟨k1, hp⟩ := hp
  refine gf_Mo_71 (pc := 1) hC hw k0 (Nat.ne_of_gt k1.1) d_Mo_sendPiece_1 ?_
  refine lv_bipush (v := 12) (pc := 4) hx hb d_Mo_sendPiece_4 (by decide) ?_
  refine lv_iload_n (pc := 6) hx hb d_Mo_sendPiece_6 rfl (lv_at hl 1 rfl) ?_
  refine lv_imul (pc := 7) hx hb d_Mo_sendPiece_7 ?_
  refine lv_iload_n (pc := 8) hx hb d_Mo_sendPiece_8 rfl (lv_at hl 2 rfl) ?_
  refine lv_iadd (pc := 9) hx hb d_Mo_sendPiece_9 ?_
  obtain ⟨k2, hp⟩ := hp
  refine fm_iald (pc := 10) hC hw k1 k2 rfl d_Mo_sendPiece_10 ?_
  refine lv_topi (fun v3 ev3 => ?_)
  have hp := hp v3 ev3
  refine lv_istore_n (pc := 11) hx hb d_Mo_sendPiece_11 rfl hl (by decide) rfl (fun ls hl => ?_)
  have hl : lv_has ls 9 [(3, .int v3), (0, .ref (b + h)), (1, .int x1), (2, .int x2)] := hl
  refine lv_iload_n (pc := 12) hx hb d_Mo_sendPiece_12 rfl (lv_at hl 0 rfl) ?_
  refine lv_iconst (v := 4) (pc := 13) hx hb d_Mo_sendPiece_13 (by decide) ?_
  refine lv_icmp_ge (pc := 14) (tgt := 21) hx hb d_Mo_sendPiece_14 rfl (fun hc => ?_) (fun hc => ?_)
  · have hp := hp.1 hc
    refine lv_iconst (v := 2) (pc := 21) hx hb d_Mo_sendPiece_21 (by decide) ?_
    exact B22  h x1 x2 v3 (2 : Int32) M ls _ _ k0 (lv_sub hl [1, 2, 3, 0] rfl) hw hp
  · have hp := hp.2 hc
    refine lv_iconst (v := 0) (pc := 17) hx hb d_Mo_sendPiece_17 (by decide) ?_
    refine lv_goto (pc := 18) (tgt := 22) hx hb d_Mo_sendPiece_18 rfl ?_
    exact B22  h x1 x2 v3 (0 : Int32) M ls _ _ k0 (lv_sub hl [1, 2, 3, 0] rfl) hw hp
set_option maxHeartbeats 4000000 in
set_option maxRecDepth 100000 in
theorem c_Mo_fly (l : Launch) (D : va_G) (dA : Nat → ClassId) (b n : Nat) (T : mT) (R : mR) (M : mM) (sz : Nat) (h : Nat) (x1 : Int32) (x2 : Int32) (x3 : Int32) (Q : mM → Prop) : Met l y_Mo_fly (Cond.code y_Mo_fly b_Mo_fly 6 none :: tW) ({ frames := 2, cells := 0, slots := 0, locals := 52 }) (Pm D dA b n T R M sz [.ref (b + h), .int x1, .int x2, .int x3] (w_Mo_fly n T R M h x1 x2 x3 Q)) (Qvm D dA (An b n) b n T R sz Q) 0 0 (An b n) := by
  refine fm_body (An b n) (by decide) (Nat.le_of_ble_eq_true rfl) (fun k h0 h1 => ⟨by omega, by omega⟩) (fun p e s m below meth c ls hC hr hlk hnm hl hw hp => ?_)
  have hx := hC.1.1
  have hb := hC.1.2.1
  have hl : lv_has ls 6 [(0, .ref (b + h)), (1, .int x1), (2, .int x2), (3, .int x3)] := hl
  generalize hav : (List.toArray ([.ref (b + h), .int x1, .int x2, .int x3] : List Value)) = av at hC ⊢
  unfold w_Mo_fly at hp
  obtain ⟨k0, hp⟩ := hp
  have L121 : ∀ (N121 : Nat) (a0 : Nat) (a1 : Int32) (a4 : Int32) (M : mM)  (ls : Array Slot) (H : Heap) (locs : List Loc), ok T n a0 11 → lv_has ls 6 [(0, .ref (b + a0)), (1, .int a1), (4, .int a4)] → St D dA (An b n) b n T R M sz s.heap H locs → w_Mo_fly_L121 n T R Q a0 a1 N121 a4 M → W p l e ({ frames := 2, cells := 0, slots := 0, locals := 52 }) s m av below meth c H locs 0 0 (MQ below (Qvm D dA (An b n) b n T R sz Q) av s 0 0 (An b n)) (F0 m 121 ls []) := by
    intro N121
    induction N121 with
    | zero => intro a0 a1 a4 M ls H locs f8 hl hw hp; exact False.elim hp
    | succ N121 ih121 =>
      intro a0 a1 a4 M ls H locs f8 hl hw hp
      unfold w_Mo_fly_L121 at hp
      refine lv_iload (pc := 121) hx hb d_Mo_fly_121 (lv_at hl 2 rfl) ?_
      refine lv_aload_n (pc := 123) hx hb d_Mo_fly_123 rfl (lv_at hl 0 rfl) ?_
      obtain ⟨k9, hp⟩ := hp
      refine gf_Mo_68 (pc := 124) hC hw f8 (Nat.ne_of_gt k9.1) d_Mo_fly_124 ?_
      refine lv_iload_n (pc := 127) hx hb d_Mo_fly_127 rfl (lv_at hl 1 rfl) ?_
      obtain ⟨k10, hp⟩ := hp
      refine fm_iald (pc := 128) hC hw k9 k10 rfl d_Mo_fly_128 ?_
      refine lv_icmp_ge (pc := 129) (tgt := 145) hx hb d_Mo_fly_129 rfl (fun hc => ?_) (fun hc => ?_)
      · have hp := hp.1 hc
        refine lv_aload_n (pc := 145) hx hb d_Mo_fly_145 rfl (lv_at hl 0 rfl) ?_
        obtain ⟨k11, hp⟩ := hp
        refine gf_Mo_92 (pc := 146) hC hw f8 (Nat.ne_of_gt k11.1) d_Mo_fly_146 ?_
        refine lv_iload_n (pc := 149) hx hb d_Mo_fly_149 rfl (lv_at hl 1 rfl) ?_
        refine lv_iconst (v := 4) (pc := 150) hx hb d_Mo_fly_150 (by decide) ?_
        obtain ⟨k12, hp⟩ := hp
        refine fm_iast (pc := 151) hC hw k11 k12 rfl d_Mo_fly_151 (fun M13 H locs eM13 hw => ?_)
        have hp := hp M13 eM13
        refine lv_aload_n (pc := 152) hx hb d_Mo_fly_152 rfl (lv_at hl 0 rfl) ?_
        obtain ⟨k14, hp⟩ := hp
        refine gf_Mo_95 (pc := 153) hC hw f8 (Nat.ne_of_gt k14.1) d_Mo_fly_153 ?_
        refine lv_iload_n (pc := 156) hx hb d_Mo_fly_156 rfl (lv_at hl 1 rfl) ?_
        refine lv_aload_n (pc := 157) hx hb d_Mo_fly_157 rfl (lv_at hl 0 rfl) ?_
        refine gf_Mo_174 (pc := 158) hC hw f8 d_Mo_fly_158 ?_
        refine lv_iconst (v := 4) (pc := 161) hx hb d_Mo_fly_161 (by decide) ?_
        refine lv_iadd (pc := 162) hx hb d_Mo_fly_162 ?_
        obtain ⟨k15, hp⟩ := hp
        refine fm_iast (pc := 163) hC hw k14 k15 rfl d_Mo_fly_163 (fun M16 H locs eM16 hw => ?_)
        have hp := hp M16 eM16
        refine lv_aload_n (pc := 164) hx hb d_Mo_fly_164 rfl (lv_at hl 0 rfl) ?_
        obtain ⟨k17, hp⟩ := hp
        refine gf_Mo_98 (pc := 165) hC hw f8 (Nat.ne_of_gt k17.1) d_Mo_fly_165 ?_
        refine lv_iload_n (pc := 168) hx hb d_Mo_fly_168 rfl (lv_at hl 1 rfl) ?_
        refine lv_iconst (v := 0) (pc := 169) hx hb d_Mo_fly_169 (by decide) ?_
        obtain ⟨k18, hp⟩ := hp
        refine fm_iast (pc := 170) hC hw k17 k18 rfl d_Mo_fly_170 (fun M19 H locs eM19 hw => ?_)
        have hp := hp M19 eM19
        exact ret_vm hC hr hlk hw hp d_Mo_fly_171
      · have hp := hp.2 hc
        refine lv_aload_n (pc := 132) hx hb d_Mo_fly_132 rfl (lv_at hl 0 rfl) ?_
        refine lv_iload_n (pc := 133) hx hb d_Mo_fly_133 rfl (lv_at hl 1 rfl) ?_
        refine lv_iload (pc := 134) hx hb d_Mo_fly_134 (lv_at hl 2 rfl) ?_
        refine call_vm (pc := 136) (fun _ h => h) hw (fm_runV (As := [.int a1, .int a4]) (rest := []) hC hw (c_Mo_sendPiece l D dA b n T R M sz a0 a1 a4 _) cy_Mo_sendPiece hp rfl rfl mw_375 mw_376 mw_377 (rfl : classes[11]? = _) (by decide) f8 ⟨Nat.le_of_ble_eq_true rfl, Nat.le_of_ble_eq_true rfl⟩ rfl hl.1 rfl (Nat.le_of_ble_eq_true rfl) d_Mo_fly_136 ⟨(Nat.le_of_ble_eq_true rfl), (Nat.le_of_ble_eq_true rfl)⟩) (fun M20 H locs hp hw => ?_)
        obtain ⟨v21, ev21⟩ : ∃ z : Int32, z = a4 + (1 : Int32) := ⟨_, rfl⟩
        have hp := hp v21 ev21
        refine lv_iinc (pc := 139) (k := 2) (v := v21) hx hb d_Mo_fly_139 hl rfl ev21.symm (by decide) rfl (fun ls hl => ?_)
        have hl : lv_has ls 6 [(4, .int v21), (0, .ref (b + a0)), (1, .int a1)] := hl
        refine lv_goto (pc := 142) (tgt := 121) hx hb d_Mo_fly_142 rfl ?_
        exact ih121  a0 a1 v21 M20 ls _ _ f8 (lv_sub hl [1, 2, 0] rfl) hw hp
  have L17 : ∀ (N17 : Nat) (a0 : Nat) (a1 : Int32) (a3 : Int32) (a4 : Int32) (M : mM)  (ls : Array Slot) (H : Heap) (locs : List Loc), ok T n a0 11 → lv_has ls 6 [(0, .ref (b + a0)), (1, .int a1), (3, .int a3), (4, .int a4)] → St D dA (An b n) b n T R M sz s.heap H locs → w_Mo_fly_L17 n T R Q a0 a1 a3 N17 a4 M → W p l e ({ frames := 2, cells := 0, slots := 0, locals := 52 }) s m av below meth c H locs 0 0 (MQ below (Qvm D dA (An b n) b n T R sz Q) av s 0 0 (An b n)) (F0 m 17 ls []) := by
    intro N17
    induction N17 with
    | zero => intro a0 a1 a3 a4 M ls H locs f7 hl hw hp; exact False.elim hp
    | succ N17 ih17 =>
      intro a0 a1 a3 a4 M ls H locs f7 hl hw hp
      unfold w_Mo_fly_L17 at hp
      refine lv_iload (pc := 17) hx hb d_Mo_fly_17 (lv_at hl 3 rfl) ?_
      refine lv_iload_n (pc := 19) hx hb d_Mo_fly_19 rfl (lv_at hl 2 rfl) ?_
      refine lv_icmp_gt (pc := 20) (tgt := 118) hx hb d_Mo_fly_20 rfl (fun hc => ?_) (fun hc => ?_)
      · have hp := hp.1 hc
        refine lv_iconst (v := 0) (pc := 118) hx hb d_Mo_fly_118 (by decide) ?_
        refine lv_istore (pc := 119) hx hb d_Mo_fly_119 hl (by decide) rfl (fun ls hl => ?_)
        have hl : lv_has ls 6 [(4, .int (0 : Int32)), (0, .ref (b + a0)), (1, .int a1), (3, .int a3)] := hl
        obtain ⟨N121, hp⟩ := hp
        exact L121 N121 a0 a1 (0 : Int32) M ls _ _ f7 (lv_sub hl [1, 2, 0] rfl) hw hp
      · have hp := hp.2 hc
        refine lv_iconst (v := 0) (pc := 23) hx hb d_Mo_fly_23 (by decide) ?_
        refine lv_istore (pc := 24) hx hb d_Mo_fly_24 hl (by decide) rfl (fun ls hl => ?_)
        have hl : lv_has ls 6 [(5, .int (0 : Int32)), (0, .ref (b + a0)), (1, .int a1), (3, .int a3), (4, .int a4)] := hl
        have L26 : ∀ (N26 : Nat) (a0 : Nat) (a1 : Int32) (a3 : Int32) (a4 : Int32) (a5 : Int32) (M : mM)  (ls : Array Slot) (H : Heap) (locs : List Loc), ok T n a0 11 → lv_has ls 6 [(0, .ref (b + a0)), (1, .int a1), (3, .int a3), (4, .int a4), (5, .int a5)] → St D dA (An b n) b n T R M sz s.heap H locs → w_Mo_fly_L26 n T R Q (fun a0 a1 a3 a4 M => w_Mo_fly_L17 n T R Q a0 a1 a3 N17 a4 M) a0 a1 a3 a4 N26 a5 M → W p l e ({ frames := 2, cells := 0, slots := 0, locals := 52 }) s m av below meth c H locs 0 0 (MQ below (Qvm D dA (An b n) b n T R sz Q) av s 0 0 (An b n)) (F0 m 26 ls []) := by
          intro N26
          induction N26 with
          | zero => intro a0 a1 a3 a4 a5 M ls H locs f22 hl hw hp; exact False.elim hp
          | succ N26 ih26 =>
            intro a0 a1 a3 a4 a5 M ls H locs f22 hl hw hp
            unfold w_Mo_fly_L26 at hp
            refine lv_iload (pc := 26) hx hb d_Mo_fly_26 (lv_at hl 4 rfl) ?_
            refine lv_aload_n (pc := 28) hx hb d_Mo_fly_28 rfl (lv_at hl 0 rfl) ?_
            refine lv_iload (pc := 29) hx hb d_Mo_fly_29 (lv_at hl 3 rfl) ?_
            refine call_ip (pc := 31) (fun _ h => h) hw (fm_runV (As := [.int a4]) (rest := [.int a5]) hC hw (c_Mo_sizeOf l D dA b n T R M sz a0 a4 _) cy_Mo_sizeOf hp rfl rfl mw_361 mw_362 mw_363 (rfl : classes[11]? = _) (by decide) f22 ⟨Nat.le_of_ble_eq_true rfl, Nat.le_of_ble_eq_true rfl⟩ rfl hl.1 rfl (Nat.le_of_ble_eq_true rfl) d_Mo_fly_31 ⟨(Nat.le_of_ble_eq_true rfl), (Nat.le_of_ble_eq_true rfl)⟩) (fun r23 H locs hp hw => ?_)
            refine lv_icmp_ge (pc := 34) (tgt := 112) hx hb d_Mo_fly_34 rfl (fun hc => ?_) (fun hc => ?_)
            · have hp := hp.1 hc
              obtain ⟨v24, ev24⟩ : ∃ z : Int32, z = a4 + (1 : Int32) := ⟨_, rfl⟩
              have hp := hp v24 ev24
              refine lv_iinc (pc := 112) (k := 3) (v := v24) hx hb d_Mo_fly_112 hl rfl ev24.symm (by decide) rfl (fun ls hl => ?_)
              have hl : lv_has ls 6 [(4, .int v24), (0, .ref (b + a0)), (1, .int a1), (3, .int a3), (5, .int a5)] := hl
              refine lv_goto (pc := 115) (tgt := 17) hx hb d_Mo_fly_115 rfl ?_
              exact ih17  a0 a1 a3 v24 M ls _ _ f22 (lv_sub hl [1, 2, 3, 0] rfl) hw hp
            · have hp := hp.2 hc
              refine lv_aload_n (pc := 37) hx hb d_Mo_fly_37 rfl (lv_at hl 0 rfl) ?_
              obtain ⟨k25, hp⟩ := hp
              refine gf_Mo_71 (pc := 38) hC hw f22 (Nat.ne_of_gt k25.1) d_Mo_fly_38 ?_
              refine lv_bipush (v := 12) (pc := 41) hx hb d_Mo_fly_41 (by decide) ?_
              refine lv_iload_n (pc := 43) hx hb d_Mo_fly_43 rfl (lv_at hl 1 rfl) ?_
              refine lv_imul (pc := 44) hx hb d_Mo_fly_44 ?_
              refine lv_aload_n (pc := 45) hx hb d_Mo_fly_45 rfl (lv_at hl 0 rfl) ?_
              obtain ⟨k26, hp⟩ := hp
              refine gf_Mo_68 (pc := 46) hC hw f22 (Nat.ne_of_gt k26.1) d_Mo_fly_46 ?_
              refine lv_iload_n (pc := 49) hx hb d_Mo_fly_49 rfl (lv_at hl 1 rfl) ?_
              obtain ⟨k27, hp⟩ := hp
              refine fm_iald (pc := 50) hC hw k26 k27 rfl d_Mo_fly_50 ?_
              refine lv_iadd (pc := 51) hx hb d_Mo_fly_51 ?_
              refine lv_iload (pc := 52) hx hb d_Mo_fly_52 (lv_at hl 3 rfl) ?_
              obtain ⟨k28, hp⟩ := hp
              refine fm_iast (pc := 54) hC hw k25 k28 rfl d_Mo_fly_54 (fun M29 H locs eM29 hw => ?_)
              have hp := hp M29 eM29
              refine lv_aload_n (pc := 55) hx hb d_Mo_fly_55 rfl (lv_at hl 0 rfl) ?_
              obtain ⟨k30, hp⟩ := hp
              refine gf_Mo_74 (pc := 56) hC hw f22 (Nat.ne_of_gt k30.1) d_Mo_fly_56 ?_
              refine lv_bipush (v := 12) (pc := 59) hx hb d_Mo_fly_59 (by decide) ?_
              refine lv_iload_n (pc := 61) hx hb d_Mo_fly_61 rfl (lv_at hl 1 rfl) ?_
              refine lv_imul (pc := 62) hx hb d_Mo_fly_62 ?_
              refine lv_aload_n (pc := 63) hx hb d_Mo_fly_63 rfl (lv_at hl 0 rfl) ?_
              refine gf_Mo_68 (pc := 64) hC hw f22 (Nat.ne_of_gt k26.1) d_Mo_fly_64 ?_
              refine lv_iload_n (pc := 67) hx hb d_Mo_fly_67 rfl (lv_at hl 1 rfl) ?_
              obtain ⟨k31, hp⟩ := hp
              refine fm_iald (pc := 68) hC hw k26 k31 rfl d_Mo_fly_68 ?_
              refine lv_iadd (pc := 69) hx hb d_Mo_fly_69 ?_
              refine lv_iload (pc := 70) hx hb d_Mo_fly_70 (lv_at hl 4 rfl) ?_
              obtain ⟨k32, hp⟩ := hp
              refine fm_iast (pc := 72) hC hw k30 k32 rfl d_Mo_fly_72 (fun M33 H locs eM33 hw => ?_)
              have hp := hp M33 eM33
              refine lv_aload_n (pc := 73) hx hb d_Mo_fly_73 rfl (lv_at hl 0 rfl) ?_
              obtain ⟨k34, hp⟩ := hp
              refine gf_Mo_77 (pc := 74) hC hw f22 (Nat.ne_of_gt k34.1) d_Mo_fly_74 ?_
              refine lv_bipush (v := 12) (pc := 77) hx hb d_Mo_fly_77 (by decide) ?_
              refine lv_iload_n (pc := 79) hx hb d_Mo_fly_79 rfl (lv_at hl 1 rfl) ?_
              refine lv_imul (pc := 80) hx hb d_Mo_fly_80 ?_
              refine lv_aload_n (pc := 81) hx hb d_Mo_fly_81 rfl (lv_at hl 0 rfl) ?_
              refine gf_Mo_68 (pc := 82) hC hw f22 (Nat.ne_of_gt k26.1) d_Mo_fly_82 ?_
              refine lv_iload_n (pc := 85) hx hb d_Mo_fly_85 rfl (lv_at hl 1 rfl) ?_
              obtain ⟨k35, hp⟩ := hp
              refine fm_iald (pc := 86) hC hw k26 k35 rfl d_Mo_fly_86 ?_
              refine lv_iadd (pc := 87) hx hb d_Mo_fly_87 ?_
              refine lv_iconst (v := 1) (pc := 88) hx hb d_Mo_fly_88 (by decide) ?_
              obtain ⟨k36, hp⟩ := hp
              refine fm_zast (pc := 89) hC hw (Or.inr rfl) k34 k36 rfl d_Mo_fly_89 (fun M37 H locs eM37 hw => ?_)
              have hp := hp M37 eM37
              refine lv_aload_n (pc := 90) hx hb d_Mo_fly_90 rfl (lv_at hl 0 rfl) ?_
              refine gf_Mo_68 (pc := 91) hC hw f22 (Nat.ne_of_gt k26.1) d_Mo_fly_91 ?_
              refine lv_iload_n (pc := 94) hx hb d_Mo_fly_94 rfl (lv_at hl 1 rfl) ?_
              refine lv_dup2_11 (pc := 95) hx hb d_Mo_fly_95 rfl rfl ?_
              obtain ⟨k38, hp⟩ := hp
              refine fm_iald (pc := 96) hC hw k26 k38 rfl d_Mo_fly_96 ?_
              refine lv_iconst (v := 1) (pc := 97) hx hb d_Mo_fly_97 (by decide) ?_
              refine lv_iadd (pc := 98) hx hb d_Mo_fly_98 ?_
              obtain ⟨k39, hp⟩ := hp
              refine fm_iast (pc := 99) hC hw k26 k39 rfl d_Mo_fly_99 (fun M40 H locs eM40 hw => ?_)
              have hp := hp M40 eM40
              refine lv_iload (pc := 100) hx hb d_Mo_fly_100 (lv_at hl 4 rfl) ?_
              refine lv_aload_n (pc := 102) hx hb d_Mo_fly_102 rfl (lv_at hl 0 rfl) ?_
              refine gf_Mo_110 (pc := 103) hC hw f22 d_Mo_fly_103 ?_
              refine lv_iadd (pc := 106) hx hb d_Mo_fly_106 ?_
              refine lv_topi (fun v41 ev41 => ?_)
              have hp := hp v41 ev41
              refine lv_istore (pc := 107) hx hb d_Mo_fly_107 hl (by decide) rfl (fun ls hl => ?_)
              have hl : lv_has ls 6 [(5, .int v41), (0, .ref (b + a0)), (1, .int a1), (3, .int a3), (4, .int a4)] := hl
              refine lv_goto (pc := 109) (tgt := 26) hx hb d_Mo_fly_109 rfl ?_
              exact ih26  a0 a1 a3 a4 v41 M40 ls _ _ f22 (lv_sub hl [1, 2, 3, 4, 0] rfl) hw hp
        obtain ⟨N26, hp⟩ := hp
        exact L26 N26 a0 a1 a3 a4 (0 : Int32) M ls _ _ f7 (lv_sub hl [1, 2, 3, 4, 0] rfl) hw hp
  refine lv_aload_n (pc := 0) hx hb d_Mo_fly_0 rfl (lv_at hl 0 rfl) ?_
  obtain ⟨k1, hp⟩ := hp
  refine gf_Mo_68 (pc := 1) hC hw k0 (Nat.ne_of_gt k1.1) d_Mo_fly_1 ?_
  refine lv_iload_n (pc := 4) hx hb d_Mo_fly_4 rfl (lv_at hl 1 rfl) ?_
  refine lv_iconst (v := 0) (pc := 5) hx hb d_Mo_fly_5 (by decide) ?_
  obtain ⟨k2, hp⟩ := hp
  refine fm_iast (pc := 6) hC hw k1 k2 rfl d_Mo_fly_6 (fun M3 H locs eM3 hw => ?_)
  have hp := hp M3 eM3
  refine lv_aload_n (pc := 7) hx hb d_Mo_fly_7 rfl (lv_at hl 0 rfl) ?_
  obtain ⟨k4, hp⟩ := hp
  refine gf_Mo_80 (pc := 8) hC hw k0 (Nat.ne_of_gt k4.1) d_Mo_fly_8 ?_
  refine lv_iload_n (pc := 11) hx hb d_Mo_fly_11 rfl (lv_at hl 1 rfl) ?_
  refine lv_iconst (v := 0) (pc := 12) hx hb d_Mo_fly_12 (by decide) ?_
  obtain ⟨k5, hp⟩ := hp
  refine fm_iast (pc := 13) hC hw k4 k5 rfl d_Mo_fly_13 (fun M6 H locs eM6 hw => ?_)
  have hp := hp M6 eM6
  refine lv_iload_n (pc := 14) hx hb d_Mo_fly_14 rfl (lv_at hl 2 rfl) ?_
  refine lv_istore (pc := 15) hx hb d_Mo_fly_15 hl (by decide) rfl (fun ls hl => ?_)
  have hl : lv_has ls 6 [(4, .int x2), (0, .ref (b + h)), (1, .int x1), (2, .int x2), (3, .int x3)] := hl
  obtain ⟨N17, hp⟩ := hp
  exact L17 N17 h x1 x3 x2 M6 ls _ _ k0 (lv_sub hl [1, 2, 4, 0] rfl) hw hp
set_option maxHeartbeats 4000000 in
set_option maxRecDepth 100000 in
theorem c_Mo_start (l : Launch) (D : va_G) (dA : Nat → ClassId) (b n : Nat) (T : mT) (R : mR) (M : mM) (sz : Nat) (h : Nat) (Q : Int32 → mM → Prop) : Met l y_Mo_start (Cond.code y_Mo_start b_Mo_start 1 (some .boolean) :: tW) ({ frames := 3, cells := 0, slots := 0, locals := 77 }) (Pm D dA b n T R M sz [.ref (b + h)] (w_Mo_start n T R M h Q)) (Qzm D dA (An b n) b n T R sz Q) 0 0 (An b n) := by
  refine fm_body (An b n) (by decide) (Nat.le_of_ble_eq_true rfl) (fun k h0 h1 => ⟨by omega, by omega⟩) (fun p e s m below meth c ls hC hr hlk hnm hl hw hp => ?_)
  have hx := hC.1.1
  have hb := hC.1.2.1
  have hl : lv_has ls 1 [(0, .ref (b + h))] := hl
  generalize hav : (List.toArray ([.ref (b + h)] : List Value)) = av at hC ⊢
  unfold w_Mo_start at hp
  obtain ⟨k0, hp⟩ := hp
  refine lv_aload_n (pc := 0) hx hb d_Mo_start_0 rfl (lv_at hl 0 rfl) ?_
  obtain ⟨k1, hp⟩ := hp
  refine gf_Mo_41 (pc := 1) hC hw k0 (Nat.ne_of_gt k1.1) d_Mo_start_1 ?_
  refine lv_iconst (v := 0) (pc := 4) hx hb d_Mo_start_4 (by decide) ?_
  obtain ⟨k2, hp⟩ := hp
  refine fm_iald (pc := 5) hC hw k1 k2 (show Int32.toNatClampNeg (0 : Int32) = 0 by decide) d_Mo_start_5 ?_
  refine lv_if_eq (pc := 6) (tgt := 11) hx hb d_Mo_start_6 rfl (fun hc => ?_) (fun hc => ?_)
  · have hp := hp.1 hc
    refine lv_aload_n (pc := 11) hx hb d_Mo_start_11 rfl (lv_at hl 0 rfl) ?_
    obtain ⟨k3, hp⟩ := hp
    refine gf_Mo_44 (pc := 12) hC hw k0 (Nat.ne_of_gt k3.1) d_Mo_start_12 ?_
    refine lv_iconst (v := 0) (pc := 15) hx hb d_Mo_start_15 (by decide) ?_
    refine lv_iconst (v := 1) (pc := 16) hx hb d_Mo_start_16 (by decide) ?_
    obtain ⟨k4, hp⟩ := hp
    refine fm_iast (pc := 17) hC hw k3 k4 (show Int32.toNatClampNeg (0 : Int32) = 0 by decide) d_Mo_start_17 (fun M5 H locs eM5 hw => ?_)
    have hp := hp M5 eM5
    refine lv_aload_n (pc := 18) hx hb d_Mo_start_18 rfl (lv_at hl 0 rfl) ?_
    refine lv_iconst (v := 0) (pc := 19) hx hb d_Mo_start_19 (by decide) ?_
    refine lv_iconst (v := 1) (pc := 20) hx hb d_Mo_start_20 (by decide) ?_
    refine call_vm (pc := 21) (fun _ h => h) hw (fm_runV (As := [.int (0 : Int32), .int (1 : Int32)]) (rest := []) hC hw (c_Mo_become l D dA b n T R M5 sz h (0 : Int32) (1 : Int32) _) cy_Mo_become hp rfl rfl mw_378 mw_379 mw_380 (rfl : classes[11]? = _) (by decide) k0 ⟨Nat.le_of_ble_eq_true rfl, Nat.le_of_ble_eq_true rfl⟩ rfl hl.1 rfl (Nat.le_of_ble_eq_true rfl) d_Mo_start_21 ⟨(Nat.le_of_ble_eq_true rfl), (Nat.le_of_ble_eq_true rfl)⟩) (fun M6 H locs hp hw => ?_)
    refine lv_aload_n (pc := 24) hx hb d_Mo_start_24 rfl (lv_at hl 0 rfl) ?_
    refine lv_iconst (v := 0) (pc := 25) hx hb d_Mo_start_25 (by decide) ?_
    refine lv_iconst (v := 0) (pc := 26) hx hb d_Mo_start_26 (by decide) ?_
    refine lv_iconst (v := 0) (pc := 27) hx hb d_Mo_start_27 (by decide) ?_
    refine call_vm (pc := 28) (fun _ h => h) hw (fm_runV (As := [.int (0 : Int32), .int (0 : Int32), .int (0 : Int32)]) (rest := []) hC hw (c_Mo_fly l D dA b n T R M6 sz h (0 : Int32) (0 : Int32) (0 : Int32) _) cy_Mo_fly hp rfl rfl mw_381 mw_382 mw_383 (rfl : classes[11]? = _) (by decide) k0 ⟨Nat.le_of_ble_eq_true rfl, Nat.le_of_ble_eq_true rfl⟩ rfl hl.1 rfl (Nat.le_of_ble_eq_true rfl) d_Mo_start_28 ⟨(Nat.le_of_ble_eq_true rfl), (Nat.le_of_ble_eq_true rfl)⟩) (fun M7 H locs hp hw => ?_)
    refine lv_iconst (v := 1) (pc := 31) hx hb d_Mo_start_31 (by decide) ?_
    exact ret_zm hC hr hlk hw (Or.inr rfl) hp d_Mo_start_32
  · have hp := hp.2 hc
    refine lv_iconst (v := 0) (pc := 9) hx hb d_Mo_start_9 (by decide) ?_
    exact ret_zm hC hr hlk hw (Or.inl rfl) hp d_Mo_start_10
set_option maxHeartbeats 4000000 in
set_option maxRecDepth 100000 in
theorem c_Mo_writes (l : Launch) (D : va_G) (dA : Nat → ClassId) (b n : Nat) (T : mT) (R : mR) (M : mM) (sz : Nat) (h : Nat) (x1 : Int32) (x2 : Int32) (Q : Int32 → Prop) : Met l y_Mo_writes (Cond.code y_Mo_writes b_Mo_writes 4 (some .boolean) :: tW) ({ frames := 0, cells := 0, slots := 0, locals := 0 }) (Pm D dA b n T R M sz [.ref (b + h), .int x1, .int x2] (w_Mo_writes n T R M h x1 x2 Q)) (Qzp D dA (An b n) b n T R M sz Q) 0 0 (An b n) := by
  refine fm_body (An b n) (by decide) (Nat.le_of_ble_eq_true rfl) (fun k h0 h1 => ⟨by omega, by omega⟩) (fun p e s m below meth c ls hC hr hlk hnm hl hw hp => ?_)
  have hx := hC.1.1
  have hb := hC.1.2.1
  have hl : lv_has ls 4 [(0, .ref (b + h)), (1, .int x1), (2, .int x2)] := hl
  generalize hav : (List.toArray ([.ref (b + h), .int x1, .int x2] : List Value)) = av at hC ⊢
  unfold w_Mo_writes at hp
  obtain ⟨k0, hp⟩ := hp
  refine lv_aload_n (pc := 0) hx hb d_Mo_writes_0 rfl (lv_at hl 0 rfl) ?_
  obtain ⟨k1, hp⟩ := hp
  refine gf_Mo_44 (pc := 1) hC hw k0 (Nat.ne_of_gt k1.1) d_Mo_writes_1 ?_
  refine lv_iload_n (pc := 4) hx hb d_Mo_writes_4 rfl (lv_at hl 1 rfl) ?_
  obtain ⟨k2, hp⟩ := hp
  refine fm_iald (pc := 5) hC hw k1 k2 rfl d_Mo_writes_5 ?_
  refine lv_topi (fun v3 ev3 => ?_)
  have hp := hp v3 ev3
  refine lv_istore_n (pc := 6) hx hb d_Mo_writes_6 rfl hl (by decide) rfl (fun ls hl => ?_)
  have hl : lv_has ls 4 [(3, .int v3), (0, .ref (b + h)), (1, .int x1), (2, .int x2)] := hl
  refine lv_iload_n (pc := 7) hx hb d_Mo_writes_7 rfl (lv_at hl 3 rfl) ?_
  refine lv_if_eq (pc := 8) (tgt := 39) hx hb d_Mo_writes_8 rfl (fun hc => ?_) (fun hc => ?_)
  · have hp := hp.1 hc
    refine lv_iconst (v := 1) (pc := 39) hx hb d_Mo_writes_39 (by decide) ?_
    refine lv_goto (pc := 40) (tgt := 44) hx hb d_Mo_writes_40 rfl ?_
    exact ret_zp hC hr hlk hw (Or.inr rfl) hp d_Mo_writes_44
  · have hp := hp.2 hc
    refine lv_iload_n (pc := 11) hx hb d_Mo_writes_11 rfl (lv_at hl 3 rfl) ?_
    refine lv_iconst (v := 2) (pc := 12) hx hb d_Mo_writes_12 (by decide) ?_
    refine lv_icmp_ne (pc := 13) (tgt := 33) hx hb d_Mo_writes_13 rfl (fun hc => ?_) (fun hc => ?_)
    · have hp := hp.2 hc
      refine lv_iload_n (pc := 33) hx hb d_Mo_writes_33 rfl (lv_at hl 0 rfl) ?_
      refine lv_bipush (v := 8) (pc := 34) hx hb d_Mo_writes_34 (by decide) ?_
      refine lv_icmp_ne (pc := 36) (tgt := 43) hx hb d_Mo_writes_36 rfl (fun hc => ?_) (fun hc => ?_)
      · have hp := hp.2 hc
        refine lv_iconst (v := 0) (pc := 43) hx hb d_Mo_writes_43 (by decide) ?_
        exact ret_zp hC hr hlk hw (Or.inl rfl) hp d_Mo_writes_44
      · have hp := hp.1 hc
        refine lv_iconst (v := 1) (pc := 39) hx hb d_Mo_writes_39 (by decide) ?_
        refine lv_goto (pc := 40) (tgt := 44) hx hb d_Mo_writes_40 rfl ?_
        exact ret_zp hC hr hlk hw (Or.inr rfl) hp d_Mo_writes_44
    · have hp := hp.1 hc
      refine lv_iload_n (pc := 16) hx hb d_Mo_writes_16 rfl (lv_at hl 0 rfl) ?_
      refine lv_iload_n (pc := 17) hx hb d_Mo_writes_17 rfl (lv_at hl 2 rfl) ?_
      refine lv_if_ne (pc := 18) (tgt := 25) hx hb d_Mo_writes_18 rfl (fun hc => ?_) (fun hc => ?_)
      · have hp := hp.2 hc
        refine lv_bipush (v := 7) (pc := 25) hx hb d_Mo_writes_25 (by decide) ?_
        refine lv_icmp_lt (pc := 27) (tgt := 43) hx hb d_Mo_writes_27 rfl (fun hc => ?_) (fun hc => ?_)
        · have hp := hp.1 hc
          refine lv_iconst (v := 0) (pc := 43) hx hb d_Mo_writes_43 (by decide) ?_
          exact ret_zp hC hr hlk hw (Or.inl rfl) hp d_Mo_writes_44
        · have hp := hp.2 hc
          refine lv_goto (pc := 30) (tgt := 39) hx hb d_Mo_writes_30 rfl ?_
          refine lv_iconst (v := 1) (pc := 39) hx hb d_Mo_writes_39 (by decide) ?_
          refine lv_goto (pc := 40) (tgt := 44) hx hb d_Mo_writes_40 rfl ?_
          exact ret_zp hC hr hlk hw (Or.inr rfl) hp d_Mo_writes_44
      · have hp := hp.1 hc
        refine lv_iconst (v := 4) (pc := 21) hx hb d_Mo_writes_21 (by decide) ?_
        refine lv_goto (pc := 22) (tgt := 27) hx hb d_Mo_writes_22 rfl ?_
        refine lv_icmp_lt (pc := 27) (tgt := 43) hx hb d_Mo_writes_27 rfl (fun hc => ?_) (fun hc => ?_)
        · have hp := hp.1 hc
          refine lv_iconst (v := 0) (pc := 43) hx hb d_Mo_writes_43 (by decide) ?_
          exact ret_zp hC hr hlk hw (Or.inl rfl) hp d_Mo_writes_44
        · have hp := hp.2 hc
          refine lv_goto (pc := 30) (tgt := 39) hx hb d_Mo_writes_30 rfl ?_
          refine lv_iconst (v := 1) (pc := 39) hx hb d_Mo_writes_39 (by decide) ?_
          refine lv_goto (pc := 40) (tgt := 44) hx hb d_Mo_writes_40 rfl ?_
          exact ret_zp hC hr hlk hw (Or.inr rfl) hp d_Mo_writes_44
