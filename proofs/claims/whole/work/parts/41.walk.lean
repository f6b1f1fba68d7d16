set_option maxHeartbeats 4000000 in
set_option maxRecDepth 100000 in
theorem c_Mo_note (l : Launch) (D : va_G) (dA : Nat → ClassId) (b n : Nat) (T : mT) (R : mR) (M : mM) (sz : Nat) (h : Nat) (x1 : Int32) (x2 : Int32) (x3 : Int32) (Q : mM → Prop) : Met l y_Mo_note (Cond.code y_Mo_note b_Mo_note 5 none :: tW) ({ frames := 0, cells := 0, slots := 0, locals := 0 }) (Pm D dA b n T R M sz [.ref (b + h), .int x1, .int x2, .int x3] (w_Mo_note n T R M h x1 x2 x3 Q)) (Qvm D dA (An b n) b n T R sz Q) 0 0 (An b n) := by
  refine fm_body (An b n) (by decide) (Nat.le_of_ble_eq_true rfl) (fun k h0 h1 => ⟨by omega, by omega⟩) (fun p e s m below meth c ls hC hr hlk hnm hl hw hp => ?_)
  have hx := hC.1.1
  have hb := hC.1.2.1
  have hl : lv_has ls 5 [(0, .ref (b + h)), (1, .int x1), (2, .int x2), (3, .int x3)] := hl
  generalize hav : (List.toArray ([.ref (b + h), .int x1, .int x2, .int x3] : List Value)) = av at hC ⊢
  unfold w_Mo_note at hp
  obtain ⟨k0, hp⟩ := hp
  have L40 : ∀ (N40 : Nat) (a0 : Nat) (a1 : Int32) (a2 : Int32) (a3 : Int32) (a4 : Int32) (M : mM)  (ls : Array Slot) (H : Heap) (locs : List Loc), ok T n a0 11 → lv_has ls 5 [(0, .ref (b + a0)), (1, .int a1), (2, .int a2), (3, .int a3), (4, .int a4)] → St D dA (An b n) b n T R M sz s.heap H locs → w_Mo_note_L40 n T R Q a0 a1 a2 a3 N40 a4 M → W p l e ({ frames := 0, cells := 0, slots := 0, locals := 0 }) s m av below meth c H locs 0 0 (MQ below (Qvm D dA (An b n) b n T R sz Q) av s 0 0 (An b n)) (F0 m 40 ls []) := by
    intro N40
    induction N40 with
    | zero => intro a0 a1 a2 a3 a4 M ls H locs f10 hl hw hp; exact False.elim hp
    | succ N40 ih40 =>
      intro a0 a1 a2 a3 a4 M ls H locs f10 hl hw hp
      unfold w_Mo_note_L40 at hp
      refine lv_iload (pc := 40) hx hb d_Mo_note_40 (lv_at hl 4 rfl) ?_
      refine lv_if_le (pc := 42) (tgt := 103) hx hb d_Mo_note_42 rfl (fun hc => ?_) (fun hc => ?_)
      · have hp := hp.1 hc
        refine lv_aload_n (pc := 103) hx hb d_Mo_note_103 rfl (lv_at hl 0 rfl) ?_
        obtain ⟨k11, hp⟩ := hp
        refine gf_Mo_59 (pc := 104) hC hw f10 (Nat.ne_of_gt k11.1) d_Mo_note_104 ?_
        refine lv_bipush (v := 8) (pc := 107) hx hb d_Mo_note_107 (by decide) ?_
        refine lv_iload_n (pc := 109) hx hb d_Mo_note_109 rfl (lv_at hl 1 rfl) ?_
        refine lv_imul (pc := 110) hx hb d_Mo_note_110 ?_
        refine lv_iload_n (pc := 111) hx hb d_Mo_note_111 rfl (lv_at hl 2 rfl) ?_
        obtain ⟨k12, hp⟩ := hp
        refine fm_iast (pc := 112) hC hw k11 k12 rfl d_Mo_note_112 (fun M13 H locs eM13 hw => ?_)
        have hp := hp M13 eM13
        refine lv_aload_n (pc := 113) hx hb d_Mo_note_113 rfl (lv_at hl 0 rfl) ?_
        obtain ⟨k14, hp⟩ := hp
        refine gf_Mo_62 (pc := 114) hC hw f10 (Nat.ne_of_gt k14.1) d_Mo_note_114 ?_
        refine lv_bipush (v := 8) (pc := 117) hx hb d_Mo_note_117 (by decide) ?_
        refine lv_iload_n (pc := 119) hx hb d_Mo_note_119 rfl (lv_at hl 1 rfl) ?_
        refine lv_imul (pc := 120) hx hb d_Mo_note_120 ?_
        refine lv_iload_n (pc := 121) hx hb d_Mo_note_121 rfl (lv_at hl 3 rfl) ?_
        obtain ⟨k15, hp⟩ := hp
        refine fm_iast (pc := 122) hC hw k14 k15 rfl d_Mo_note_122 (fun M16 H locs eM16 hw => ?_)
        have hp := hp M16 eM16
        exact ret_vm hC hr hlk hw hp d_Mo_note_123
      · have hp := hp.2 hc
        refine lv_aload_n (pc := 45) hx hb d_Mo_note_45 rfl (lv_at hl 0 rfl) ?_
        obtain ⟨k17, hp⟩ := hp
        refine gf_Mo_59 (pc := 46) hC hw f10 (Nat.ne_of_gt k17.1) d_Mo_note_46 ?_
        refine lv_bipush (v := 8) (pc := 49) hx hb d_Mo_note_49 (by decide) ?_
        refine lv_iload_n (pc := 51) hx hb d_Mo_note_51 rfl (lv_at hl 1 rfl) ?_
        refine lv_imul (pc := 52) hx hb d_Mo_note_52 ?_
        refine lv_iload (pc := 53) hx hb d_Mo_note_53 (lv_at hl 4 rfl) ?_
        refine lv_iadd (pc := 55) hx hb d_Mo_note_55 ?_
        refine lv_aload_n (pc := 56) hx hb d_Mo_note_56 rfl (lv_at hl 0 rfl) ?_
        refine gf_Mo_59 (pc := 57) hC hw f10 (Nat.ne_of_gt k17.1) d_Mo_note_57 ?_
        refine lv_bipush (v := 8) (pc := 60) hx hb d_Mo_note_60 (by decide) ?_
        refine lv_iload_n (pc := 62) hx hb d_Mo_note_62 rfl (lv_at hl 1 rfl) ?_
        refine lv_imul (pc := 63) hx hb d_Mo_note_63 ?_
        refine lv_iload (pc := 64) hx hb d_Mo_note_64 (lv_at hl 4 rfl) ?_
        refine lv_iadd (pc := 66) hx hb d_Mo_note_66 ?_
        refine lv_iconst (v := 1) (pc := 67) hx hb d_Mo_note_67 (by decide) ?_
        refine lv_isub (pc := 68) hx hb d_Mo_note_68 ?_
        obtain ⟨k18, hp⟩ := hp
        refine fm_iald (pc := 69) hC hw k17 k18 rfl d_Mo_note_69 ?_
        obtain ⟨k19, hp⟩ := hp
        refine fm_iast (pc := 70) hC hw k17 k19 rfl d_Mo_note_70 (fun M20 H locs eM20 hw => ?_)
        have hp := hp M20 eM20
        refine lv_aload_n (pc := 71) hx hb d_Mo_note_71 rfl (lv_at hl 0 rfl) ?_
        obtain ⟨k21, hp⟩ := hp
        refine gf_Mo_62 (pc := 72) hC hw f10 (Nat.ne_of_gt k21.1) d_Mo_note_72 ?_
        refine lv_bipush (v := 8) (pc := 75) hx hb d_Mo_note_75 (by decide) ?_
        refine lv_iload_n (pc := 77) hx hb d_Mo_note_77 rfl (lv_at hl 1 rfl) ?_
        refine lv_imul (pc := 78) hx hb d_Mo_note_78 ?_
        refine lv_iload (pc := 79) hx hb d_Mo_note_79 (lv_at hl 4 rfl) ?_
        refine lv_iadd (pc := 81) hx hb d_Mo_note_81 ?_
        refine lv_aload_n (pc := 82) hx hb d_Mo_note_82 rfl (lv_at hl 0 rfl) ?_
        refine gf_Mo_62 (pc := 83) hC hw f10 (Nat.ne_of_gt k21.1) d_Mo_note_83 ?_
        refine lv_bipush (v := 8) (pc := 86) hx hb d_Mo_note_86 (by decide) ?_
        refine lv_iload_n (pc := 88) hx hb d_Mo_note_88 rfl (lv_at hl 1 rfl) ?_
        refine lv_imul (pc := 89) hx hb d_Mo_note_89 ?_
        refine lv_iload (pc := 90) hx hb d_Mo_note_90 (lv_at hl 4 rfl) ?_
        refine lv_iadd (pc := 92) hx hb d_Mo_note_92 ?_
        refine lv_iconst (v := 1) (pc := 93) hx hb d_Mo_note_93 (by decide) ?_
        refine lv_isub (pc := 94) hx hb d_Mo_note_94 ?_
        obtain ⟨k22, hp⟩ := hp
        refine fm_iald (pc := 95) hC hw k21 k22 rfl d_Mo_note_95 ?_
        obtain ⟨k23, hp⟩ := hp
        refine fm_iast (pc := 96) hC hw k21 k23 rfl d_Mo_note_96 (fun M24 H locs eM24 hw => ?_)
        have hp := hp M24 eM24
        obtain ⟨v25, ev25⟩ : ∃ z : Int32, z = a4 + (-1 : Int32) := ⟨_, rfl⟩
        have hp := hp v25 ev25
        refine lv_iinc (pc := 97) (k := 4) (v := v25) hx hb d_Mo_note_97 hl rfl ev25.symm (by decide) rfl (fun ls hl => ?_)
        have hl : lv_has ls 5 [(4, .int v25), (0, .ref (b + a0)), (1, .int a1), (2, .int a2), (3, .int a3)] := hl
        refine lv_goto (pc := 100) (tgt := 40) hx hb d_Mo_note_100 rfl ?_
        exact ih40  a0 a1 a2 a3 v25 M24 ls _ _ f10 (lv_sub hl [1, 2, 3, 4, 0] rfl) hw hp
  have B29 : ∀ (a0 : Nat) (a1 : Int32) (a2 : Int32) (a3 : Int32) (s0 : Nat) (s1 : Int32) (s2 : Int32) (M : mM)  (ls : Array Slot) (H : Heap) (locs : List Loc), ok T n a0 11 → ok T n s0 100 → lv_has ls 5 [(0, .ref (b + a0)), (1, .int a1), (2, .int a2), (3, .int a3)] → St D dA (An b n) b n T R M sz s.heap H locs → w_Mo_note_B29 n T R Q a0 a1 a2 a3 s0 s1 s2 M → W p l e ({ frames := 0, cells := 0, slots := 0, locals := 0 }) s m av below meth c H locs 0 0 (MQ below (Qvm D dA (An b n) b n T R sz Q) av s 0 0 (An b n)) (F0 m 29 ls [.int s2, .int s1, .ref (b + s0)]) := by
    intro a0 a1 a2 a3 s0 s1 s2 M ls H locs f3 f4 hl hw hp
    unfold w_Mo_note_B29 at hp
    obtain ⟨k5, hp⟩ := hp
    refine fm_iast (pc := 29) hC hw f4 k5 rfl d_Mo_note_29 (fun M6 H locs eM6 hw => ?_)
    have hp := hp M6 eM6
    refine lv_aload_n (pc := 30) hx hb d_Mo_note_30 rfl (lv_at hl 0 rfl) ?_
    obtain ⟨k7, hp⟩ := hp
    refine gf_Mo_56 (pc := 31) hC hw f3 (Nat.ne_of_gt k7.1) d_Mo_note_31 ?_
    refine lv_iload_n (pc := 34) hx hb d_Mo_note_34 rfl (lv_at hl 1 rfl) ?_
    obtain ⟨k8, hp⟩ := hp
    refine fm_iald (pc := 35) hC hw k7 k8 rfl d_Mo_note_35 ?_
    refine lv_iconst (v := 1) (pc := 36) hx hb d_Mo_note_36 (by decide) ?_
    refine lv_isub (pc := 37) hx hb d_Mo_note_37 ?_
    refine lv_topi (fun v9 ev9 => ?_)
    have hp := hp v9 ev9
    refine lv_istore (pc := 38) hx hb d_Mo_note_38 hl (by decide) rfl (fun ls hl => ?_)
    have hl : lv_has ls 5 [(4, .int v9), (0, .ref (b + a0)), (1, .int a1), (2, .int a2), (3, .int a3)] := hl
    obtain ⟨N40, hp⟩ := hp
    exact L40 N40 a0 a1 a2 a3 v9 M6 ls _ _ f3 (lv_sub hl [1, 2, 3, 4, 0] rfl) hw hp
  refine lv_aload_n (pc := 0) hx hb d_Mo_note_0 rfl (lv_at hl 0 rfl) ?_
  obtain ⟨k1, hp⟩ := hp
  refine gf_Mo_56 (pc := 1) hC hw k0 (Nat.ne_of_gt k1.1) d_Mo_note_1 ?_
  refine lv_iload_n (pc := 4) hx hb d_Mo_note_4 rfl (lv_at hl 1 rfl) ?_
  refine lv_aload_n (pc := 5) hx hb d_Mo_note_5 rfl (lv_at hl 0 rfl) ?_
  refine gf_Mo_56 (pc := 6) hC hw k0 (Nat.ne_of_gt k1.1) d_Mo_note_6 ?_
  refine lv_iload_n (pc := 9) hx hb d_Mo_note_9 rfl (lv_at hl 1 rfl) ?_
  obtain ⟨k2, hp⟩ := hp
  refine fm_iald (pc := 10) hC hw k1 k2 rfl d_Mo_note_10 ?_
  refine lv_bipush (v := 8) (pc := 11) hx hb d_Mo_note_11 (by decide) ?_
  refine lv_icmp_ge (pc := 13) (tgt := 27) hx hb d_Mo_note_13 rfl (fun hc => ?_) (fun hc => ?_)
  · have hp := hp.1 hc
    refine lv_bipush (v := 8) (pc := 27) hx hb d_Mo_note_27 (by decide) ?_
    exact B29  h x1 x2 x3 (R h 26) x1 (8 : Int32) M ls _ _ k0 k1 (lv_sub hl [0, 1, 2, 3] rfl) hw hp
  · have hp := hp.2 hc
    refine lv_aload_n (pc := 16) hx hb d_Mo_note_16 rfl (lv_at hl 0 rfl) ?_
    refine gf_Mo_56 (pc := 17) hC hw k0 (Nat.ne_of_gt k1.1) d_Mo_note_17 ?_
    refine lv_iload_n (pc := 20) hx hb d_Mo_note_20 rfl (lv_at hl 1 rfl) ?_
    obtain ⟨k26, hp⟩ := hp
    refine fm_iald (pc := 21) hC hw k1 k26 rfl d_Mo_note_21 ?_
    refine lv_iconst (v := 1) (pc := 22) hx hb d_Mo_note_22 (by decide) ?_
    refine lv_iadd (pc := 23) hx hb d_Mo_note_23 ?_
    refine lv_goto (pc := 24) (tgt := 29) hx hb d_Mo_note_24 rfl ?_
    exact B29  h x1 x2 x3 (R h 26) x1 ((M (R h 26) x1.toNatClampNeg) + (1 : Int32)) M ls _ _ k0 k1 (lv_sub hl [0, 1, 2, 3] rfl) hw hp
set_option maxHeartbeats 4000000 in
set_option maxRecDepth 100000 in
theorem c_Mo_isWhole (l : Launch) (D : va_G) (dA : Nat → ClassId) (b n : Nat) (T : mT) (R : mR) (M : mM) (sz : Nat) (h : Nat) (x1 : Int32) (Q : Int32 → Prop) : Met l y_Mo_isWhole (Cond.code y_Mo_isWhole b_Mo_isWhole 4 (some .boolean) :: tW) ({ frames := 1, cells := 0, slots := 0, locals := 21 }) (Pm D dA b n T R M sz [.ref (b + h), .int x1] (w_Mo_isWhole n T R M h x1 Q)) (Qzp D dA (An b n) b n T R M sz Q) 0 0 (An b n) := by
  refine fm_body (An b n) (by decide) (Nat.le_of_ble_eq_true rfl) (fun k h0 h1 => ⟨by omega, by omega⟩) (fun p e s m below meth c ls hC hr hlk hnm hl hw hp => ?_)
  have hx := hC.1.1
  have hb := hC.1.2.1
  have hl : lv_has ls 4 [(0, .ref (b + h)), (1, .int x1)] := hl
  generalize hav : (List.toArray ([.ref (b + h), .int x1] : List Value)) = av at hC ⊢
  unfold w_Mo_isWhole at hp
  obtain ⟨k0, hp⟩ := hp
  have L4 : ∀ (N4 : Nat) (a0 : Nat) (a1 : Int32) (a2 : Int32) (a3 : Int32)   (ls : Array Slot) (H : Heap) (locs : List Loc), ok T n a0 11 → lv_has ls 4 [(0, .ref (b + a0)), (1, .int a1), (2, .int a2), (3, .int a3)] → St D dA (An b n) b n T R M sz s.heap H locs → w_Mo_isWhole_L4 n T R M Q a0 a1 N4 a2 a3 → W p l e ({ frames := 1, cells := 0, slots := 0, locals := 21 }) s m av below meth c H locs 0 0 (MQ below (Qzp D dA (An b n) b n T R M sz Q) av s 0 0 (An b n)) (F0 m 4 ls []) := by
    intro N4
    induction N4 with
    | zero => intro a0 a1 a2 a3 ls H locs f1 hl hw hp; exact False.elim hp
    | succ N4 ih4 =>
      intro a0 a1 a2 a3 ls H locs f1 hl hw hp
      unfold w_Mo_isWhole_L4 at hp
      refine lv_iload_n (pc := 4) hx hb d_Mo_isWhole_4 rfl (lv_at hl 3 rfl) ?_
      refine lv_aload_n (pc := 5) hx hb d_Mo_isWhole_5 rfl (lv_at hl 0 rfl) ?_
      refine lv_iload_n (pc := 6) hx hb d_Mo_isWhole_6 rfl (lv_at hl 1 rfl) ?_
      refine call_ip (pc := 7) (fun _ h => h) hw (fm_runV (As := [.int a1]) (rest := [.int a3]) hC hw (c_Mo_sizeOf l D dA b n T R M sz a0 a1 _) cy_Mo_sizeOf hp rfl rfl mw_361 mw_362 mw_363 (rfl : classes[11]? = _) (by decide) f1 ⟨Nat.le_of_ble_eq_true rfl, Nat.le_of_ble_eq_true rfl⟩ rfl hl.1 rfl (Nat.le_of_ble_eq_true rfl) d_Mo_isWhole_7 ⟨(Nat.le_of_ble_eq_true rfl), (Nat.le_of_ble_eq_true rfl)⟩) (fun r2 H locs hp hw => ?_)
      refine lv_icmp_ge (pc := 10) (tgt := 45) hx hb d_Mo_isWhole_10 rfl (fun hc => ?_) (fun hc => ?_)
      · have hp := hp.1 hc
        refine lv_iload_n (pc := 45) hx hb d_Mo_isWhole_45 rfl (lv_at hl 2 rfl) ?_
        obtain ⟨k3, hp⟩ := hp
        exact ret_zp hC hr hlk hw k3 hp d_Mo_isWhole_46
      · have hp := hp.2 hc
        refine lv_iload_n (pc := 13) hx hb d_Mo_isWhole_13 rfl (lv_at hl 2 rfl) ?_
        refine lv_if_eq (pc := 14) (tgt := 37) hx hb d_Mo_isWhole_14 rfl (fun hc => ?_) (fun hc => ?_)
        · have hp := hp.1 hc
          refine lv_iconst (v := 0) (pc := 37) hx hb d_Mo_isWhole_37 (by decide) ?_
          refine lv_istore_n (pc := 38) hx hb d_Mo_isWhole_38 rfl hl (by decide) rfl (fun ls hl => ?_)
          have hl : lv_has ls 4 [(2, .int (0 : Int32)), (0, .ref (b + a0)), (1, .int a1), (3, .int a3)] := hl
          obtain ⟨v4, ev4⟩ : ∃ z : Int32, z = a3 + (1 : Int32) := ⟨_, rfl⟩
          have hp := hp v4 ev4
          refine lv_iinc (pc := 39) (k := 3) (v := v4) hx hb d_Mo_isWhole_39 hl rfl ev4.symm (by decide) rfl (fun ls hl => ?_)
          have hl : lv_has ls 4 [(3, .int v4), (2, .int (0 : Int32)), (0, .ref (b + a0)), (1, .int a1)] := hl
          refine lv_goto (pc := 42) (tgt := 4) hx hb d_Mo_isWhole_42 rfl ?_
          exact ih4  a0 a1 (0 : Int32) v4 ls _ _ f1 (lv_sub hl [2, 3, 1, 0] rfl) hw hp
        · have hp := hp.2 hc
          refine lv_aload_n (pc := 17) hx hb d_Mo_isWhole_17 rfl (lv_at hl 0 rfl) ?_
          obtain ⟨k5, hp⟩ := hp
          refine gf_Mo_101 (pc := 18) hC hw f1 (Nat.ne_of_gt k5.1) d_Mo_isWhole_18 ?_
          refine lv_bipush (v := 48) (pc := 21) hx hb d_Mo_isWhole_21 (by decide) ?_
          refine lv_iload_n (pc := 23) hx hb d_Mo_isWhole_23 rfl (lv_at hl 1 rfl) ?_
          refine lv_iconst (v := 3) (pc := 24) hx hb d_Mo_isWhole_24 (by decide) ?_
          refine lv_isub (pc := 25) hx hb d_Mo_isWhole_25 ?_
          refine lv_imul (pc := 26) hx hb d_Mo_isWhole_26 ?_
          refine lv_iload_n (pc := 27) hx hb d_Mo_isWhole_27 rfl (lv_at hl 3 rfl) ?_
          refine lv_iadd (pc := 28) hx hb d_Mo_isWhole_28 ?_
          obtain ⟨k6, hp⟩ := hp
          refine fm_zald (pc := 29) hC hw k5 k6 rfl d_Mo_isWhole_29 ?_
          refine lv_if_eq (pc := 30) (tgt := 37) hx hb d_Mo_isWhole_30 rfl (fun hc => ?_) (fun hc => ?_)
          · have hp := hp.1 hc
            refine lv_iconst (v := 0) (pc := 37) hx hb d_Mo_isWhole_37 (by decide) ?_
            refine lv_istore_n (pc := 38) hx hb d_Mo_isWhole_38 rfl hl (by decide) rfl (fun ls hl => ?_)
            have hl : lv_has ls 4 [(2, .int (0 : Int32)), (0, .ref (b + a0)), (1, .int a1), (3, .int a3)] := hl
            obtain ⟨v7, ev7⟩ : ∃ z : Int32, z = a3 + (1 : Int32) := ⟨_, rfl⟩
            have hp := hp v7 ev7
            refine lv_iinc (pc := 39) (k := 3) (v := v7) hx hb d_Mo_isWhole_39 hl rfl ev7.symm (by decide) rfl (fun ls hl => ?_)
            have hl : lv_has ls 4 [(3, .int v7), (2, .int (0 : Int32)), (0, .ref (b + a0)), (1, .int a1)] := hl
            refine lv_goto (pc := 42) (tgt := 4) hx hb d_Mo_isWhole_42 rfl ?_
            exact ih4  a0 a1 (0 : Int32) v7 ls _ _ f1 (lv_sub hl [2, 3, 1, 0] rfl) hw hp
          · have hp := hp.2 hc
            refine lv_iconst (v := 1) (pc := 33) hx hb d_Mo_isWhole_33 (by decide) ?_
            refine lv_goto (pc := 34) (tgt := 38) hx hb d_Mo_isWhole_34 rfl ?_
            refine lv_istore_n (pc := 38) hx hb d_Mo_isWhole_38 rfl hl (by decide) rfl (fun ls hl => ?_)
            have hl : lv_has ls 4 [(2, .int (1 : Int32)), (0, .ref (b + a0)), (1, .int a1), (3, .int a3)] := hl
            obtain ⟨v8, ev8⟩ : ∃ z : Int32, z = a3 + (1 : Int32) := ⟨_, rfl⟩
            have hp := hp v8 ev8
            refine lv_iinc (pc := 39) (k := 3) (v := v8) hx hb d_Mo_isWhole_39 hl rfl ev8.symm (by decide) rfl (fun ls hl => ?_)
            have hl : lv_has ls 4 [(3, .int v8), (2, .int (1 : Int32)), (0, .ref (b + a0)), (1, .int a1)] := hl
            refine lv_goto (pc := 42) (tgt := 4) hx hb d_Mo_isWhole_42 rfl ?_
            exact ih4  a0 a1 (1 : Int32) v8 ls _ _ f1 (lv_sub hl [2, 3, 1, 0] rfl) hw hp
  refine lv_iconst (v := 1) (pc := 0) hx hb d_Mo_isWhole_0 (by decide) ?_
  refine lv_istore_n (pc := 1) hx hb d_Mo_isWhole_1 rfl hl (by decide) rfl (fun ls hl => ?_)
  have hl : lv_has ls 4 [(2, .int (1 : Int32)), (0, .ref (b + h)), (1, .int x1)] := hl
  refine lv_iconst (v := 0) (pc := 2) hx hb d_Mo_isWhole_2 (by decide) ?_
  refine lv_istore_n (pc := 3) hx hb d_Mo_isWhole_3 rfl hl (by decide) rfl (fun ls hl => ?_)
  have hl : lv_has ls 4 [(3, .int (0 : Int32)), (2, .int (1 : Int32)), (0, .ref (b + h)), (1, .int x1)] := hl
  obtain ⟨N4, hp⟩ := hp
  exact L4 N4 h x1 (1 : Int32) (0 : Int32) ls _ _ k0 (lv_sub hl [2, 3, 1, 0] rfl) hw hp
set_option maxHeartbeats 4000000 in
set_option maxRecDepth 100000 in
theorem c_Mo_gather (l : Launch) (D : va_G) (dA : Nat → ClassId) (b n : Nat) (T : mT) (R : mR) (M : mM) (sz : Nat) (h : Nat) (x1 : Int32) (x2 : Int32) (x3 : Int32) (Q : mM → Prop) : Met l y_Mo_gather (Cond.code y_Mo_gather b_Mo_gather 5 none :: tW) ({ frames := 3, cells := 0, slots := 0, locals := 77 }) (Pm D dA b n T R M sz [.ref (b + h), .int x1, .int x2, .int x3] (w_Mo_gather n T R M h x1 x2 x3 Q)) (Qvm D dA (An b n) b n T R sz Q) 0 0 (An b n) := by
  refine fm_body (An b n) (by decide) (Nat.le_of_ble_eq_true rfl) (fun k h0 h1 => ⟨by omega, by omega⟩) (fun p e s m below meth c ls hC hr hlk hnm hl hw hp => ?_)
  have hx := hC.1.1
  have hb := hC.1.2.1
  have hl : lv_has ls 5 [(0, .ref (b + h)), (1, .int x1), (2, .int x2), (3, .int x3)] := hl
  generalize hav : (List.toArray ([.ref (b + h), .int x1, .int x2, .int x3] : List Value)) = av at hC ⊢
  unfold w_Mo_gather at hp
  obtain ⟨k0, hp⟩ := hp
  have B69 : ∀ (a0 : Nat) (M : mM)  (ls : Array Slot) (H : Heap) (locs : List Loc), ok T n a0 11 → lv_has ls 5 [(0, .ref (b + a0))] → St D dA (An b n) b n T R M sz s.heap H locs → w_Mo_gather_B69 n T R Q a0 M → W p l e ({ frames := 3, cells := 0, slots := 0, locals := 77 }) s m av below meth c H locs 0 0 (MQ below (Qvm D dA (An b n) b n T R sz Q) av s 0 0 (An b n)) (F0 m 69 ls []) := by
    intro a0 M ls H locs f5 hl hw hp
    unfold w_Mo_gather_B69 at hp
    refine lv_aload_n (pc := 69) hx hb d_Mo_gather_69 rfl (lv_at hl 0 rfl) ?_
    obtain ⟨k6, hp⟩ := hp
    refine gf_Mo_44 (pc := 70) hC hw f5 (Nat.ne_of_gt k6.1) d_Mo_gather_70 ?_
    refine lv_iconst (v := 0) (pc := 73) hx hb d_Mo_gather_73 (by decide) ?_
    obtain ⟨k7, hp⟩ := hp
    refine fm_iald (pc := 74) hC hw k6 k7 (show Int32.toNatClampNeg (0 : Int32) = 0 by decide) d_Mo_gather_74 ?_
    refine lv_bipush (v := 7) (pc := 75) hx hb d_Mo_gather_75 (by decide) ?_
    refine lv_icmp_ne (pc := 77) (tgt := 106) hx hb d_Mo_gather_77 rfl (fun hc => ?_) (fun hc => ?_)
    · have hp := hp.2 hc
      refine lv_aload_n (pc := 106) hx hb d_Mo_gather_106 rfl (lv_at hl 0 rfl) ?_
      obtain ⟨k12, hp⟩ := hp
      refine gf_Mo_65 (pc := 107) hC hw f5 (Nat.ne_of_gt k12.1) d_Mo_gather_107 ?_
      refine lv_iconst (v := 0) (pc := 110) hx hb d_Mo_gather_110 (by decide) ?_
      refine lv_aload_n (pc := 111) hx hb d_Mo_gather_111 rfl (lv_at hl 0 rfl) ?_
      refine gf_Mo_174 (pc := 112) hC hw f5 d_Mo_gather_112 ?_
      refine lv_iconst (v := 2) (pc := 115) hx hb d_Mo_gather_115 (by decide) ?_
      refine lv_iadd (pc := 116) hx hb d_Mo_gather_116 ?_
      obtain ⟨k13, hp⟩ := hp
      refine fm_iast (pc := 117) hC hw k12 k13 (show Int32.toNatClampNeg (0 : Int32) = 0 by decide) d_Mo_gather_117 (fun M14 H locs eM14 hw => ?_)
      have hp := hp M14 eM14
      exact ret_vm hC hr hlk hw hp d_Mo_gather_118
    · have hp := hp.1 hc
      refine lv_aload_n (pc := 80) hx hb d_Mo_gather_80 rfl (lv_at hl 0 rfl) ?_
      refine gf_Mo_44 (pc := 81) hC hw f5 (Nat.ne_of_gt k6.1) d_Mo_gather_81 ?_
      refine lv_iconst (v := 0) (pc := 84) hx hb d_Mo_gather_84 (by decide) ?_
      refine lv_bipush (v := 8) (pc := 85) hx hb d_Mo_gather_85 (by decide) ?_
      obtain ⟨k8, hp⟩ := hp
      refine fm_iast (pc := 87) hC hw k6 k8 (show Int32.toNatClampNeg (0 : Int32) = 0 by decide) d_Mo_gather_87 (fun M9 H locs eM9 hw => ?_)
      have hp := hp M9 eM9
      refine lv_aload_n (pc := 88) hx hb d_Mo_gather_88 rfl (lv_at hl 0 rfl) ?_
      refine lv_iconst (v := 0) (pc := 89) hx hb d_Mo_gather_89 (by decide) ?_
      refine lv_iconst (v := 3) (pc := 90) hx hb d_Mo_gather_90 (by decide) ?_
      refine call_vm (pc := 91) (fun _ h => h) hw (fm_runV (As := [.int (0 : Int32), .int (3 : Int32)]) (rest := []) hC hw (c_Mo_become l D dA b n T R M9 sz a0 (0 : Int32) (3 : Int32) _) cy_Mo_become hp rfl rfl mw_378 mw_379 mw_380 (rfl : classes[11]? = _) (by decide) f5 ⟨Nat.le_of_ble_eq_true rfl, Nat.le_of_ble_eq_true rfl⟩ rfl hl.1 rfl (Nat.le_of_ble_eq_true rfl) d_Mo_gather_91 ⟨(Nat.le_of_ble_eq_true rfl), (Nat.le_of_ble_eq_true rfl)⟩) (fun M10 H locs hp hw => ?_)
      refine lv_aload_n (pc := 94) hx hb d_Mo_gather_94 rfl (lv_at hl 0 rfl) ?_
      refine lv_iconst (v := 0) (pc := 95) hx hb d_Mo_gather_95 (by decide) ?_
      refine lv_bipush (v := 7) (pc := 96) hx hb d_Mo_gather_96 (by decide) ?_
      refine lv_bipush (v := 7) (pc := 98) hx hb d_Mo_gather_98 (by decide) ?_
      refine call_vm (pc := 100) (fun _ h => h) hw (fm_runV (As := [.int (0 : Int32), .int (7 : Int32), .int (7 : Int32)]) (rest := []) hC hw (c_Mo_fly l D dA b n T R M10 sz a0 (0 : Int32) (7 : Int32) (7 : Int32) _) cy_Mo_fly hp rfl rfl mw_381 mw_382 mw_383 (rfl : classes[11]? = _) (by decide) f5 ⟨Nat.le_of_ble_eq_true rfl, Nat.le_of_ble_eq_true rfl⟩ rfl hl.1 rfl (Nat.le_of_ble_eq_true rfl) d_Mo_gather_100 ⟨(Nat.le_of_ble_eq_true rfl), (Nat.le_of_ble_eq_true rfl)⟩) (fun M11 H locs hp hw => ?_)
      refine lv_goto (pc := 103) (tgt := 118) hx hb d_Mo_gather_103 rfl ?_
      exact ret_vm hC hr hlk hw hp d_Mo_gather_118
  have L32 : ∀ (N32 : Nat) (a0 : Nat) (M : mM)  (ls : Array Slot) (H : Heap) (locs : List Loc), ok T n a0 11 → lv_has ls 5 [(0, .ref (b + a0))] → St D dA (An b n) b n T R M sz s.heap H locs → w_Mo_gather_L32 n T R Q a0 N32 M → W p l e ({ frames := 3, cells := 0, slots := 0, locals := 77 }) s m av below meth c H locs 0 0 (MQ below (Qvm D dA (An b n) b n T R sz Q) av s 0 0 (An b n)) (F0 m 32 ls []) := by
    intro N32
    induction N32 with
    | zero => intro a0 M ls H locs f2 hl hw hp; exact False.elim hp
    | succ N32 ih32 =>
      intro a0 M ls H locs f2 hl hw hp
      unfold w_Mo_gather_L32 at hp
      refine lv_aload_n (pc := 32) hx hb d_Mo_gather_32 rfl (lv_at hl 0 rfl) ?_
      obtain ⟨k3, hp⟩ := hp
      refine gf_Mo_44 (pc := 33) hC hw f2 (Nat.ne_of_gt k3.1) d_Mo_gather_33 ?_
      refine lv_iconst (v := 0) (pc := 36) hx hb d_Mo_gather_36 (by decide) ?_
      obtain ⟨k4, hp⟩ := hp
      refine fm_iald (pc := 37) hC hw k3 k4 (show Int32.toNatClampNeg (0 : Int32) = 0 by decide) d_Mo_gather_37 ?_
      refine lv_bipush (v := 7) (pc := 38) hx hb d_Mo_gather_38 (by decide) ?_
      refine lv_icmp_ge (pc := 40) (tgt := 69) hx hb d_Mo_gather_40 rfl (fun hc => ?_) (fun hc => ?_)
      · have hp := hp.1 hc
        exact B69  a0 M ls _ _ f2 (lv_sub hl [0] rfl) hw hp
      · have hp := hp.2 hc
        refine lv_aload_n (pc := 43) hx hb d_Mo_gather_43 rfl (lv_at hl 0 rfl) ?_
        refine lv_aload_n (pc := 44) hx hb d_Mo_gather_44 rfl (lv_at hl 0 rfl) ?_
        refine gf_Mo_44 (pc := 45) hC hw f2 (Nat.ne_of_gt k3.1) d_Mo_gather_45 ?_
        refine lv_iconst (v := 0) (pc := 48) hx hb d_Mo_gather_48 (by decide) ?_
        obtain ⟨k15, hp⟩ := hp
        refine fm_iald (pc := 49) hC hw k3 k15 (show Int32.toNatClampNeg (0 : Int32) = 0 by decide) d_Mo_gather_49 ?_
        refine call_zp (pc := 50) (fun _ h => h) hw (fm_runV (As := [.int (M (R a0 22) 0)]) (rest := []) hC hw (c_Mo_isWhole l D dA b n T R M sz a0 (M (R a0 22) 0) _) cy_Mo_isWhole hp rfl rfl mw_408 mw_409 mw_410 (rfl : classes[11]? = _) (by decide) f2 ⟨Nat.le_of_ble_eq_true rfl, Nat.le_of_ble_eq_true rfl⟩ rfl hl.1 rfl (Nat.le_of_ble_eq_true rfl) d_Mo_gather_50 ⟨(Nat.le_of_ble_eq_true rfl), (Nat.le_of_ble_eq_true rfl)⟩) (fun r16 H locs hp z17 hw => ?_)
        refine lv_if_eq (pc := 53) (tgt := 69) hx hb d_Mo_gather_53 rfl (fun hc => ?_) (fun hc => ?_)
        · have hp := hp.1 hc
          exact B69  a0 M ls _ _ f2 (lv_sub hl [0] rfl) hw hp
        · have hp := hp.2 hc
          refine lv_aload_n (pc := 56) hx hb d_Mo_gather_56 rfl (lv_at hl 0 rfl) ?_
          refine gf_Mo_44 (pc := 57) hC hw f2 (Nat.ne_of_gt k3.1) d_Mo_gather_57 ?_
          refine lv_iconst (v := 0) (pc := 60) hx hb d_Mo_gather_60 (by decide) ?_
          refine lv_dup2_11 (pc := 61) hx hb d_Mo_gather_61 rfl rfl ?_
          obtain ⟨k18, hp⟩ := hp
          refine fm_iald (pc := 62) hC hw k3 k18 (show Int32.toNatClampNeg (0 : Int32) = 0 by decide) d_Mo_gather_62 ?_
          refine lv_iconst (v := 1) (pc := 63) hx hb d_Mo_gather_63 (by decide) ?_
          refine lv_iadd (pc := 64) hx hb d_Mo_gather_64 ?_
          obtain ⟨k19, hp⟩ := hp
          refine fm_iast (pc := 65) hC hw k3 k19 (show Int32.toNatClampNeg (0 : Int32) = 0 by decide) d_Mo_gather_65 (fun M20 H locs eM20 hw => ?_)
          have hp := hp M20 eM20
          refine lv_goto (pc := 66) (tgt := 32) hx hb d_Mo_gather_66 rfl ?_
          exact ih32  a0 M20 ls _ _ f2 (lv_sub hl [0] rfl) hw hp
  have L3 : ∀ (N3 : Nat) (a0 : Nat) (a1 : Int32) (a2 : Int32) (a3 : Int32) (a4 : Int32) (M : mM)  (ls : Array Slot) (H : Heap) (locs : List Loc), ok T n a0 11 → lv_has ls 5 [(0, .ref (b + a0)), (1, .int a1), (2, .int a2), (3, .int a3), (4, .int a4)] → St D dA (An b n) b n T R M sz s.heap H locs → w_Mo_gather_L3 n T R Q a0 a1 a2 a3 N3 a4 M → W p l e ({ frames := 3, cells := 0, slots := 0, locals := 77 }) s m av below meth c H locs 0 0 (MQ below (Qvm D dA (An b n) b n T R sz Q) av s 0 0 (An b n)) (F0 m 3 ls []) := by
    intro N3
    induction N3 with
    | zero => intro a0 a1 a2 a3 a4 M ls H locs f1 hl hw hp; exact False.elim hp
    | succ N3 ih3 =>
      intro a0 a1 a2 a3 a4 M ls H locs f1 hl hw hp
      unfold w_Mo_gather_L3 at hp
      refine lv_iload (pc := 3) hx hb d_Mo_gather_3 (lv_at hl 4 rfl) ?_
      refine lv_iload_n (pc := 5) hx hb d_Mo_gather_5 rfl (lv_at hl 2 rfl) ?_
      refine lv_iload_n (pc := 6) hx hb d_Mo_gather_6 rfl (lv_at hl 3 rfl) ?_
      refine lv_iadd (pc := 7) hx hb d_Mo_gather_7 ?_
      refine lv_icmp_ge (pc := 8) (tgt := 32) hx hb d_Mo_gather_8 rfl (fun hc => ?_) (fun hc => ?_)
      · have hp := hp.1 hc
        obtain ⟨N32, hp⟩ := hp
        exact L32 N32 a0 M ls _ _ f1 (lv_sub hl [0] rfl) hw hp
      · have hp := hp.2 hc
        refine lv_aload_n (pc := 11) hx hb d_Mo_gather_11 rfl (lv_at hl 0 rfl) ?_
        obtain ⟨k21, hp⟩ := hp
        refine gf_Mo_101 (pc := 12) hC hw f1 (Nat.ne_of_gt k21.1) d_Mo_gather_12 ?_
        refine lv_bipush (v := 48) (pc := 15) hx hb d_Mo_gather_15 (by decide) ?_
        refine lv_iload_n (pc := 17) hx hb d_Mo_gather_17 rfl (lv_at hl 1 rfl) ?_
        refine lv_iconst (v := 3) (pc := 18) hx hb d_Mo_gather_18 (by decide) ?_
        refine lv_isub (pc := 19) hx hb d_Mo_gather_19 ?_
        refine lv_imul (pc := 20) hx hb d_Mo_gather_20 ?_
        refine lv_iload (pc := 21) hx hb d_Mo_gather_21 (lv_at hl 4 rfl) ?_
        refine lv_iadd (pc := 23) hx hb d_Mo_gather_23 ?_
        refine lv_iconst (v := 1) (pc := 24) hx hb d_Mo_gather_24 (by decide) ?_
        obtain ⟨k22, hp⟩ := hp
        refine fm_zast (pc := 25) hC hw (Or.inr rfl) k21 k22 rfl d_Mo_gather_25 (fun M23 H locs eM23 hw => ?_)
        have hp := hp M23 eM23
        obtain ⟨v24, ev24⟩ : ∃ z : Int32, z = a4 + (1 : Int32) := ⟨_, rfl⟩
        have hp := hp v24 ev24
        refine lv_iinc (pc := 26) (k := 4) (v := v24) hx hb d_Mo_gather_26 hl rfl ev24.symm (by decide) rfl (fun ls hl => ?_)
        have hl : lv_has ls 5 [(4, .int v24), (0, .ref (b + a0)), (1, .int a1), (2, .int a2), (3, .int a3)] := hl
        refine lv_goto (pc := 29) (tgt := 3) hx hb d_Mo_gather_29 rfl ?_
        exact ih3  a0 a1 a2 a3 v24 M23 ls _ _ f1 (lv_sub hl [1, 2, 3, 4, 0] rfl) hw hp
  refine lv_iload_n (pc := 0) hx hb d_Mo_gather_0 rfl (lv_at hl 2 rfl) ?_
  refine lv_istore (pc := 1) hx hb d_Mo_gather_1 hl (by decide) rfl (fun ls hl => ?_)
  have hl : lv_has ls 5 [(4, .int x2), (0, .ref (b + h)), (1, .int x1), (2, .int x2), (3, .int x3)] := hl
  obtain ⟨N3, hp⟩ := hp
  exact L3 N3 h x1 x2 x3 x2 M ls _ _ k0 (lv_sub hl [1, 2, 3, 4, 0] rfl) hw hp
set_option maxHeartbeats 4000000 in
set_option maxRecDepth 100000 in
theorem c_Mo_takeFragment (l : Launch) (D : va_G) (dA : Nat → ClassId) (b n : Nat) (T : mT) (R : mR) (M : mM) (sz : Nat) (h : Nat) (x1 : Int32) (x2 : Int32) (x3 : Int32) (x4 : Int32) (x5 : Int32) (x6 : Int32) (Q : mM → Prop) : Met l y_Mo_takeFragment (Cond.code y_Mo_takeFragment b_Mo_takeFragment 7 none :: tW) ({ frames := 4, cells := 0, slots := 0, locals := 101 }) (Pm D dA b n T R M sz [.ref (b + h), .int x1, .int x2, .int x3, .int x4, .int x5, .int x6] (w_Mo_takeFragment n T R M h x1 x2 x3 x4 x5 x6 Q)) (Qvm D dA (An b n) b n T R sz Q) 0 0 (An b n) := by
  refine fm_body (An b n) (by decide) (Nat.le_of_ble_eq_true rfl) (fun k h0 h1 => ⟨by omega, by omega⟩) (fun p e s m below meth c ls hC hr hlk hnm hl hw hp => ?_)
  have hx := hC.1.1
  have hb := hC.1.2.1
  have hl : lv_has ls 7 [(0, .ref (b + h)), (1, .int x1), (2, .int x2), (3, .int x3), (4, .int x4), (5, .int x5), (6, .int x6)] := hl
  generalize hav : (List.toArray ([.ref (b + h), .int x1, .int x2, .int x3, .int x4, .int x5, .int x6] : List Value)) = av at hC ⊢
  unfold w_Mo_takeFragment at hp
  obtain ⟨k0, hp⟩ := hp
  have B112 : ∀ (a0 : Nat) (a1 : Int32) (a2 : Int32) (a5 : Int32) (a6 : Int32) (M : mM)  (ls : Array Slot) (H : Heap) (locs : List Loc), ok T n a0 11 → lv_has ls 7 [(0, .ref (b + a0)), (1, .int a1), (2, .int a2), (5, .int a5), (6, .int a6)] → St D dA (An b n) b n T R M sz s.heap H locs → w_Mo_takeFragment_B112 n T R Q a0 a1 a2 a5 a6 M → W p l e ({ frames := 4, cells := 0, slots := 0, locals := 101 }) s m av below meth c H locs 0 0 (MQ below (Qvm D dA (An b n) b n T R sz Q) av s 0 0 (An b n)) (F0 m 112 ls []) := by
    intro a0 a1 a2 a5 a6 M ls H locs f11 hl hw hp
    unfold w_Mo_takeFragment_B112 at hp
    refine lv_iload_n (pc := 112) hx hb d_Mo_takeFragment_112 rfl (lv_at hl 1 rfl) ?_
    refine lv_iconst (v := 1) (pc := 113) hx hb d_Mo_takeFragment_113 (by decide) ?_
    refine lv_icmp_ne (pc := 114) (tgt := 167) hx hb d_Mo_takeFragment_114 rfl (fun hc => ?_) (fun hc => ?_)
    · have hp := hp.2 hc
      exact ret_vm hC hr hlk hw hp d_Mo_takeFragment_167
    · have hp := hp.1 hc
      refine lv_iload_n (pc := 117) hx hb d_Mo_takeFragment_117 rfl (lv_at hl 2 rfl) ?_
      refine lv_bipush (v := 7) (pc := 118) hx hb d_Mo_takeFragment_118 (by decide) ?_
      refine lv_icmp_ne (pc := 120) (tgt := 167) hx hb d_Mo_takeFragment_120 rfl (fun hc => ?_) (fun hc => ?_)
      · have hp := hp.2 hc
        exact ret_vm hC hr hlk hw hp d_Mo_takeFragment_167
      · have hp := hp.1 hc
        refine lv_aload_n (pc := 123) hx hb d_Mo_takeFragment_123 rfl (lv_at hl 0 rfl) ?_
        obtain ⟨k12, hp⟩ := hp
        refine gf_Mo_41 (pc := 124) hC hw f11 (Nat.ne_of_gt k12.1) d_Mo_takeFragment_124 ?_
        refine lv_iconst (v := 1) (pc := 127) hx hb d_Mo_takeFragment_127 (by decide) ?_
        obtain ⟨k13, hp⟩ := hp
        refine fm_iald (pc := 128) hC hw k12 k13 (show Int32.toNatClampNeg (1 : Int32) = 1 by decide) d_Mo_takeFragment_128 ?_
        refine lv_if_le (pc := 129) (tgt := 167) hx hb d_Mo_takeFragment_129 rfl (fun hc => ?_) (fun hc => ?_)
        · have hp := hp.1 hc
          exact ret_vm hC hr hlk hw hp d_Mo_takeFragment_167
        · have hp := hp.2 hc
          refine lv_aload_n (pc := 132) hx hb d_Mo_takeFragment_132 rfl (lv_at hl 0 rfl) ?_
          refine lv_iconst (v := 1) (pc := 133) hx hb d_Mo_takeFragment_133 (by decide) ?_
          refine lv_iload (pc := 134) hx hb d_Mo_takeFragment_134 (lv_at hl 3 rfl) ?_
          refine lv_iload (pc := 136) hx hb d_Mo_takeFragment_136 (lv_at hl 4 rfl) ?_
          refine call_vm (pc := 138) (fun _ h => h) hw (fm_runV (As := [.int (1 : Int32), .int a5, .int a6]) (rest := []) hC hw (c_Mo_note l D dA b n T R M sz a0 (1 : Int32) a5 a6 _) cy_Mo_note hp rfl rfl mw_411 mw_412 mw_413 (rfl : classes[11]? = _) (by decide) f11 ⟨Nat.le_of_ble_eq_true rfl, Nat.le_of_ble_eq_true rfl⟩ rfl hl.1 rfl (Nat.le_of_ble_eq_true rfl) d_Mo_takeFragment_138 ⟨(Nat.le_of_ble_eq_true rfl), (Nat.le_of_ble_eq_true rfl)⟩) (fun M14 H locs hp hw => ?_)
          refine lv_aload_n (pc := 141) hx hb d_Mo_takeFragment_141 rfl (lv_at hl 0 rfl) ?_
          obtain ⟨k15, hp⟩ := hp
          refine gf_Mo_44 (pc := 142) hC hw f11 (Nat.ne_of_gt k15.1) d_Mo_takeFragment_142 ?_
          refine lv_iconst (v := 1) (pc := 145) hx hb d_Mo_takeFragment_145 (by decide) ?_
          refine lv_bipush (v := 8) (pc := 146) hx hb d_Mo_takeFragment_146 (by decide) ?_
          obtain ⟨k16, hp⟩ := hp
          refine fm_iast (pc := 148) hC hw k15 k16 (show Int32.toNatClampNeg (1 : Int32) = 1 by decide) d_Mo_takeFragment_148 (fun M17 H locs eM17 hw => ?_)
          have hp := hp M17 eM17
          refine lv_aload_n (pc := 149) hx hb d_Mo_takeFragment_149 rfl (lv_at hl 0 rfl) ?_
          obtain ⟨k18, hp⟩ := hp
          refine gf_Mo_68 (pc := 150) hC hw f11 (Nat.ne_of_gt k18.1) d_Mo_takeFragment_150 ?_
          refine lv_iconst (v := 1) (pc := 153) hx hb d_Mo_takeFragment_153 (by decide) ?_
          refine lv_iconst (v := 0) (pc := 154) hx hb d_Mo_takeFragment_154 (by decide) ?_
          obtain ⟨k19, hp⟩ := hp
          refine fm_iast (pc := 155) hC hw k18 k19 (show Int32.toNatClampNeg (1 : Int32) = 1 by decide) d_Mo_takeFragment_155 (fun M20 H locs eM20 hw => ?_)
          have hp := hp M20 eM20
          refine lv_aload_n (pc := 156) hx hb d_Mo_takeFragment_156 rfl (lv_at hl 0 rfl) ?_
          refine lv_iconst (v := 1) (pc := 157) hx hb d_Mo_takeFragment_157 (by decide) ?_
          refine lv_iconst (v := 2) (pc := 158) hx hb d_Mo_takeFragment_158 (by decide) ?_
          refine call_vm (pc := 159) (fun _ h => h) hw (fm_runV (As := [.int (1 : Int32), .int (2 : Int32)]) (rest := []) hC hw (c_Mo_become l D dA b n T R M20 sz a0 (1 : Int32) (2 : Int32) _) cy_Mo_become hp rfl rfl mw_378 mw_379 mw_380 (rfl : classes[11]? = _) (by decide) f11 ⟨Nat.le_of_ble_eq_true rfl, Nat.le_of_ble_eq_true rfl⟩ rfl hl.1 rfl (Nat.le_of_ble_eq_true rfl) d_Mo_takeFragment_159 ⟨(Nat.le_of_ble_eq_true rfl), (Nat.le_of_ble_eq_true rfl)⟩) (fun M21 H locs hp hw => ?_)
          refine lv_aload_n (pc := 162) hx hb d_Mo_takeFragment_162 rfl (lv_at hl 0 rfl) ?_
          refine lv_iconst (v := 1) (pc := 163) hx hb d_Mo_takeFragment_163 (by decide) ?_
          refine call_vm (pc := 164) (fun _ h => h) hw (fm_runV (As := [.int (1 : Int32)]) (rest := []) hC hw (c_Mo_sendAck l D dA b n T R M21 sz a0 (1 : Int32) _) cy_Mo_sendAck hp rfl rfl mw_387 mw_388 mw_389 (rfl : classes[11]? = _) (by decide) f11 ⟨Nat.le_of_ble_eq_true rfl, Nat.le_of_ble_eq_true rfl⟩ rfl hl.1 rfl (Nat.le_of_ble_eq_true rfl) d_Mo_takeFragment_164 ⟨(Nat.le_of_ble_eq_true rfl), (Nat.le_of_ble_eq_true rfl)⟩) (fun M22 H locs hp hw => ?_)
          exact ret_vm hC hr hlk hw hp d_Mo_takeFragment_167
  have B94 : ∀ (a0 : Nat) (a1 : Int32) (a2 : Int32) (a5 : Int32) (a6 : Int32) (M : mM)  (ls : Array Slot) (H : Heap) (locs : List Loc), ok T n a0 11 → lv_has ls 7 [(0, .ref (b + a0)), (1, .int a1), (2, .int a2), (5, .int a5), (6, .int a6)] → St D dA (An b n) b n T R M sz s.heap H locs → w_Mo_takeFragment_B94 n T R Q a0 a1 a2 a5 a6 M → W p l e ({ frames := 4, cells := 0, slots := 0, locals := 101 }) s m av below meth c H locs 0 0 (MQ below (Qvm D dA (An b n) b n T R sz Q) av s 0 0 (An b n)) (F0 m 94 ls []) := by
    intro a0 a1 a2 a5 a6 M ls H locs f9 hl hw hp
    unfold w_Mo_takeFragment_B94 at hp
    refine lv_iload_n (pc := 94) hx hb d_Mo_takeFragment_94 rfl (lv_at hl 1 rfl) ?_
    refine lv_iconst (v := 1) (pc := 95) hx hb d_Mo_takeFragment_95 (by decide) ?_
    refine lv_icmp_ne (pc := 96) (tgt := 112) hx hb d_Mo_takeFragment_96 rfl (fun hc => ?_) (fun hc => ?_)
    · have hp := hp.2 hc
      exact B112  a0 a1 a2 a5 a6 M ls _ _ f9 (lv_sub hl [0, 1, 2, 3, 4] rfl) hw hp
    · have hp := hp.1 hc
      refine lv_iload_n (pc := 99) hx hb d_Mo_takeFragment_99 rfl (lv_at hl 2 rfl) ?_
      refine lv_if_ne (pc := 100) (tgt := 112) hx hb d_Mo_takeFragment_100 rfl (fun hc => ?_) (fun hc => ?_)
      · have hp := hp.2 hc
        exact B112  a0 a1 a2 a5 a6 M ls _ _ f9 (lv_sub hl [0, 1, 2, 3, 4] rfl) hw hp
      · have hp := hp.1 hc
        refine lv_aload_n (pc := 103) hx hb d_Mo_takeFragment_103 rfl (lv_at hl 0 rfl) ?_
        refine lv_iload (pc := 104) hx hb d_Mo_takeFragment_104 (lv_at hl 4 rfl) ?_
        refine call_vm (pc := 106) (fun _ h => h) hw (fm_runV (As := [.int a6]) (rest := []) hC hw (c_Mo_retry l D dA b n T R M sz a0 a6 _) cy_Mo_retry hp rfl rfl mw_402 mw_403 mw_404 (rfl : classes[11]? = _) (by decide) f9 ⟨Nat.le_of_ble_eq_true rfl, Nat.le_of_ble_eq_true rfl⟩ rfl hl.1 rfl (Nat.le_of_ble_eq_true rfl) d_Mo_takeFragment_106 ⟨(Nat.le_of_ble_eq_true rfl), (Nat.le_of_ble_eq_true rfl)⟩) (fun M10 H locs hp hw => ?_)
        refine lv_goto (pc := 109) (tgt := 167) hx hb d_Mo_takeFragment_109 rfl ?_
        exact ret_vm hC hr hlk hw hp d_Mo_takeFragment_167
  have B42 : ∀ (a0 : Nat) (a1 : Int32) (a2 : Int32) (a3 : Int32) (a4 : Int32) (a5 : Int32) (a6 : Int32) (M : mM)  (ls : Array Slot) (H : Heap) (locs : List Loc), ok T n a0 11 → lv_has ls 7 [(0, .ref (b + a0)), (1, .int a1), (2, .int a2), (3, .int a3), (4, .int a4), (5, .int a5), (6, .int a6)] → St D dA (An b n) b n T R M sz s.heap H locs → w_Mo_takeFragment_B42 n T R Q a0 a1 a2 a3 a4 a5 a6 M → W p l e ({ frames := 4, cells := 0, slots := 0, locals := 101 }) s m av below meth c H locs 0 0 (MQ below (Qvm D dA (An b n) b n T R sz Q) av s 0 0 (An b n)) (F0 m 42 ls []) := by
    intro a0 a1 a2 a3 a4 a5 a6 M ls H locs f8 hl hw hp
    unfold w_Mo_takeFragment_B42 at hp
    refine lv_iload_n (pc := 42) hx hb d_Mo_takeFragment_42 rfl (lv_at hl 1 rfl) ?_
    refine lv_if_ne (pc := 43) (tgt := 94) hx hb d_Mo_takeFragment_43 rfl (fun hc => ?_) (fun hc => ?_)
    · have hp := hp.2 hc
      exact B94  a0 a1 a2 a5 a6 M ls _ _ f8 (lv_sub hl [0, 1, 2, 5, 6] rfl) hw hp
    · have hp := hp.1 hc
      refine lv_iload_n (pc := 46) hx hb d_Mo_takeFragment_46 rfl (lv_at hl 2 rfl) ?_
      refine lv_iconst (v := 3) (pc := 47) hx hb d_Mo_takeFragment_47 (by decide) ?_
      refine lv_icmp_lt (pc := 48) (tgt := 94) hx hb d_Mo_takeFragment_48 rfl (fun hc => ?_) (fun hc => ?_)
      · have hp := hp.1 hc
        exact B94  a0 a1 a2 a5 a6 M ls _ _ f8 (lv_sub hl [0, 1, 2, 5, 6] rfl) hw hp
      · have hp := hp.2 hc
        refine lv_iload_n (pc := 51) hx hb d_Mo_takeFragment_51 rfl (lv_at hl 2 rfl) ?_
        refine lv_bipush (v := 6) (pc := 52) hx hb d_Mo_takeFragment_52 (by decide) ?_
        refine lv_icmp_gt (pc := 54) (tgt := 94) hx hb d_Mo_takeFragment_54 rfl (fun hc => ?_) (fun hc => ?_)
        · have hp := hp.1 hc
          exact B94  a0 a1 a2 a5 a6 M ls _ _ f8 (lv_sub hl [0, 1, 2, 5, 6] rfl) hw hp
        · have hp := hp.2 hc
          refine lv_aload_n (pc := 57) hx hb d_Mo_takeFragment_57 rfl (lv_at hl 0 rfl) ?_
          obtain ⟨k23, hp⟩ := hp
          refine gf_Mo_41 (pc := 58) hC hw f8 (Nat.ne_of_gt k23.1) d_Mo_takeFragment_58 ?_
          refine lv_iconst (v := 0) (pc := 61) hx hb d_Mo_takeFragment_61 (by decide) ?_
          obtain ⟨k24, hp⟩ := hp
          refine fm_iald (pc := 62) hC hw k23 k24 (show Int32.toNatClampNeg (0 : Int32) = 0 by decide) d_Mo_takeFragment_62 ?_
          refine lv_iconst (v := 2) (pc := 63) hx hb d_Mo_takeFragment_63 (by decide) ?_
          refine lv_icmp_ne (pc := 64) (tgt := 94) hx hb d_Mo_takeFragment_64 rfl (fun hc => ?_) (fun hc => ?_)
          · have hp := hp.2 hc
            exact B94  a0 a1 a2 a5 a6 M ls _ _ f8 (lv_sub hl [0, 1, 2, 5, 6] rfl) hw hp
          · have hp := hp.1 hc
            refine lv_aload_n (pc := 67) hx hb d_Mo_takeFragment_67 rfl (lv_at hl 0 rfl) ?_
            obtain ⟨k25, hp⟩ := hp
            refine gf_Mo_68 (pc := 68) hC hw f8 (Nat.ne_of_gt k25.1) d_Mo_takeFragment_68 ?_
            refine lv_iconst (v := 0) (pc := 71) hx hb d_Mo_takeFragment_71 (by decide) ?_
            refine lv_iconst (v := 0) (pc := 72) hx hb d_Mo_takeFragment_72 (by decide) ?_
            obtain ⟨k26, hp⟩ := hp
            refine fm_iast (pc := 73) hC hw k25 k26 (show Int32.toNatClampNeg (0 : Int32) = 0 by decide) d_Mo_takeFragment_73 (fun M27 H locs eM27 hw => ?_)
            have hp := hp M27 eM27
            refine lv_aload_n (pc := 74) hx hb d_Mo_takeFragment_74 rfl (lv_at hl 0 rfl) ?_
            refine lv_iconst (v := 0) (pc := 75) hx hb d_Mo_takeFragment_75 (by decide) ?_
            refine lv_iload (pc := 76) hx hb d_Mo_takeFragment_76 (lv_at hl 5 rfl) ?_
            refine lv_iload (pc := 78) hx hb d_Mo_takeFragment_78 (lv_at hl 6 rfl) ?_
            refine call_vm (pc := 80) (fun _ h => h) hw (fm_runV (As := [.int (0 : Int32), .int a5, .int a6]) (rest := []) hC hw (c_Mo_note l D dA b n T R M27 sz a0 (0 : Int32) a5 a6 _) cy_Mo_note hp rfl rfl mw_411 mw_412 mw_413 (rfl : classes[11]? = _) (by decide) f8 ⟨Nat.le_of_ble_eq_true rfl, Nat.le_of_ble_eq_true rfl⟩ rfl hl.1 rfl (Nat.le_of_ble_eq_true rfl) d_Mo_takeFragment_80 ⟨(Nat.le_of_ble_eq_true rfl), (Nat.le_of_ble_eq_true rfl)⟩) (fun M28 H locs hp hw => ?_)
            refine lv_aload_n (pc := 83) hx hb d_Mo_takeFragment_83 rfl (lv_at hl 0 rfl) ?_
            refine lv_iload_n (pc := 84) hx hb d_Mo_takeFragment_84 rfl (lv_at hl 2 rfl) ?_
            refine lv_iload_n (pc := 85) hx hb d_Mo_takeFragment_85 rfl (lv_at hl 3 rfl) ?_
            refine lv_iload (pc := 86) hx hb d_Mo_takeFragment_86 (lv_at hl 4 rfl) ?_
            refine call_vm (pc := 88) (fun _ h => h) hw (fm_runV (As := [.int a2, .int a3, .int a4]) (rest := []) hC hw (c_Mo_gather l D dA b n T R M28 sz a0 a2 a3 a4 _) cy_Mo_gather hp rfl rfl mw_414 mw_415 mw_416 (rfl : classes[11]? = _) (by decide) f8 ⟨Nat.le_of_ble_eq_true rfl, Nat.le_of_ble_eq_true rfl⟩ rfl hl.1 rfl (Nat.le_of_ble_eq_true rfl) d_Mo_takeFragment_88 ⟨(Nat.le_of_ble_eq_true rfl), (Nat.le_of_ble_eq_true rfl)⟩) (fun M29 H locs hp hw => ?_)
            refine lv_goto (pc := 91) (tgt := 167) hx hb d_Mo_takeFragment_91 rfl ?_
            exact ret_vm hC hr hlk hw hp d_Mo_takeFragment_167
  refine lv_iload_n (pc := 0) hx hb d_Mo_takeFragment_0 rfl (lv_at hl 1 rfl) ?_
  refine lv_if_ne (pc := 1) (tgt := 42) hx hb d_Mo_takeFragment_1 rfl (fun hc => ?_) (fun hc => ?_)
  · have hp := hp.2 hc
    exact B42  h x1 x2 x3 x4 x5 x6 M ls _ _ k0 (lv_sub hl [0, 1, 2, 3, 4, 5, 6] rfl) hw hp
  · have hp := hp.1 hc
    refine lv_iload_n (pc := 4) hx hb d_Mo_takeFragment_4 rfl (lv_at hl 2 rfl) ?_
    refine lv_iconst (v := 1) (pc := 5) hx hb d_Mo_takeFragment_5 (by decide) ?_
    refine lv_icmp_ne (pc := 6) (tgt := 42) hx hb d_Mo_takeFragment_6 rfl (fun hc => ?_) (fun hc => ?_)
    · have hp := hp.2 hc
      exact B42  h x1 x2 x3 x4 x5 x6 M ls _ _ k0 (lv_sub hl [0, 1, 2, 3, 4, 5, 6] rfl) hw hp
    · have hp := hp.1 hc
      refine lv_aload_n (pc := 9) hx hb d_Mo_takeFragment_9 rfl (lv_at hl 0 rfl) ?_
      obtain ⟨k1, hp⟩ := hp
      refine gf_Mo_41 (pc := 10) hC hw k0 (Nat.ne_of_gt k1.1) d_Mo_takeFragment_10 ?_
      refine lv_iconst (v := 0) (pc := 13) hx hb d_Mo_takeFragment_13 (by decide) ?_
      obtain ⟨k2, hp⟩ := hp
      refine fm_iald (pc := 14) hC hw k1 k2 (show Int32.toNatClampNeg (0 : Int32) = 0 by decide) d_Mo_takeFragment_14 ?_
      refine lv_iconst (v := 1) (pc := 15) hx hb d_Mo_takeFragment_15 (by decide) ?_
      refine lv_icmp_ne (pc := 16) (tgt := 42) hx hb d_Mo_takeFragment_16 rfl (fun hc => ?_) (fun hc => ?_)
      · have hp := hp.2 hc
        exact B42  h x1 x2 x3 x4 x5 x6 M ls _ _ k0 (lv_sub hl [0, 1, 2, 3, 4, 5, 6] rfl) hw hp
      · have hp := hp.1 hc
        refine lv_aload_n (pc := 19) hx hb d_Mo_takeFragment_19 rfl (lv_at hl 0 rfl) ?_
        obtain ⟨k3, hp⟩ := hp
        refine gf_Mo_44 (pc := 20) hC hw k0 (Nat.ne_of_gt k3.1) d_Mo_takeFragment_20 ?_
        refine lv_iconst (v := 0) (pc := 23) hx hb d_Mo_takeFragment_23 (by decide) ?_
        refine lv_iconst (v := 3) (pc := 24) hx hb d_Mo_takeFragment_24 (by decide) ?_
        obtain ⟨k4, hp⟩ := hp
        refine fm_iast (pc := 25) hC hw k3 k4 (show Int32.toNatClampNeg (0 : Int32) = 0 by decide) d_Mo_takeFragment_25 (fun M5 H locs eM5 hw => ?_)
        have hp := hp M5 eM5
        refine lv_aload_n (pc := 26) hx hb d_Mo_takeFragment_26 rfl (lv_at hl 0 rfl) ?_
        refine lv_iconst (v := 0) (pc := 27) hx hb d_Mo_takeFragment_27 (by decide) ?_
        refine lv_iconst (v := 2) (pc := 28) hx hb d_Mo_takeFragment_28 (by decide) ?_
        refine call_vm (pc := 29) (fun _ h => h) hw (fm_runV (As := [.int (0 : Int32), .int (2 : Int32)]) (rest := []) hC hw (c_Mo_become l D dA b n T R M5 sz h (0 : Int32) (2 : Int32) _) cy_Mo_become hp rfl rfl mw_378 mw_379 mw_380 (rfl : classes[11]? = _) (by decide) k0 ⟨Nat.le_of_ble_eq_true rfl, Nat.le_of_ble_eq_true rfl⟩ rfl hl.1 rfl (Nat.le_of_ble_eq_true rfl) d_Mo_takeFragment_29 ⟨(Nat.le_of_ble_eq_true rfl), (Nat.le_of_ble_eq_true rfl)⟩) (fun M6 H locs hp hw => ?_)
        refine lv_aload_n (pc := 32) hx hb d_Mo_takeFragment_32 rfl (lv_at hl 0 rfl) ?_
        refine lv_iconst (v := 0) (pc := 33) hx hb d_Mo_takeFragment_33 (by decide) ?_
        refine lv_iconst (v := 2) (pc := 34) hx hb d_Mo_takeFragment_34 (by decide) ?_
        refine lv_iconst (v := 2) (pc := 35) hx hb d_Mo_takeFragment_35 (by decide) ?_
        refine call_vm (pc := 36) (fun _ h => h) hw (fm_runV (As := [.int (0 : Int32), .int (2 : Int32), .int (2 : Int32)]) (rest := []) hC hw (c_Mo_fly l D dA b n T R M6 sz h (0 : Int32) (2 : Int32) (2 : Int32) _) cy_Mo_fly hp rfl rfl mw_381 mw_382 mw_383 (rfl : classes[11]? = _) (by decide) k0 ⟨Nat.le_of_ble_eq_true rfl, Nat.le_of_ble_eq_true rfl⟩ rfl hl.1 rfl (Nat.le_of_ble_eq_true rfl) d_Mo_takeFragment_36 ⟨(Nat.le_of_ble_eq_true rfl), (Nat.le_of_ble_eq_true rfl)⟩) (fun M7 H locs hp hw => ?_)
        refine lv_goto (pc := 39) (tgt := 167) hx hb d_Mo_takeFragment_39 rfl ?_
        exact ret_vm hC hr hlk hw hp d_Mo_takeFragment_167
set_option maxHeartbeats 4000000 in
set_option maxRecDepth 100000 in
theorem c_Mo_deliver (l : Launch) (D : va_G) (dA : Nat → ClassId) (b n : Nat) (T : mT) (R : mR) (M : mM) (sz : Nat) (h : Nat) (x1 : Int32) (Q : Int32 → mM → Prop) : Met l y_Mo_deliver (Cond.code y_Mo_deliver b_Mo_deliver 11 (some .int) :: tW) ({ frames := 5, cells := 0, slots := 0, locals := 127 }) (Pm D dA b n T R M sz [.ref (b + h), .int x1] (w_Mo_deliver n T R M h x1 Q)) (Qim D dA (An b n) b n T R sz Q) 0 0 (An b n) := by
  refine fm_body (An b n) (by decide) (Nat.le_of_ble_eq_true rfl) (fun k h0 h1 => ⟨by omega, by omega⟩) (fun p e s m below meth c ls hC hr hlk hnm hl hw hp => ?_)
  have hx := hC.1.1
  have hb := hC.1.2.1
  have hl : lv_has ls 11 [(0, .ref (b + h)), (1, .int x1)] := hl
  generalize hav : (List.toArray ([.ref (b + h), .int x1] : List Value)) = av at hC ⊢
  unfold w_Mo_deliver at hp
  obtain ⟨k0, hp⟩ := hp
  have B230 : ∀ (a0 : Nat) (a2 : Int32) (a5 : Int32) (a6 : Int32) (M : mM)  (ls : Array Slot) (H : Heap) (locs : List Loc), ok T n a0 11 → lv_has ls 11 [(0, .ref (b + a0)), (2, .int a2), (5, .int a5), (6, .int a6)] → St D dA (An b n) b n T R M sz s.heap H locs → w_Mo_deliver_B230 n T R Q a0 a2 a5 a6 M → W p l e ({ frames := 5, cells := 0, slots := 0, locals := 127 }) s m av below meth c H locs 0 0 (MQ below (Qim D dA (An b n) b n T R sz Q) av s 0 0 (An b n)) (F0 m 230 ls []) := by
    intro a0 a2 a5 a6 M ls H locs f41 hl hw hp
    unfold w_Mo_deliver_B230 at hp
    refine lv_iload (pc := 230) hx hb d_Mo_deliver_230 (lv_at hl 2 rfl) ?_
    refine lv_iconst (v := 2) (pc := 232) hx hb d_Mo_deliver_232 (by decide) ?_
    refine lv_icmp_ne (pc := 233) (tgt := 275) hx hb d_Mo_deliver_233 rfl (fun hc => ?_) (fun hc => ?_)
    · have hp := hp.2 hc
      refine lv_iconst (v := 1) (pc := 275) hx hb d_Mo_deliver_275 (by decide) ?_
      exact ret_im hC hr hlk hw hp d_Mo_deliver_276
    · have hp := hp.1 hc
      refine lv_aload_n (pc := 236) hx hb d_Mo_deliver_236 rfl (lv_at hl 0 rfl) ?_
      obtain ⟨k42, hp⟩ := hp
      refine gf_Mo_107 (pc := 237) hC hw f41 (Nat.ne_of_gt k42.1) d_Mo_deliver_237 ?_
      refine lv_iload_n (pc := 240) hx hb d_Mo_deliver_240 rfl (lv_at hl 1 rfl) ?_
      obtain ⟨k43, hp⟩ := hp
      refine fm_iald (pc := 241) hC hw k42 k43 rfl d_Mo_deliver_241 ?_
      refine lv_bipush (v := 60) (pc := 242) hx hb d_Mo_deliver_242 (by decide) ?_
      refine lv_icmp_ge (pc := 244) (tgt := 275) hx hb d_Mo_deliver_244 rfl (fun hc => ?_) (fun hc => ?_)
      · have hp := hp.1 hc
        refine lv_iconst (v := 1) (pc := 275) hx hb d_Mo_deliver_275 (by decide) ?_
        exact ret_im hC hr hlk hw hp d_Mo_deliver_276
      · have hp := hp.2 hc
        refine lv_aload_n (pc := 247) hx hb d_Mo_deliver_247 rfl (lv_at hl 0 rfl) ?_
        obtain ⟨k44, hp⟩ := hp
        refine gf_Mo_104 (pc := 248) hC hw f41 (Nat.ne_of_gt k44.1) d_Mo_deliver_248 ?_
        refine lv_bipush (v := 60) (pc := 251) hx hb d_Mo_deliver_251 (by decide) ?_
        refine lv_iload_n (pc := 253) hx hb d_Mo_deliver_253 rfl (lv_at hl 1 rfl) ?_
        refine lv_imul (pc := 254) hx hb d_Mo_deliver_254 ?_
        refine lv_aload_n (pc := 255) hx hb d_Mo_deliver_255 rfl (lv_at hl 0 rfl) ?_
        refine gf_Mo_107 (pc := 256) hC hw f41 (Nat.ne_of_gt k42.1) d_Mo_deliver_256 ?_
        refine lv_iload_n (pc := 259) hx hb d_Mo_deliver_259 rfl (lv_at hl 1 rfl) ?_
        obtain ⟨k45, hp⟩ := hp
        refine fm_iald (pc := 260) hC hw k42 k45 rfl d_Mo_deliver_260 ?_
        refine lv_iadd (pc := 261) hx hb d_Mo_deliver_261 ?_
        refine lv_iload (pc := 262) hx hb d_Mo_deliver_262 (lv_at hl 3 rfl) ?_
        obtain ⟨k46, hp⟩ := hp
        refine fm_iast (pc := 264) hC hw k44 k46 rfl d_Mo_deliver_264 (fun M47 H locs eM47 hw => ?_)
        have hp := hp M47 eM47
        refine lv_aload_n (pc := 265) hx hb d_Mo_deliver_265 rfl (lv_at hl 0 rfl) ?_
        refine gf_Mo_107 (pc := 266) hC hw f41 (Nat.ne_of_gt k42.1) d_Mo_deliver_266 ?_
        refine lv_iload_n (pc := 269) hx hb d_Mo_deliver_269 rfl (lv_at hl 1 rfl) ?_
        refine lv_dup2_11 (pc := 270) hx hb d_Mo_deliver_270 rfl rfl ?_
        obtain ⟨k48, hp⟩ := hp
        refine fm_iald (pc := 271) hC hw k42 k48 rfl d_Mo_deliver_271 ?_
        refine lv_iconst (v := 1) (pc := 272) hx hb d_Mo_deliver_272 (by decide) ?_
        refine lv_iadd (pc := 273) hx hb d_Mo_deliver_273 ?_
        obtain ⟨k49, hp⟩ := hp
        refine fm_iast (pc := 274) hC hw k42 k49 rfl d_Mo_deliver_274 (fun M50 H locs eM50 hw => ?_)
        have hp := hp M50 eM50
        refine lv_iconst (v := 1) (pc := 275) hx hb d_Mo_deliver_275 (by decide) ?_
        exact ret_im hC hr hlk hw hp d_Mo_deliver_276
  have B163 : ∀ (a0 : Nat) (a1 : Int32) (a2 : Int32) (a3 : Int32) (a4 : Int32) (a5 : Int32) (a6 : Int32) (a7 : Int32) (a8 : Int32) (a9 : Int32) (a10 : Int32) (M : mM)  (ls : Array Slot) (H : Heap) (locs : List Loc), ok T n a0 11 → lv_has ls 11 [(0, .ref (b + a0)), (1, .int a1), (2, .int a2), (3, .int a3), (4, .int a4), (5, .int a5), (6, .int a6), (7, .int a7), (8, .int a8), (9, .int a9), (10, .int a10)] → St D dA (An b n) b n T R M sz s.heap H locs → w_Mo_deliver_B163 n T R Q a0 a1 a2 a3 a4 a5 a6 a7 a8 a9 a10 M → W p l e ({ frames := 5, cells := 0, slots := 0, locals := 127 }) s m av below meth c H locs 0 0 (MQ below (Qim D dA (An b n) b n T R sz Q) av s 0 0 (An b n)) (F0 m 163 ls []) := by
    intro a0 a1 a2 a3 a4 a5 a6 a7 a8 a9 a10 M ls H locs f32 hl hw hp
    unfold w_Mo_deliver_B163 at hp
    refine lv_aload_n (pc := 163) hx hb d_Mo_deliver_163 rfl (lv_at hl 0 rfl) ?_
    refine lv_iload_n (pc := 164) hx hb d_Mo_deliver_164 rfl (lv_at hl 1 rfl) ?_
    refine call_zm (pc := 165) (fun _ h => h) hw (fm_runV (As := [.int a1]) (rest := []) hC hw (c_Mo_drop l D dA b n T R M sz a0 a1 _) cy_Mo_drop hp rfl rfl mw_417 mw_418 mw_419 (rfl : classes[11]? = _) (by decide) f32 ⟨Nat.le_of_ble_eq_true rfl, Nat.le_of_ble_eq_true rfl⟩ rfl hl.1 rfl (Nat.le_of_ble_eq_true rfl) d_Mo_deliver_165 ⟨(Nat.le_of_ble_eq_true rfl), (Nat.le_of_ble_eq_true rfl)⟩) (fun r33 M34 H locs hp z35 hw => ?_)
    refine lv_pop (pc := 168) hx hb d_Mo_deliver_168 rfl ?_
    refine lv_iload (pc := 169) hx hb d_Mo_deliver_169 (lv_at hl 10 rfl) ?_
    refine lv_if_eq (pc := 171) (tgt := 176) hx hb d_Mo_deliver_171 rfl (fun hc => ?_) (fun hc => ?_)
    · have hp := hp.1 hc
      refine lv_iload (pc := 176) hx hb d_Mo_deliver_176 (lv_at hl 9 rfl) ?_
      refine lv_if_ne (pc := 178) (tgt := 203) hx hb d_Mo_deliver_178 rfl (fun hc => ?_) (fun hc => ?_)
      · have hp := hp.2 hc
        refine lv_aload_n (pc := 203) hx hb d_Mo_deliver_203 rfl (lv_at hl 0 rfl) ?_
        refine lv_iload_n (pc := 204) hx hb d_Mo_deliver_204 rfl (lv_at hl 2 rfl) ?_
        refine lv_iload_n (pc := 205) hx hb d_Mo_deliver_205 rfl (lv_at hl 3 rfl) ?_
        refine lv_iload (pc := 206) hx hb d_Mo_deliver_206 (lv_at hl 4 rfl) ?_
        refine call_vm (pc := 208) (fun _ h => h) hw (fm_runV (As := [.int a2, .int a3, .int a4]) (rest := []) hC hw (c_Mo_let l D dA b n T R M34 sz a0 a2 a3 a4 _) cy_Mo_let hp rfl rfl mw_405 mw_406 mw_407 (rfl : classes[11]? = _) (by decide) f32 ⟨Nat.le_of_ble_eq_true rfl, Nat.le_of_ble_eq_true rfl⟩ rfl hl.1 rfl (Nat.le_of_ble_eq_true rfl) d_Mo_deliver_208 ⟨(Nat.le_of_ble_eq_true rfl), (Nat.le_of_ble_eq_true rfl)⟩) (fun M39 H locs hp hw => ?_)
        refine lv_iload (pc := 211) hx hb d_Mo_deliver_211 (lv_at hl 5 rfl) ?_
        refine lv_if_ne (pc := 213) (tgt := 230) hx hb d_Mo_deliver_213 rfl (fun hc => ?_) (fun hc => ?_)
        · have hp := hp.2 hc
          exact B230  a0 a2 a5 a6 M39 ls _ _ f32 (lv_sub hl [0, 2, 5, 6] rfl) hw hp
        · have hp := hp.1 hc
          refine lv_aload_n (pc := 216) hx hb d_Mo_deliver_216 rfl (lv_at hl 0 rfl) ?_
          refine lv_iload_n (pc := 217) hx hb d_Mo_deliver_217 rfl (lv_at hl 2 rfl) ?_
          refine lv_iload (pc := 218) hx hb d_Mo_deliver_218 (lv_at hl 6 rfl) ?_
          refine lv_iload (pc := 220) hx hb d_Mo_deliver_220 (lv_at hl 7 rfl) ?_
          refine lv_iload (pc := 222) hx hb d_Mo_deliver_222 (lv_at hl 8 rfl) ?_
          refine lv_iload_n (pc := 224) hx hb d_Mo_deliver_224 rfl (lv_at hl 3 rfl) ?_
          refine lv_iload (pc := 225) hx hb d_Mo_deliver_225 (lv_at hl 4 rfl) ?_
          refine call_vm (pc := 227) (fun _ h => h) hw (fm_runV (As := [.int a2, .int a6, .int a7, .int a8, .int a3, .int a4]) (rest := []) hC hw (c_Mo_takeFragment l D dA b n T R M39 sz a0 a2 a6 a7 a8 a3 a4 _) cy_Mo_takeFragment hp rfl rfl mw_423 mw_424 mw_425 (rfl : classes[11]? = _) (by decide) f32 ⟨Nat.le_of_ble_eq_true rfl, Nat.le_of_ble_eq_true rfl⟩ rfl hl.1 rfl (Nat.le_of_ble_eq_true rfl) d_Mo_deliver_227 ⟨(Nat.le_of_ble_eq_true rfl), (Nat.le_of_ble_eq_true rfl)⟩) (fun M40 H locs hp hw => ?_)
          exact B230  a0 a2 a5 a6 M40 ls _ _ f32 (lv_sub hl [0, 2, 5, 6] rfl) hw hp
      · have hp := hp.1 hc
        refine lv_iload (pc := 181) hx hb d_Mo_deliver_181 (lv_at hl 5 rfl) ?_
        refine lv_if_ne (pc := 183) (tgt := 201) hx hb d_Mo_deliver_183 rfl (fun hc => ?_) (fun hc => ?_)
        · have hp := hp.2 hc
          refine lv_iconst (v := 0) (pc := 201) hx hb d_Mo_deliver_201 (by decide) ?_
          exact ret_im hC hr hlk hw hp d_Mo_deliver_202
        · have hp := hp.1 hc
          refine lv_aload_n (pc := 186) hx hb d_Mo_deliver_186 rfl (lv_at hl 0 rfl) ?_
          refine lv_iload (pc := 187) hx hb d_Mo_deliver_187 (lv_at hl 6 rfl) ?_
          refine lv_iload (pc := 189) hx hb d_Mo_deliver_189 (lv_at hl 4 rfl) ?_
          refine call_zm (pc := 191) (fun _ h => h) hw (fm_runV (As := [.int a6, .int a4]) (rest := []) hC hw (c_Mo_welcome l D dA b n T R M34 sz a0 a6 a4 _) cy_Mo_welcome hp rfl rfl mw_420 mw_421 mw_422 (rfl : classes[11]? = _) (by decide) f32 ⟨Nat.le_of_ble_eq_true rfl, Nat.le_of_ble_eq_true rfl⟩ rfl hl.1 rfl (Nat.le_of_ble_eq_true rfl) d_Mo_deliver_191 ⟨(Nat.le_of_ble_eq_true rfl), (Nat.le_of_ble_eq_true rfl)⟩) (fun r36 M37 H locs hp z38 hw => ?_)
          refine lv_if_eq (pc := 194) (tgt := 201) hx hb d_Mo_deliver_194 rfl (fun hc => ?_) (fun hc => ?_)
          · have hp := hp.1 hc
            refine lv_iconst (v := 0) (pc := 201) hx hb d_Mo_deliver_201 (by decide) ?_
            exact ret_im hC hr hlk hw hp d_Mo_deliver_202
          · have hp := hp.2 hc
            refine lv_iconst (v := 1) (pc := 197) hx hb d_Mo_deliver_197 (by decide) ?_
            refine lv_goto (pc := 198) (tgt := 202) hx hb d_Mo_deliver_198 rfl ?_
            exact ret_im hC hr hlk hw hp d_Mo_deliver_202
    · have hp := hp.2 hc
      refine lv_iconst (v := 0) (pc := 174) hx hb d_Mo_deliver_174 (by decide) ?_
      exact ret_im hC hr hlk hw hp d_Mo_deliver_175
  have B139 : ∀ (a0 : Nat) (a1 : Int32) (a2 : Int32) (a3 : Int32) (a4 : Int32) (a5 : Int32) (a6 : Int32) (a7 : Int32) (a8 : Int32) (a9 : Int32) (s0 : Int32) (M : mM)  (ls : Array Slot) (H : Heap) (locs : List Loc), ok T n a0 11 → lv_has ls 11 [(0, .ref (b + a0)), (1, .int a1), (2, .int a2), (3, .int a3), (4, .int a4), (5, .int a5), (6, .int a6), (7, .int a7), (8, .int a8), (9, .int a9)] → St D dA (An b n) b n T R M sz s.heap H locs → w_Mo_deliver_B139 n T R Q a0 a1 a2 a3 a4 a5 a6 a7 a8 a9 s0 M → W p l e ({ frames := 5, cells := 0, slots := 0, locals := 127 }) s m av below meth c H locs 0 0 (MQ below (Qim D dA (An b n) b n T R sz Q) av s 0 0 (An b n)) (F0 m 139 ls [.int s0]) := by
    intro a0 a1 a2 a3 a4 a5 a6 a7 a8 a9 s0 M ls H locs f31 hl hw hp
    unfold w_Mo_deliver_B139 at hp
    refine lv_istore (pc := 139) hx hb d_Mo_deliver_139 hl (by decide) rfl (fun ls hl => ?_)
    have hl : lv_has ls 11 [(10, .int s0), (0, .ref (b + a0)), (1, .int a1), (2, .int a2), (3, .int a3), (4, .int a4), (5, .int a5), (6, .int a6), (7, .int a7), (8, .int a8), (9, .int a9)] := hl
    refine lv_iload (pc := 141) hx hb d_Mo_deliver_141 (lv_at hl 0 rfl) ?_
    refine lv_if_ne (pc := 143) (tgt := 163) hx hb d_Mo_deliver_143 rfl (fun hc => ?_) (fun hc => ?_)
    · have hp := hp.2 hc
      exact B163  a0 a1 a2 a3 a4 a5 a6 a7 a8 a9 s0 M ls _ _ f31 (lv_sub hl [1, 2, 3, 4, 5, 6, 7, 8, 9, 10, 0] rfl) hw hp
    · have hp := hp.1 hc
      refine lv_iload (pc := 146) hx hb d_Mo_deliver_146 (lv_at hl 6 rfl) ?_
      refine lv_iconst (v := 1) (pc := 148) hx hb d_Mo_deliver_148 (by decide) ?_
      refine lv_icmp_ne (pc := 149) (tgt := 163) hx hb d_Mo_deliver_149 rfl (fun hc => ?_) (fun hc => ?_)
      · have hp := hp.2 hc
        exact B163  a0 a1 a2 a3 a4 a5 a6 a7 a8 a9 s0 M ls _ _ f31 (lv_sub hl [1, 2, 3, 4, 5, 6, 7, 8, 9, 10, 0] rfl) hw hp
      · have hp := hp.1 hc
        refine lv_iload (pc := 152) hx hb d_Mo_deliver_152 (lv_at hl 10 rfl) ?_
        refine lv_if_eq (pc := 154) (tgt := 163) hx hb d_Mo_deliver_154 rfl (fun hc => ?_) (fun hc => ?_)
        · have hp := hp.1 hc
          exact B163  a0 a1 a2 a3 a4 a5 a6 a7 a8 a9 s0 M ls _ _ f31 (lv_sub hl [1, 2, 3, 4, 5, 6, 7, 8, 9, 10, 0] rfl) hw hp
        · have hp := hp.2 hc
          refine lv_aload_n (pc := 157) hx hb d_Mo_deliver_157 rfl (lv_at hl 1 rfl) ?_
          refine lv_iload_n (pc := 158) hx hb d_Mo_deliver_158 rfl (lv_at hl 3 rfl) ?_
          refine lv_iload_n (pc := 159) hx hb d_Mo_deliver_159 rfl (lv_at hl 2 rfl) ?_
          refine call_vm (pc := 160) (fun _ h => h) hw (fm_runV (As := [.int a2, .int a1]) (rest := []) hC hw (c_Mo_close l D dA b n T R M sz a0 a2 a1 _) cy_Mo_close hp rfl rfl mw_426 mw_427 mw_428 (rfl : classes[11]? = _) (by decide) f31 ⟨Nat.le_of_ble_eq_true rfl, Nat.le_of_ble_eq_true rfl⟩ rfl hl.1 rfl (Nat.le_of_ble_eq_true rfl) d_Mo_deliver_160 ⟨(Nat.le_of_ble_eq_true rfl), (Nat.le_of_ble_eq_true rfl)⟩) (fun M51 H locs hp hw => ?_)
          exact B163  a0 a1 a2 a3 a4 a5 a6 a7 a8 a9 s0 M51 ls _ _ f31 (lv_sub hl [1, 2, 3, 4, 5, 6, 7, 8, 9, 10, 0] rfl) hw hp
  have B134 : ∀ (a0 : Nat) (a1 : Int32) (a2 : Int32) (a3 : Int32) (a4 : Int32) (a5 : Int32) (a6 : Int32) (a7 : Int32) (a8 : Int32) (a9 : Int32) (M : mM)  (ls : Array Slot) (H : Heap) (locs : List Loc), ok T n a0 11 → lv_has ls 11 [(0, .ref (b + a0)), (1, .int a1), (2, .int a2), (3, .int a3), (4, .int a4), (5, .int a5), (6, .int a6), (7, .int a7), (8, .int a8), (9, .int a9)] → St D dA (An b n) b n T R M sz s.heap H locs → w_Mo_deliver_B134 n T R Q a0 a1 a2 a3 a4 a5 a6 a7 a8 a9 M → W p l e ({ frames := 5, cells := 0, slots := 0, locals := 127 }) s m av below meth c H locs 0 0 (MQ below (Qim D dA (An b n) b n T R sz Q) av s 0 0 (An b n)) (F0 m 134 ls []) := by
    intro a0 a1 a2 a3 a4 a5 a6 a7 a8 a9 M ls H locs f30 hl hw hp
    unfold w_Mo_deliver_B134 at hp
    refine lv_iconst (v := 1) (pc := 134) hx hb d_Mo_deliver_134 (by decide) ?_
    refine lv_goto (pc := 135) (tgt := 139) hx hb d_Mo_deliver_135 rfl ?_
    exact B139  a0 a1 a2 a3 a4 a5 a6 a7 a8 a9 (1 : Int32) M ls _ _ f30 (lv_sub hl [0, 1, 2, 3, 4, 5, 6, 7, 8, 9] rfl) hw hp
  have B138 : ∀ (a0 : Nat) (a1 : Int32) (a2 : Int32) (a3 : Int32) (a4 : Int32) (a5 : Int32) (a6 : Int32) (a7 : Int32) (a8 : Int32) (a9 : Int32) (M : mM)  (ls : Array Slot) (H : Heap) (locs : List Loc), ok T n a0 11 → lv_has ls 11 [(0, .ref (b + a0)), (1, .int a1), (2, .int a2), (3, .int a3), (4, .int a4), (5, .int a5), (6, .int a6), (7, .int a7), (8, .int a8), (9, .int a9)] → St D dA (An b n) b n T R M sz s.heap H locs → w_Mo_deliver_B138 n T R Q a0 a1 a2 a3 a4 a5 a6 a7 a8 a9 M → W p l e ({ frames := 5, cells := 0, slots := 0, locals := 127 }) s m av below meth c H locs 0 0 (MQ below (Qim D dA (An b n) b n T R sz Q) av s 0 0 (An b n)) (F0 m 138 ls []) := by
    intro a0 a1 a2 a3 a4 a5 a6 a7 a8 a9 M ls H locs f54 hl hw hp
    unfold w_Mo_deliver_B138 at hp
    refine lv_iconst (v := 0) (pc := 138) hx hb d_Mo_deliver_138 (by decide) ?_
    exact B139  a0 a1 a2 a3 a4 a5 a6 a7 a8 a9 (0 : Int32) M ls _ _ f54 (lv_sub hl [0, 1, 2, 3, 4, 5, 6, 7, 8, 9] rfl) hw hp
  have B88 : ∀ (a0 : Nat) (a1 : Int32) (a2 : Int32) (a3 : Int32) (a4 : Int32) (a5 : Int32) (a6 : Int32) (a7 : Int32) (a8 : Int32) (s0 : Int32) (M : mM)  (ls : Array Slot) (H : Heap) (locs : List Loc), ok T n a0 11 → lv_has ls 11 [(0, .ref (b + a0)), (1, .int a1), (2, .int a2), (3, .int a3), (4, .int a4), (5, .int a5), (6, .int a6), (7, .int a7), (8, .int a8)] → St D dA (An b n) b n T R M sz s.heap H locs → w_Mo_deliver_B88 n T R Q a0 a1 a2 a3 a4 a5 a6 a7 a8 s0 M → W p l e ({ frames := 5, cells := 0, slots := 0, locals := 127 }) s m av below meth c H locs 0 0 (MQ below (Qim D dA (An b n) b n T R sz Q) av s 0 0 (An b n)) (F0 m 88 ls [.int s0]) := by
    intro a0 a1 a2 a3 a4 a5 a6 a7 a8 s0 M ls H locs f25 hl hw hp
    unfold w_Mo_deliver_B88 at hp
    refine lv_istore (pc := 88) hx hb d_Mo_deliver_88 hl (by decide) rfl (fun ls hl => ?_)
    have hl : lv_has ls 11 [(9, .int s0), (0, .ref (b + a0)), (1, .int a1), (2, .int a2), (3, .int a3), (4, .int a4), (5, .int a5), (6, .int a6), (7, .int a7), (8, .int a8)] := hl
    refine lv_aload_n (pc := 90) hx hb d_Mo_deliver_90 rfl (lv_at hl 1 rfl) ?_
    obtain ⟨k26, hp⟩ := hp
    refine gf_Mo_22 (pc := 91) hC hw f25 (Nat.ne_of_gt k26.1) d_Mo_deliver_91 ?_
    refine lv_iload_n (pc := 94) hx hb d_Mo_deliver_94 rfl (lv_at hl 2 rfl) ?_
    obtain ⟨k27, hp⟩ := hp
    refine fm_zald (pc := 95) hC hw k26 k27 rfl d_Mo_deliver_95 ?_
    refine lv_if_ne (pc := 96) (tgt := 134) hx hb d_Mo_deliver_96 rfl (fun hc => ?_) (fun hc => ?_)
    · have hp := hp.2 hc
      exact B134  a0 a1 a2 a3 a4 a5 a6 a7 a8 s0 M ls _ _ f25 (lv_sub hl [1, 2, 3, 4, 5, 6, 7, 8, 9, 0] rfl) hw hp
    · have hp := hp.1 hc
      refine lv_aload_n (pc := 99) hx hb d_Mo_deliver_99 rfl (lv_at hl 1 rfl) ?_
      obtain ⟨k28, hp⟩ := hp
      refine gf_Mo_41 (pc := 100) hC hw f25 (Nat.ne_of_gt k28.1) d_Mo_deliver_100 ?_
      refine lv_iload_n (pc := 103) hx hb d_Mo_deliver_103 rfl (lv_at hl 3 rfl) ?_
      obtain ⟨k29, hp⟩ := hp
      refine fm_iald (pc := 104) hC hw k28 k29 rfl d_Mo_deliver_104 ?_
      refine lv_iconst (v := 5) (pc := 105) hx hb d_Mo_deliver_105 (by decide) ?_
      refine lv_icmp_eq (pc := 106) (tgt := 134) hx hb d_Mo_deliver_106 rfl (fun hc => ?_) (fun hc => ?_)
      · have hp := hp.1 hc
        exact B134  a0 a1 a2 a3 a4 a5 a6 a7 a8 s0 M ls _ _ f25 (lv_sub hl [1, 2, 3, 4, 5, 6, 7, 8, 9, 0] rfl) hw hp
      · have hp := hp.2 hc
        refine lv_aload_n (pc := 109) hx hb d_Mo_deliver_109 rfl (lv_at hl 1 rfl) ?_
        refine lv_iload_n (pc := 110) hx hb d_Mo_deliver_110 rfl (lv_at hl 3 rfl) ?_
        refine lv_iload_n (pc := 111) hx hb d_Mo_deliver_111 rfl (lv_at hl 4 rfl) ?_
        refine call_zp (pc := 112) (fun _ h => h) hw (fm_runV (As := [.int a2, .int a3]) (rest := []) hC hw (c_Mo_reads l D dA b n T R M sz a0 a2 a3 _) cy_Mo_reads hp rfl rfl mw_429 mw_430 mw_431 (rfl : classes[11]? = _) (by decide) f25 ⟨Nat.le_of_ble_eq_true rfl, Nat.le_of_ble_eq_true rfl⟩ rfl hl.1 rfl (Nat.le_of_ble_eq_true rfl) d_Mo_deliver_112 ⟨(Nat.le_of_ble_eq_true rfl), (Nat.le_of_ble_eq_true rfl)⟩) (fun r52 H locs hp z53 hw => ?_)
        refine lv_if_eq (pc := 115) (tgt := 134) hx hb d_Mo_deliver_115 rfl (fun hc => ?_) (fun hc => ?_)
        · have hp := hp.1 hc
          exact B134  a0 a1 a2 a3 a4 a5 a6 a7 a8 s0 M ls _ _ f25 (lv_sub hl [1, 2, 3, 4, 5, 6, 7, 8, 9, 0] rfl) hw hp
        · have hp := hp.2 hc
          refine lv_iload (pc := 118) hx hb d_Mo_deliver_118 (lv_at hl 0 rfl) ?_
          refine lv_if_eq (pc := 120) (tgt := 138) hx hb d_Mo_deliver_120 rfl (fun hc => ?_) (fun hc => ?_)
          · have hp := hp.1 hc
            exact B138  a0 a1 a2 a3 a4 a5 a6 a7 a8 s0 M ls _ _ f25 (lv_sub hl [1, 2, 3, 4, 5, 6, 7, 8, 9, 0] rfl) hw hp
          · have hp := hp.2 hc
            refine lv_aload_n (pc := 123) hx hb d_Mo_deliver_123 rfl (lv_at hl 1 rfl) ?_
            refine lv_iload_n (pc := 124) hx hb d_Mo_deliver_124 rfl (lv_at hl 3 rfl) ?_
            refine lv_iload_n (pc := 125) hx hb d_Mo_deliver_125 rfl (lv_at hl 4 rfl) ?_
            refine lv_iload (pc := 126) hx hb d_Mo_deliver_126 (lv_at hl 5 rfl) ?_
            refine call_zp (pc := 128) (fun _ h => h) hw (fm_runV (As := [.int a2, .int a3, .int a4]) (rest := []) hC hw (c_Mo_isOld l D dA b n T R M sz a0 a2 a3 a4 _) cy_Mo_isOld hp rfl rfl mw_432 mw_433 mw_434 (rfl : classes[11]? = _) (by decide) f25 ⟨Nat.le_of_ble_eq_true rfl, Nat.le_of_ble_eq_true rfl⟩ rfl hl.1 rfl (Nat.le_of_ble_eq_true rfl) d_Mo_deliver_128 ⟨(Nat.le_of_ble_eq_true rfl), (Nat.le_of_ble_eq_true rfl)⟩) (fun r55 H locs hp z56 hw => ?_)
            refine lv_if_eq (pc := 131) (tgt := 138) hx hb d_Mo_deliver_131 rfl (fun hc => ?_) (fun hc => ?_)
            · have hp := hp.1 hc
              exact B138  a0 a1 a2 a3 a4 a5 a6 a7 a8 s0 M ls _ _ f25 (lv_sub hl [1, 2, 3, 4, 5, 6, 7, 8, 9, 0] rfl) hw hp
            · have hp := hp.2 hc
              exact B134  a0 a1 a2 a3 a4 a5 a6 a7 a8 s0 M ls _ _ f25 (lv_sub hl [1, 2, 3, 4, 5, 6, 7, 8, 9, 0] rfl) hw hp
  have B83 : ∀ (a0 : Nat) (a1 : Int32) (a2 : Int32) (a3 : Int32) (a4 : Int32) (a5 : Int32) (a6 : Int32) (a7 : Int32) (a8 : Int32) (M : mM)  (ls : Array Slot) (H : Heap) (locs : List Loc), ok T n a0 11 → lv_has ls 11 [(0, .ref (b + a0)), (1, .int a1), (2, .int a2), (3, .int a3), (4, .int a4), (5, .int a5), (6, .int a6), (7, .int a7), (8, .int a8)] → St D dA (An b n) b n T R M sz s.heap H locs → w_Mo_deliver_B83 n T R Q a0 a1 a2 a3 a4 a5 a6 a7 a8 M → W p l e ({ frames := 5, cells := 0, slots := 0, locals := 127 }) s m av below meth c H locs 0 0 (MQ below (Qim D dA (An b n) b n T R sz Q) av s 0 0 (An b n)) (F0 m 83 ls []) := by
    intro a0 a1 a2 a3 a4 a5 a6 a7 a8 M ls H locs f24 hl hw hp
    unfold w_Mo_deliver_B83 at hp
    refine lv_iconst (v := 1) (pc := 83) hx hb d_Mo_deliver_83 (by decide) ?_
    refine lv_goto (pc := 84) (tgt := 88) hx hb d_Mo_deliver_84 rfl ?_
    exact B88  a0 a1 a2 a3 a4 a5 a6 a7 a8 (1 : Int32) M ls _ _ f24 (lv_sub hl [0, 1, 2, 3, 4, 5, 6, 7, 8] rfl) hw hp
  refine lv_aload_n (pc := 0) hx hb d_Mo_deliver_0 rfl (lv_at hl 0 rfl) ?_
  refine lv_iload_n (pc := 1) hx hb d_Mo_deliver_1 rfl (lv_at hl 1 rfl) ?_
  refine call_zp (pc := 2) (fun _ h => h) hw (fm_runV (As := [.int x1]) (rest := []) hC hw (c_Mo_isRecord l D dA b n T R M sz h x1 _) cy_Mo_isRecord hp rfl rfl mw_396 mw_397 mw_398 (rfl : classes[11]? = _) (by decide) k0 ⟨Nat.le_of_ble_eq_true rfl, Nat.le_of_ble_eq_true rfl⟩ rfl hl.1 rfl (Nat.le_of_ble_eq_true rfl) d_Mo_deliver_2 ⟨(Nat.le_of_ble_eq_true rfl), (Nat.le_of_ble_eq_true rfl)⟩) (fun r1 H locs hp z2 hw => ?_)
  refine lv_if_ne (pc := 5) (tgt := 10) hx hb d_Mo_deliver_5 rfl (fun hc => ?_) (fun hc => ?_)
  · have hp := hp.2 hc
    refine lv_iconst (v := 1) (pc := 10) hx hb d_Mo_deliver_10 (by decide) ?_
    refine lv_aload_n (pc := 11) hx hb d_Mo_deliver_11 rfl (lv_at hl 0 rfl) ?_
    obtain ⟨k3, hp⟩ := hp
    refine gf_Mo_7 (pc := 12) hC hw k0 (Nat.ne_of_gt k3.1) d_Mo_deliver_12 ?_
    refine lv_iload_n (pc := 15) hx hb d_Mo_deliver_15 rfl (lv_at hl 1 rfl) ?_
    obtain ⟨k4, hp⟩ := hp
    refine fm_iald (pc := 16) hC hw k3 k4 rfl d_Mo_deliver_16 ?_
    refine lv_isub (pc := 17) hx hb d_Mo_deliver_17 ?_
    refine lv_topi (fun v5 ev5 => ?_)
    have hp := hp v5 ev5
    refine lv_istore_n (pc := 18) hx hb d_Mo_deliver_18 rfl hl (by decide) rfl (fun ls hl => ?_)
    have hl : lv_has ls 11 [(2, .int v5), (0, .ref (b + h)), (1, .int x1)] := hl
    refine lv_aload_n (pc := 19) hx hb d_Mo_deliver_19 rfl (lv_at hl 1 rfl) ?_
    obtain ⟨k6, hp⟩ := hp
    refine gf_Mo_16 (pc := 20) hC hw k0 (Nat.ne_of_gt k6.1) d_Mo_deliver_20 ?_
    refine lv_iload_n (pc := 23) hx hb d_Mo_deliver_23 rfl (lv_at hl 2 rfl) ?_
    obtain ⟨k7, hp⟩ := hp
    refine fm_iald (pc := 24) hC hw k6 k7 rfl d_Mo_deliver_24 ?_
    refine lv_topi (fun v8 ev8 => ?_)
    have hp := hp v8 ev8
    refine lv_istore_n (pc := 25) hx hb d_Mo_deliver_25 rfl hl (by decide) rfl (fun ls hl => ?_)
    have hl : lv_has ls 11 [(3, .int v8), (2, .int v5), (0, .ref (b + h)), (1, .int x1)] := hl
    refine lv_aload_n (pc := 26) hx hb d_Mo_deliver_26 rfl (lv_at hl 2 rfl) ?_
    obtain ⟨k9, hp⟩ := hp
    refine gf_Mo_19 (pc := 27) hC hw k0 (Nat.ne_of_gt k9.1) d_Mo_deliver_27 ?_
    refine lv_iload_n (pc := 30) hx hb d_Mo_deliver_30 rfl (lv_at hl 3 rfl) ?_
    obtain ⟨k10, hp⟩ := hp
    refine fm_iald (pc := 31) hC hw k9 k10 rfl d_Mo_deliver_31 ?_
    refine lv_topi (fun v11 ev11 => ?_)
    have hp := hp v11 ev11
    refine lv_istore (pc := 32) hx hb d_Mo_deliver_32 hl (by decide) rfl (fun ls hl => ?_)
    have hl : lv_has ls 11 [(4, .int v11), (3, .int v8), (2, .int v5), (0, .ref (b + h)), (1, .int x1)] := hl
    refine lv_aload_n (pc := 34) hx hb d_Mo_deliver_34 rfl (lv_at hl 3 rfl) ?_
    obtain ⟨k12, hp⟩ := hp
    refine gf_Mo_13 (pc := 35) hC hw k0 (Nat.ne_of_gt k12.1) d_Mo_deliver_35 ?_
    refine lv_iload_n (pc := 38) hx hb d_Mo_deliver_38 rfl (lv_at hl 4 rfl) ?_
    obtain ⟨k13, hp⟩ := hp
    refine fm_iald (pc := 39) hC hw k12 k13 rfl d_Mo_deliver_39 ?_
    refine lv_topi (fun v14 ev14 => ?_)
    have hp := hp v14 ev14
    refine lv_istore (pc := 40) hx hb d_Mo_deliver_40 hl (by decide) rfl (fun ls hl => ?_)
    have hl : lv_has ls 11 [(5, .int v14), (4, .int v11), (3, .int v8), (2, .int v5), (0, .ref (b + h)), (1, .int x1)] := hl
    refine lv_aload_n (pc := 42) hx hb d_Mo_deliver_42 rfl (lv_at hl 4 rfl) ?_
    obtain ⟨k15, hp⟩ := hp
    refine gf_Mo_26 (pc := 43) hC hw k0 (Nat.ne_of_gt k15.1) d_Mo_deliver_43 ?_
    refine lv_iload_n (pc := 46) hx hb d_Mo_deliver_46 rfl (lv_at hl 5 rfl) ?_
    obtain ⟨k16, hp⟩ := hp
    refine fm_iald (pc := 47) hC hw k15 k16 rfl d_Mo_deliver_47 ?_
    refine lv_topi (fun v17 ev17 => ?_)
    have hp := hp v17 ev17
    refine lv_istore (pc := 48) hx hb d_Mo_deliver_48 hl (by decide) rfl (fun ls hl => ?_)
    have hl : lv_has ls 11 [(6, .int v17), (5, .int v14), (4, .int v11), (3, .int v8), (2, .int v5), (0, .ref (b + h)), (1, .int x1)] := hl
    refine lv_aload_n (pc := 50) hx hb d_Mo_deliver_50 rfl (lv_at hl 5 rfl) ?_
    obtain ⟨k18, hp⟩ := hp
    refine gf_Mo_29 (pc := 51) hC hw k0 (Nat.ne_of_gt k18.1) d_Mo_deliver_51 ?_
    refine lv_iload_n (pc := 54) hx hb d_Mo_deliver_54 rfl (lv_at hl 6 rfl) ?_
    obtain ⟨k19, hp⟩ := hp
    refine fm_iald (pc := 55) hC hw k18 k19 rfl d_Mo_deliver_55 ?_
    refine lv_topi (fun v20 ev20 => ?_)
    have hp := hp v20 ev20
    refine lv_istore (pc := 56) hx hb d_Mo_deliver_56 hl (by decide) rfl (fun ls hl => ?_)
    have hl : lv_has ls 11 [(7, .int v20), (6, .int v17), (5, .int v14), (4, .int v11), (3, .int v8), (2, .int v5), (0, .ref (b + h)), (1, .int x1)] := hl
    refine lv_aload_n (pc := 58) hx hb d_Mo_deliver_58 rfl (lv_at hl 6 rfl) ?_
    obtain ⟨k21, hp⟩ := hp
    refine gf_Mo_32 (pc := 59) hC hw k0 (Nat.ne_of_gt k21.1) d_Mo_deliver_59 ?_
    refine lv_iload_n (pc := 62) hx hb d_Mo_deliver_62 rfl (lv_at hl 7 rfl) ?_
    obtain ⟨k22, hp⟩ := hp
    refine fm_iald (pc := 63) hC hw k21 k22 rfl d_Mo_deliver_63 ?_
    refine lv_topi (fun v23 ev23 => ?_)
    have hp := hp v23 ev23
    refine lv_istore (pc := 64) hx hb d_Mo_deliver_64 hl (by decide) rfl (fun ls hl => ?_)
    have hl : lv_has ls 11 [(8, .int v23), (7, .int v20), (6, .int v17), (5, .int v14), (4, .int v11), (3, .int v8), (2, .int v5), (0, .ref (b + h)), (1, .int x1)] := hl
    refine lv_iload_n (pc := 66) hx hb d_Mo_deliver_66 rfl (lv_at hl 6 rfl) ?_
    refine lv_if_eq (pc := 67) (tgt := 83) hx hb d_Mo_deliver_67 rfl (fun hc => ?_) (fun hc => ?_)
    · have hp := hp.1 hc
      exact B83  h x1 v5 v8 v11 v14 v17 v20 v23 M ls _ _ k0 (lv_sub hl [7, 8, 6, 5, 4, 3, 2, 1, 0] rfl) hw hp
    · have hp := hp.2 hc
      refine lv_iload_n (pc := 70) hx hb d_Mo_deliver_70 rfl (lv_at hl 5 rfl) ?_
      refine lv_if_gt (pc := 71) (tgt := 83) hx hb d_Mo_deliver_71 rfl (fun hc => ?_) (fun hc => ?_)
      · have hp := hp.1 hc
        exact B83  h x1 v5 v8 v11 v14 v17 v20 v23 M ls _ _ k0 (lv_sub hl [7, 8, 6, 5, 4, 3, 2, 1, 0] rfl) hw hp
      · have hp := hp.2 hc
        refine lv_aload_n (pc := 74) hx hb d_Mo_deliver_74 rfl (lv_at hl 7 rfl) ?_
        obtain ⟨k57, hp⟩ := hp
        refine gf_Mo_41 (pc := 75) hC hw k0 (Nat.ne_of_gt k57.1) d_Mo_deliver_75 ?_
        refine lv_iconst (v := 1) (pc := 78) hx hb d_Mo_deliver_78 (by decide) ?_
        obtain ⟨k58, hp⟩ := hp
        refine fm_iald (pc := 79) hC hw k57 k58 (show Int32.toNatClampNeg (1 : Int32) = 1 by decide) d_Mo_deliver_79 ?_
        refine lv_if_le (pc := 80) (tgt := 87) hx hb d_Mo_deliver_80 rfl (fun hc => ?_) (fun hc => ?_)
        · have hp := hp.1 hc
          refine lv_iconst (v := 0) (pc := 87) hx hb d_Mo_deliver_87 (by decide) ?_
          exact B88  h x1 v5 v8 v11 v14 v17 v20 v23 (0 : Int32) M ls _ _ k0 (lv_sub hl [7, 8, 6, 5, 4, 3, 2, 1, 0] rfl) hw hp
        · have hp := hp.2 hc
          exact B83  h x1 v5 v8 v11 v14 v17 v20 v23 M ls _ _ k0 (lv_sub hl [7, 8, 6, 5, 4, 3, 2, 1, 0] rfl) hw hp
  · have hp := hp.1 hc
    refine lv_iconst (v := -1) (pc := 8) hx hb d_Mo_deliver_8 (by decide) ?_
    exact ret_im hC hr hlk hw hp d_Mo_deliver_9
