set_option maxHeartbeats 4000000 in
set_option maxRecDepth 100000 in
theorem c_Mo_isOld (l : Launch) (D : va_G) (dA : Nat → ClassId) (b n : Nat) (T : mT) (R : mR) (M : mM) (sz : Nat) (h : Nat) (x1 : Int32) (x2 : Int32) (x3 : Int32) (Q : Int32 → Prop) : Met l y_Mo_isOld (Cond.code y_Mo_isOld b_Mo_isOld 5 (some .boolean) :: tW) ({ frames := 0, cells := 0, slots := 0, locals := 0 }) (Pm D dA b n T R M sz [.ref (b + h), .int x1, .int x2, .int x3] (w_Mo_isOld n T R M h x1 x2 x3 Q)) (Qzp D dA (An b n) b n T R M sz Q) 0 0 (An b n) := by
  refine fm_body (An b n) (by decide) (Nat.le_of_ble_eq_true rfl) (fun k h0 h1 => ⟨by omega, by omega⟩) (fun p e s m below meth c ls hC hr hlk hnm hl hw hp => ?_)
  have hx := hC.1.1
  have hb := hC.1.2.1
  have hl : lv_has ls 5 [(0, .ref (b + h)), (1, .int x1), (2, .int x2), (3, .int x3)] := hl
  generalize hav : (List.toArray ([.ref (b + h), .int x1, .int x2, .int x3] : List Value)) = av at hC ⊢
  unfold w_Mo_isOld at hp
  obtain ⟨k0, hp⟩ := hp
  refine lv_iconst (v := 4) (pc := 0) hx hb d_Mo_isOld_0 (by decide) ?_
  refine lv_iload_n (pc := 1) hx hb d_Mo_isOld_1 rfl (lv_at hl 1 rfl) ?_
  refine lv_imul (pc := 2) hx hb d_Mo_isOld_2 ?_
  refine lv_iload_n (pc := 3) hx hb d_Mo_isOld_3 rfl (lv_at hl 2 rfl) ?_
  refine lv_iadd (pc := 4) hx hb d_Mo_isOld_4 ?_
  refine lv_topi (fun v1 ev1 => ?_)
  have hp := hp v1 ev1
  refine lv_istore (pc := 5) hx hb d_Mo_isOld_5 hl (by decide) rfl (fun ls hl => ?_)
  have hl : lv_has ls 5 [(4, .int v1), (0, .ref (b + h)), (1, .int x1), (2, .int x2), (3, .int x3)] := hl
  refine lv_aload_n (pc := 7) hx hb d_Mo_isOld_7 rfl (lv_at hl 1 rfl) ?_
  obtain ⟨k2, hp⟩ := hp
  refine gf_Mo_50 (pc := 8) hC hw k0 (Nat.ne_of_gt k2.1) d_Mo_isOld_8 ?_
  refine lv_iload (pc := 11) hx hb d_Mo_isOld_11 (lv_at hl 0 rfl) ?_
  obtain ⟨k3, hp⟩ := hp
  refine fm_iald (pc := 13) hC hw k2 k3 rfl d_Mo_isOld_13 ?_
  refine lv_iload_n (pc := 14) hx hb d_Mo_isOld_14 rfl (lv_at hl 4 rfl) ?_
  refine lv_isub (pc := 15) hx hb d_Mo_isOld_15 ?_
  refine lv_bipush (v := 16) (pc := 16) hx hb d_Mo_isOld_16 (by decide) ?_
  refine lv_icmp_ge (pc := 18) (tgt := 40) hx hb d_Mo_isOld_18 rfl (fun hc => ?_) (fun hc => ?_)
  · have hp := hp.1 hc
    refine lv_iconst (v := 1) (pc := 40) hx hb d_Mo_isOld_40 (by decide) ?_
    refine lv_goto (pc := 41) (tgt := 45) hx hb d_Mo_isOld_41 rfl ?_
    exact ret_zp hC hr hlk hw (Or.inr rfl) hp d_Mo_isOld_45
  · have hp := hp.2 hc
    refine lv_aload_n (pc := 21) hx hb d_Mo_isOld_21 rfl (lv_at hl 1 rfl) ?_
    obtain ⟨k4, hp⟩ := hp
    refine gf_Mo_53 (pc := 22) hC hw k0 (Nat.ne_of_gt k4.1) d_Mo_isOld_22 ?_
    refine lv_bipush (v := 16) (pc := 25) hx hb d_Mo_isOld_25 (by decide) ?_
    refine lv_iload (pc := 27) hx hb d_Mo_isOld_27 (lv_at hl 0 rfl) ?_
    refine lv_imul (pc := 29) hx hb d_Mo_isOld_29 ?_
    refine lv_iload_n (pc := 30) hx hb d_Mo_isOld_30 rfl (lv_at hl 4 rfl) ?_
    refine lv_bipush (v := 16) (pc := 31) hx hb d_Mo_isOld_31 (by decide) ?_
    refine lv_irem (pc := 33) hx hb d_Mo_isOld_33 (by decide) ?_
    refine lv_iadd (pc := 34) hx hb d_Mo_isOld_34 ?_
    obtain ⟨k5, hp⟩ := hp
    refine fm_iald (pc := 35) hC hw k4 k5 rfl d_Mo_isOld_35 ?_
    refine lv_iload_n (pc := 36) hx hb d_Mo_isOld_36 rfl (lv_at hl 4 rfl) ?_
    refine lv_icmp_ne (pc := 37) (tgt := 44) hx hb d_Mo_isOld_37 rfl (fun hc => ?_) (fun hc => ?_)
    · have hp := hp.2 hc
      refine lv_iconst (v := 0) (pc := 44) hx hb d_Mo_isOld_44 (by decide) ?_
      exact ret_zp hC hr hlk hw (Or.inl rfl) hp d_Mo_isOld_45
    · have hp := hp.1 hc
      refine lv_iconst (v := 1) (pc := 40) hx hb d_Mo_isOld_40 (by decide) ?_
      refine lv_goto (pc := 41) (tgt := 45) hx hb d_Mo_isOld_41 rfl ?_
      exact ret_zp hC hr hlk hw (Or.inr rfl) hp d_Mo_isOld_45
set_option maxHeartbeats 4000000 in
set_option maxRecDepth 100000 in
theorem c_Mo_close (l : Launch) (D : va_G) (dA : Nat → ClassId) (b n : Nat) (T : mT) (R : mR) (M : mM) (sz : Nat) (h : Nat) (x1 : Int32) (x2 : Int32) (Q : mM → Prop) : Met l y_Mo_close (Cond.code y_Mo_close b_Mo_close 6 none :: tW) ({ frames := 1, cells := 0, slots := 0, locals := 23 }) (Pm D dA b n T R M sz [.ref (b + h), .int x1, .int x2] (w_Mo_close n T R M h x1 x2 Q)) (Qvm D dA (An b n) b n T R sz Q) 0 0 (An b n) := by
  refine fm_body (An b n) (by decide) (Nat.le_of_ble_eq_true rfl) (fun k h0 h1 => ⟨by omega, by omega⟩) (fun p e s m below meth c ls hC hr hlk hnm hl hw hp => ?_)
  have hx := hC.1.1
  have hb := hC.1.2.1
  have hl : lv_has ls 6 [(0, .ref (b + h)), (1, .int x1), (2, .int x2)] := hl
  generalize hav : (List.toArray ([.ref (b + h), .int x1, .int x2] : List Value)) = av at hC ⊢
  unfold w_Mo_close at hp
  obtain ⟨k0, hp⟩ := hp
  have L2 : ∀ (N2 : Nat) (a0 : Nat) (a1 : Int32) (a2 : Int32) (a3 : Int32) (M : mM)  (ls : Array Slot) (H : Heap) (locs : List Loc), ok T n a0 11 → lv_has ls 6 [(0, .ref (b + a0)), (1, .int a1), (2, .int a2), (3, .int a3)] → St D dA (An b n) b n T R M sz s.heap H locs → w_Mo_close_L2 n T R Q a0 a1 a2 N2 a3 M → W p l e ({ frames := 1, cells := 0, slots := 0, locals := 23 }) s m av below meth c H locs 0 0 (MQ below (Qvm D dA (An b n) b n T R sz Q) av s 0 0 (An b n)) (F0 m 2 ls []) := by
    intro N2
    induction N2 with
    | zero => intro a0 a1 a2 a3 M ls H locs f1 hl hw hp; exact False.elim hp
    | succ N2 ih2 =>
      intro a0 a1 a2 a3 M ls H locs f1 hl hw hp
      unfold w_Mo_close_L2 at hp
      refine lv_iload_n (pc := 2) hx hb d_Mo_close_2 rfl (lv_at hl 3 rfl) ?_
      refine lv_aload_n (pc := 3) hx hb d_Mo_close_3 rfl (lv_at hl 0 rfl) ?_
      obtain ⟨k2, hp⟩ := hp
      refine gf_Mo_26 (pc := 4) hC hw f1 (Nat.ne_of_gt k2.1) d_Mo_close_4 ?_
      refine lv_iload_n (pc := 7) hx hb d_Mo_close_7 rfl (lv_at hl 2 rfl) ?_
      obtain ⟨k3, hp⟩ := hp
      refine fm_iald (pc := 8) hC hw k2 k3 rfl d_Mo_close_8 ?_
      refine lv_icmp_ge (pc := 9) (tgt := 116) hx hb d_Mo_close_9 rfl (fun hc => ?_) (fun hc => ?_)
      · have hp := hp.1 hc
        refine lv_iload_n (pc := 116) hx hb d_Mo_close_116 rfl (lv_at hl 1 rfl) ?_
        refine lv_if_ne (pc := 117) (tgt := 144) hx hb d_Mo_close_117 rfl (fun hc => ?_) (fun hc => ?_)
        · have hp := hp.2 hc
          exact ret_vm hC hr hlk hw hp d_Mo_close_144
        · have hp := hp.1 hc
          refine lv_aload_n (pc := 120) hx hb d_Mo_close_120 rfl (lv_at hl 0 rfl) ?_
          obtain ⟨k4, hp⟩ := hp
          refine gf_Mo_41 (pc := 121) hC hw f1 (Nat.ne_of_gt k4.1) d_Mo_close_121 ?_
          refine lv_iconst (v := 0) (pc := 124) hx hb d_Mo_close_124 (by decide) ?_
          obtain ⟨k5, hp⟩ := hp
          refine fm_iald (pc := 125) hC hw k4 k5 (show Int32.toNatClampNeg (0 : Int32) = 0 by decide) d_Mo_close_125 ?_
          refine lv_iconst (v := 3) (pc := 126) hx hb d_Mo_close_126 (by decide) ?_
          refine lv_icmp_ne (pc := 127) (tgt := 144) hx hb d_Mo_close_127 rfl (fun hc => ?_) (fun hc => ?_)
          · have hp := hp.2 hc
            exact ret_vm hC hr hlk hw hp d_Mo_close_144
          · have hp := hp.1 hc
            refine lv_aload_n (pc := 130) hx hb d_Mo_close_130 rfl (lv_at hl 0 rfl) ?_
            refine lv_iconst (v := 0) (pc := 131) hx hb d_Mo_close_131 (by decide) ?_
            refine call_ip (pc := 132) (fun _ h => h) hw (fm_runV (As := [.int (0 : Int32)]) (rest := []) hC hw (c_Mo_openOf l D dA b n T R M sz a0 (0 : Int32) _) cy_Mo_openOf hp rfl rfl mw_390 mw_391 mw_392 (rfl : classes[11]? = _) (by decide) f1 ⟨Nat.le_of_ble_eq_true rfl, Nat.le_of_ble_eq_true rfl⟩ rfl hl.1 rfl (Nat.le_of_ble_eq_true rfl) d_Mo_close_132 ⟨(Nat.le_of_ble_eq_true rfl), (Nat.le_of_ble_eq_true rfl)⟩) (fun r6 H locs hp hw => ?_)
            refine lv_if_ne (pc := 135) (tgt := 144) hx hb d_Mo_close_135 rfl (fun hc => ?_) (fun hc => ?_)
            · have hp := hp.2 hc
              exact ret_vm hC hr hlk hw hp d_Mo_close_144
            · have hp := hp.1 hc
              refine lv_aload_n (pc := 138) hx hb d_Mo_close_138 rfl (lv_at hl 0 rfl) ?_
              refine lv_iconst (v := 0) (pc := 139) hx hb d_Mo_close_139 (by decide) ?_
              refine lv_iconst (v := 4) (pc := 140) hx hb d_Mo_close_140 (by decide) ?_
              refine call_vm (pc := 141) (fun _ h => h) hw (fm_runV (As := [.int (0 : Int32), .int (4 : Int32)]) (rest := []) hC hw (c_Mo_become l D dA b n T R M sz a0 (0 : Int32) (4 : Int32) _) cy_Mo_become hp rfl rfl mw_378 mw_379 mw_380 (rfl : classes[11]? = _) (by decide) f1 ⟨Nat.le_of_ble_eq_true rfl, Nat.le_of_ble_eq_true rfl⟩ rfl hl.1 rfl (Nat.le_of_ble_eq_true rfl) d_Mo_close_141 ⟨(Nat.le_of_ble_eq_true rfl), (Nat.le_of_ble_eq_true rfl)⟩) (fun M7 H locs hp hw => ?_)
              exact ret_vm hC hr hlk hw hp d_Mo_close_144
      · have hp := hp.2 hc
        refine lv_iconst (v := 0) (pc := 12) hx hb d_Mo_close_12 (by decide) ?_
        refine lv_istore (pc := 13) hx hb d_Mo_close_13 hl (by decide) rfl (fun ls hl => ?_)
        have hl : lv_has ls 6 [(4, .int (0 : Int32)), (0, .ref (b + a0)), (1, .int a1), (2, .int a2), (3, .int a3)] := hl
        have L15 : ∀ (N15 : Nat) (a0 : Nat) (a1 : Int32) (a2 : Int32) (a3 : Int32) (a4 : Int32) (M : mM)  (ls : Array Slot) (H : Heap) (locs : List Loc), ok T n a0 11 → lv_has ls 6 [(0, .ref (b + a0)), (1, .int a1), (2, .int a2), (3, .int a3), (4, .int a4)] → St D dA (An b n) b n T R M sz s.heap H locs → w_Mo_close_L15 n T R Q (fun a0 a1 a2 a3 M => w_Mo_close_L2 n T R Q a0 a1 a2 N2 a3 M) a0 a1 a2 a3 N15 a4 M → W p l e ({ frames := 1, cells := 0, slots := 0, locals := 23 }) s m av below meth c H locs 0 0 (MQ below (Qvm D dA (An b n) b n T R sz Q) av s 0 0 (An b n)) (F0 m 15 ls []) := by
          intro N15
          induction N15 with
          | zero => intro a0 a1 a2 a3 a4 M ls H locs f8 hl hw hp; exact False.elim hp
          | succ N15 ih15 =>
            intro a0 a1 a2 a3 a4 M ls H locs f8 hl hw hp
            unfold w_Mo_close_L15 at hp
            refine lv_iload (pc := 15) hx hb d_Mo_close_15 (lv_at hl 4 rfl) ?_
            refine lv_aload_n (pc := 17) hx hb d_Mo_close_17 rfl (lv_at hl 0 rfl) ?_
            obtain ⟨k9, hp⟩ := hp
            refine gf_Mo_80 (pc := 18) hC hw f8 (Nat.ne_of_gt k9.1) d_Mo_close_18 ?_
            refine lv_iload_n (pc := 21) hx hb d_Mo_close_21 rfl (lv_at hl 1 rfl) ?_
            obtain ⟨k10, hp⟩ := hp
            refine fm_iald (pc := 22) hC hw k9 k10 rfl d_Mo_close_22 ?_
            refine lv_icmp_ge (pc := 23) (tgt := 110) hx hb d_Mo_close_23 rfl (fun hc => ?_) (fun hc => ?_)
            · have hp := hp.1 hc
              obtain ⟨v11, ev11⟩ : ∃ z : Int32, z = a3 + (1 : Int32) := ⟨_, rfl⟩
              have hp := hp v11 ev11
              refine lv_iinc (pc := 110) (k := 3) (v := v11) hx hb d_Mo_close_110 hl rfl ev11.symm (by decide) rfl (fun ls hl => ?_)
              have hl : lv_has ls 6 [(3, .int v11), (0, .ref (b + a0)), (1, .int a1), (2, .int a2), (4, .int a4)] := hl
              refine lv_goto (pc := 113) (tgt := 2) hx hb d_Mo_close_113 rfl ?_
              exact ih2  a0 a1 a2 v11 M ls _ _ f8 (lv_sub hl [1, 2, 3, 0] rfl) hw hp
            · have hp := hp.2 hc
              refine lv_aload_n (pc := 26) hx hb d_Mo_close_26 rfl (lv_at hl 0 rfl) ?_
              obtain ⟨k12, hp⟩ := hp
              refine gf_Mo_68 (pc := 27) hC hw f8 (Nat.ne_of_gt k12.1) d_Mo_close_27 ?_
              refine lv_iload_n (pc := 30) hx hb d_Mo_close_30 rfl (lv_at hl 1 rfl) ?_
              obtain ⟨k13, hp⟩ := hp
              refine fm_iald (pc := 31) hC hw k12 k13 rfl d_Mo_close_31 ?_
              refine lv_if_le (pc := 32) (tgt := 110) hx hb d_Mo_close_32 rfl (fun hc => ?_) (fun hc => ?_)
              · have hp := hp.1 hc
                obtain ⟨v14, ev14⟩ : ∃ z : Int32, z = a3 + (1 : Int32) := ⟨_, rfl⟩
                have hp := hp v14 ev14
                refine lv_iinc (pc := 110) (k := 3) (v := v14) hx hb d_Mo_close_110 hl rfl ev14.symm (by decide) rfl (fun ls hl => ?_)
                have hl : lv_has ls 6 [(3, .int v14), (0, .ref (b + a0)), (1, .int a1), (2, .int a2), (4, .int a4)] := hl
                refine lv_goto (pc := 113) (tgt := 2) hx hb d_Mo_close_113 rfl ?_
                exact ih2  a0 a1 a2 v14 M ls _ _ f8 (lv_sub hl [1, 2, 3, 0] rfl) hw hp
              · have hp := hp.2 hc
                refine lv_bipush (v := 80) (pc := 35) hx hb d_Mo_close_35 (by decide) ?_
                refine lv_iload_n (pc := 37) hx hb d_Mo_close_37 rfl (lv_at hl 1 rfl) ?_
                refine lv_imul (pc := 38) hx hb d_Mo_close_38 ?_
                refine lv_iload (pc := 39) hx hb d_Mo_close_39 (lv_at hl 4 rfl) ?_
                refine lv_iadd (pc := 41) hx hb d_Mo_close_41 ?_
                refine lv_topi (fun v15 ev15 => ?_)
                have hp := hp v15 ev15
                refine lv_istore (pc := 42) hx hb d_Mo_close_42 hl (by decide) rfl (fun ls hl => ?_)
                have hl : lv_has ls 6 [(5, .int v15), (0, .ref (b + a0)), (1, .int a1), (2, .int a2), (3, .int a3), (4, .int a4)] := hl
                refine lv_aload_n (pc := 44) hx hb d_Mo_close_44 rfl (lv_at hl 1 rfl) ?_
                obtain ⟨k16, hp⟩ := hp
                refine gf_Mo_83 (pc := 45) hC hw f8 (Nat.ne_of_gt k16.1) d_Mo_close_45 ?_
                refine lv_iload (pc := 48) hx hb d_Mo_close_48 (lv_at hl 0 rfl) ?_
                obtain ⟨k17, hp⟩ := hp
                refine fm_iald (pc := 50) hC hw k16 k17 rfl d_Mo_close_50 ?_
                refine lv_aload_n (pc := 51) hx hb d_Mo_close_51 rfl (lv_at hl 1 rfl) ?_
                obtain ⟨k18, hp⟩ := hp
                refine gf_Mo_35 (pc := 52) hC hw f8 (Nat.ne_of_gt k18.1) d_Mo_close_52 ?_
                refine lv_bipush (v := 8) (pc := 55) hx hb d_Mo_close_55 (by decide) ?_
                refine lv_iload_n (pc := 57) hx hb d_Mo_close_57 rfl (lv_at hl 3 rfl) ?_
                refine lv_imul (pc := 58) hx hb d_Mo_close_58 ?_
                refine lv_iload_n (pc := 59) hx hb d_Mo_close_59 rfl (lv_at hl 4 rfl) ?_
                refine lv_iadd (pc := 60) hx hb d_Mo_close_60 ?_
                obtain ⟨k19, hp⟩ := hp
                refine fm_iald (pc := 61) hC hw k18 k19 rfl d_Mo_close_61 ?_
                refine lv_icmp_ne (pc := 62) (tgt := 104) hx hb d_Mo_close_62 rfl (fun hc => ?_) (fun hc => ?_)
                · have hp := hp.2 hc
                  obtain ⟨v31, ev31⟩ : ∃ z : Int32, z = a4 + (1 : Int32) := ⟨_, rfl⟩
                  have hp := hp v31 ev31
                  refine lv_iinc (pc := 104) (k := 5) (v := v31) hx hb d_Mo_close_104 hl rfl ev31.symm (by decide) rfl (fun ls hl => ?_)
                  have hl : lv_has ls 6 [(4, .int v31), (5, .int v15), (0, .ref (b + a0)), (1, .int a1), (2, .int a2), (3, .int a3)] := hl
                  refine lv_goto (pc := 107) (tgt := 15) hx hb d_Mo_close_107 rfl ?_
                  exact ih15  a0 a1 a2 a3 v31 M ls _ _ f8 (lv_sub hl [2, 3, 4, 5, 0] rfl) hw hp
                · have hp := hp.1 hc
                  refine lv_aload_n (pc := 65) hx hb d_Mo_close_65 rfl (lv_at hl 1 rfl) ?_
                  obtain ⟨k20, hp⟩ := hp
                  refine gf_Mo_86 (pc := 66) hC hw f8 (Nat.ne_of_gt k20.1) d_Mo_close_66 ?_
                  refine lv_iload (pc := 69) hx hb d_Mo_close_69 (lv_at hl 0 rfl) ?_
                  obtain ⟨k21, hp⟩ := hp
                  refine fm_iald (pc := 71) hC hw k20 k21 rfl d_Mo_close_71 ?_
                  refine lv_aload_n (pc := 72) hx hb d_Mo_close_72 rfl (lv_at hl 1 rfl) ?_
                  obtain ⟨k22, hp⟩ := hp
                  refine gf_Mo_38 (pc := 73) hC hw f8 (Nat.ne_of_gt k22.1) d_Mo_close_73 ?_
                  refine lv_bipush (v := 8) (pc := 76) hx hb d_Mo_close_76 (by decide) ?_
                  refine lv_iload_n (pc := 78) hx hb d_Mo_close_78 rfl (lv_at hl 3 rfl) ?_
                  refine lv_imul (pc := 79) hx hb d_Mo_close_79 ?_
                  refine lv_iload_n (pc := 80) hx hb d_Mo_close_80 rfl (lv_at hl 4 rfl) ?_
                  refine lv_iadd (pc := 81) hx hb d_Mo_close_81 ?_
                  obtain ⟨k23, hp⟩ := hp
                  refine fm_iald (pc := 82) hC hw k22 k23 rfl d_Mo_close_82 ?_
                  refine lv_icmp_ne (pc := 83) (tgt := 104) hx hb d_Mo_close_83 rfl (fun hc => ?_) (fun hc => ?_)
                  · have hp := hp.2 hc
                    obtain ⟨v30, ev30⟩ : ∃ z : Int32, z = a4 + (1 : Int32) := ⟨_, rfl⟩
                    have hp := hp v30 ev30
                    refine lv_iinc (pc := 104) (k := 5) (v := v30) hx hb d_Mo_close_104 hl rfl ev30.symm (by decide) rfl (fun ls hl => ?_)
                    have hl : lv_has ls 6 [(4, .int v30), (5, .int v15), (0, .ref (b + a0)), (1, .int a1), (2, .int a2), (3, .int a3)] := hl
                    refine lv_goto (pc := 107) (tgt := 15) hx hb d_Mo_close_107 rfl ?_
                    exact ih15  a0 a1 a2 a3 v30 M ls _ _ f8 (lv_sub hl [2, 3, 4, 5, 0] rfl) hw hp
                  · have hp := hp.1 hc
                    refine lv_aload_n (pc := 86) hx hb d_Mo_close_86 rfl (lv_at hl 1 rfl) ?_
                    obtain ⟨k24, hp⟩ := hp
                    refine gf_Mo_77 (pc := 87) hC hw f8 (Nat.ne_of_gt k24.1) d_Mo_close_87 ?_
                    refine lv_bipush (v := 12) (pc := 90) hx hb d_Mo_close_90 (by decide) ?_
                    refine lv_iload_n (pc := 92) hx hb d_Mo_close_92 rfl (lv_at hl 2 rfl) ?_
                    refine lv_imul (pc := 93) hx hb d_Mo_close_93 ?_
                    refine lv_aload_n (pc := 94) hx hb d_Mo_close_94 rfl (lv_at hl 1 rfl) ?_
                    obtain ⟨k25, hp⟩ := hp
                    refine gf_Mo_89 (pc := 95) hC hw f8 (Nat.ne_of_gt k25.1) d_Mo_close_95 ?_
                    refine lv_iload (pc := 98) hx hb d_Mo_close_98 (lv_at hl 0 rfl) ?_
                    obtain ⟨k26, hp⟩ := hp
                    refine fm_iald (pc := 100) hC hw k25 k26 rfl d_Mo_close_100 ?_
                    refine lv_iadd (pc := 101) hx hb d_Mo_close_101 ?_
                    refine lv_iconst (v := 0) (pc := 102) hx hb d_Mo_close_102 (by decide) ?_
                    obtain ⟨k27, hp⟩ := hp
                    refine fm_zast (pc := 103) hC hw (Or.inl rfl) k24 k27 rfl d_Mo_close_103 (fun M28 H locs eM28 hw => ?_)
                    have hp := hp M28 eM28
                    obtain ⟨v29, ev29⟩ : ∃ z : Int32, z = a4 + (1 : Int32) := ⟨_, rfl⟩
                    have hp := hp v29 ev29
                    refine lv_iinc (pc := 104) (k := 5) (v := v29) hx hb d_Mo_close_104 hl rfl ev29.symm (by decide) rfl (fun ls hl => ?_)
                    have hl : lv_has ls 6 [(4, .int v29), (5, .int v15), (0, .ref (b + a0)), (1, .int a1), (2, .int a2), (3, .int a3)] := hl
                    refine lv_goto (pc := 107) (tgt := 15) hx hb d_Mo_close_107 rfl ?_
                    exact ih15  a0 a1 a2 a3 v29 M28 ls _ _ f8 (lv_sub hl [2, 3, 4, 5, 0] rfl) hw hp
        obtain ⟨N15, hp⟩ := hp
        exact L15 N15 a0 a1 a2 a3 (0 : Int32) M ls _ _ f1 (lv_sub hl [1, 2, 3, 4, 0] rfl) hw hp
  refine lv_iconst (v := 0) (pc := 0) hx hb d_Mo_close_0 (by decide) ?_
  refine lv_istore_n (pc := 1) hx hb d_Mo_close_1 rfl hl (by decide) rfl (fun ls hl => ?_)
  have hl : lv_has ls 6 [(3, .int (0 : Int32)), (0, .ref (b + h)), (1, .int x1), (2, .int x2)] := hl
  obtain ⟨N2, hp⟩ := hp
  exact L2 N2 h x1 x2 (0 : Int32) M ls _ _ k0 (lv_sub hl [1, 2, 3, 0] rfl) hw hp
set_option maxHeartbeats 4000000 in
set_option maxRecDepth 100000 in
theorem c_Mo_copyTo (l : Launch) (D : va_G) (dA : Nat → ClassId) (b n : Nat) (T : mT) (R : mR) (M : mM) (sz : Nat) (h : Nat) (x1 : Int32) (x2 : Int32) (Q : mM → Prop) : Met l y_Mo_copyTo (Cond.code y_Mo_copyTo b_Mo_copyTo 4 none :: tW) ({ frames := 0, cells := 0, slots := 0, locals := 0 }) (Pm D dA b n T R M sz [.ref (b + h), .int x1, .int x2] (w_Mo_copyTo n T R M h x1 x2 Q)) (Qvm D dA (An b n) b n T R sz Q) 0 0 (An b n) := by
  refine fm_body (An b n) (by decide) (Nat.le_of_ble_eq_true rfl) (fun k h0 h1 => ⟨by omega, by omega⟩) (fun p e s m below meth c ls hC hr hlk hnm hl hw hp => ?_)
  have hx := hC.1.1
  have hb := hC.1.2.1
  have hl : lv_has ls 4 [(0, .ref (b + h)), (1, .int x1), (2, .int x2)] := hl
  generalize hav : (List.toArray ([.ref (b + h), .int x1, .int x2] : List Value)) = av at hC ⊢
  unfold w_Mo_copyTo at hp
  obtain ⟨k0, hp⟩ := hp
  have L98 : ∀ (N98 : Nat) (a0 : Nat) (a1 : Int32) (a2 : Int32) (a3 : Int32) (M : mM)  (ls : Array Slot) (H : Heap) (locs : List Loc), ok T n a0 11 → lv_has ls 4 [(0, .ref (b + a0)), (1, .int a1), (2, .int a2), (3, .int a3)] → St D dA (An b n) b n T R M sz s.heap H locs → w_Mo_copyTo_L98 n T R Q a0 a1 a2 N98 a3 M → W p l e ({ frames := 0, cells := 0, slots := 0, locals := 0 }) s m av below meth c H locs 0 0 (MQ below (Qvm D dA (An b n) b n T R sz Q) av s 0 0 (An b n)) (F0 m 98 ls []) := by
    intro N98
    induction N98 with
    | zero => intro a0 a1 a2 a3 M ls H locs f34 hl hw hp; exact False.elim hp
    | succ N98 ih98 =>
      intro a0 a1 a2 a3 M ls H locs f34 hl hw hp
      unfold w_Mo_copyTo_L98 at hp
      refine lv_iload_n (pc := 98) hx hb d_Mo_copyTo_98 rfl (lv_at hl 3 rfl) ?_
      refine lv_bipush (v := 8) (pc := 99) hx hb d_Mo_copyTo_99 (by decide) ?_
      refine lv_icmp_ge (pc := 101) (tgt := 154) hx hb d_Mo_copyTo_101 rfl (fun hc => ?_) (fun hc => ?_)
      · have hp := hp.1 hc
        exact ret_vm hC hr hlk hw hp d_Mo_copyTo_154
      · have hp := hp.2 hc
        refine lv_aload_n (pc := 104) hx hb d_Mo_copyTo_104 rfl (lv_at hl 0 rfl) ?_
        obtain ⟨k35, hp⟩ := hp
        refine gf_Mo_35 (pc := 105) hC hw f34 (Nat.ne_of_gt k35.1) d_Mo_copyTo_105 ?_
        refine lv_bipush (v := 8) (pc := 108) hx hb d_Mo_copyTo_108 (by decide) ?_
        refine lv_iload_n (pc := 110) hx hb d_Mo_copyTo_110 rfl (lv_at hl 2 rfl) ?_
        refine lv_imul (pc := 111) hx hb d_Mo_copyTo_111 ?_
        refine lv_iload_n (pc := 112) hx hb d_Mo_copyTo_112 rfl (lv_at hl 3 rfl) ?_
        refine lv_iadd (pc := 113) hx hb d_Mo_copyTo_113 ?_
        refine lv_aload_n (pc := 114) hx hb d_Mo_copyTo_114 rfl (lv_at hl 0 rfl) ?_
        refine gf_Mo_35 (pc := 115) hC hw f34 (Nat.ne_of_gt k35.1) d_Mo_copyTo_115 ?_
        refine lv_bipush (v := 8) (pc := 118) hx hb d_Mo_copyTo_118 (by decide) ?_
        refine lv_iload_n (pc := 120) hx hb d_Mo_copyTo_120 rfl (lv_at hl 1 rfl) ?_
        refine lv_imul (pc := 121) hx hb d_Mo_copyTo_121 ?_
        refine lv_iload_n (pc := 122) hx hb d_Mo_copyTo_122 rfl (lv_at hl 3 rfl) ?_
        refine lv_iadd (pc := 123) hx hb d_Mo_copyTo_123 ?_
        obtain ⟨k36, hp⟩ := hp
        refine fm_iald (pc := 124) hC hw k35 k36 rfl d_Mo_copyTo_124 ?_
        obtain ⟨k37, hp⟩ := hp
        refine fm_iast (pc := 125) hC hw k35 k37 rfl d_Mo_copyTo_125 (fun M38 H locs eM38 hw => ?_)
        have hp := hp M38 eM38
        refine lv_aload_n (pc := 126) hx hb d_Mo_copyTo_126 rfl (lv_at hl 0 rfl) ?_
        obtain ⟨k39, hp⟩ := hp
        refine gf_Mo_38 (pc := 127) hC hw f34 (Nat.ne_of_gt k39.1) d_Mo_copyTo_127 ?_
        refine lv_bipush (v := 8) (pc := 130) hx hb d_Mo_copyTo_130 (by decide) ?_
        refine lv_iload_n (pc := 132) hx hb d_Mo_copyTo_132 rfl (lv_at hl 2 rfl) ?_
        refine lv_imul (pc := 133) hx hb d_Mo_copyTo_133 ?_
        refine lv_iload_n (pc := 134) hx hb d_Mo_copyTo_134 rfl (lv_at hl 3 rfl) ?_
        refine lv_iadd (pc := 135) hx hb d_Mo_copyTo_135 ?_
        refine lv_aload_n (pc := 136) hx hb d_Mo_copyTo_136 rfl (lv_at hl 0 rfl) ?_
        refine gf_Mo_38 (pc := 137) hC hw f34 (Nat.ne_of_gt k39.1) d_Mo_copyTo_137 ?_
        refine lv_bipush (v := 8) (pc := 140) hx hb d_Mo_copyTo_140 (by decide) ?_
        refine lv_iload_n (pc := 142) hx hb d_Mo_copyTo_142 rfl (lv_at hl 1 rfl) ?_
        refine lv_imul (pc := 143) hx hb d_Mo_copyTo_143 ?_
        refine lv_iload_n (pc := 144) hx hb d_Mo_copyTo_144 rfl (lv_at hl 3 rfl) ?_
        refine lv_iadd (pc := 145) hx hb d_Mo_copyTo_145 ?_
        obtain ⟨k40, hp⟩ := hp
        refine fm_iald (pc := 146) hC hw k39 k40 rfl d_Mo_copyTo_146 ?_
        obtain ⟨k41, hp⟩ := hp
        refine fm_iast (pc := 147) hC hw k39 k41 rfl d_Mo_copyTo_147 (fun M42 H locs eM42 hw => ?_)
        have hp := hp M42 eM42
        obtain ⟨v43, ev43⟩ : ∃ z : Int32, z = a3 + (1 : Int32) := ⟨_, rfl⟩
        have hp := hp v43 ev43
        refine lv_iinc (pc := 148) (k := 3) (v := v43) hx hb d_Mo_copyTo_148 hl rfl ev43.symm (by decide) rfl (fun ls hl => ?_)
        have hl : lv_has ls 4 [(3, .int v43), (0, .ref (b + a0)), (1, .int a1), (2, .int a2)] := hl
        refine lv_goto (pc := 151) (tgt := 98) hx hb d_Mo_copyTo_151 rfl ?_
        exact ih98  a0 a1 a2 v43 M42 ls _ _ f34 (lv_sub hl [1, 2, 3, 0] rfl) hw hp
  refine lv_aload_n (pc := 0) hx hb d_Mo_copyTo_0 rfl (lv_at hl 0 rfl) ?_
  obtain ⟨k1, hp⟩ := hp
  refine gf_Mo_7 (pc := 1) hC hw k0 (Nat.ne_of_gt k1.1) d_Mo_copyTo_1 ?_
  refine lv_iload_n (pc := 4) hx hb d_Mo_copyTo_4 rfl (lv_at hl 2 rfl) ?_
  refine lv_aload_n (pc := 5) hx hb d_Mo_copyTo_5 rfl (lv_at hl 0 rfl) ?_
  refine gf_Mo_7 (pc := 6) hC hw k0 (Nat.ne_of_gt k1.1) d_Mo_copyTo_6 ?_
  refine lv_iload_n (pc := 9) hx hb d_Mo_copyTo_9 rfl (lv_at hl 1 rfl) ?_
  obtain ⟨k2, hp⟩ := hp
  refine fm_iald (pc := 10) hC hw k1 k2 rfl d_Mo_copyTo_10 ?_
  obtain ⟨k3, hp⟩ := hp
  refine fm_iast (pc := 11) hC hw k1 k3 rfl d_Mo_copyTo_11 (fun M4 H locs eM4 hw => ?_)
  have hp := hp M4 eM4
  refine lv_aload_n (pc := 12) hx hb d_Mo_copyTo_12 rfl (lv_at hl 0 rfl) ?_
  obtain ⟨k5, hp⟩ := hp
  refine gf_Mo_13 (pc := 13) hC hw k0 (Nat.ne_of_gt k5.1) d_Mo_copyTo_13 ?_
  refine lv_iload_n (pc := 16) hx hb d_Mo_copyTo_16 rfl (lv_at hl 2 rfl) ?_
  refine lv_aload_n (pc := 17) hx hb d_Mo_copyTo_17 rfl (lv_at hl 0 rfl) ?_
  refine gf_Mo_13 (pc := 18) hC hw k0 (Nat.ne_of_gt k5.1) d_Mo_copyTo_18 ?_
  refine lv_iload_n (pc := 21) hx hb d_Mo_copyTo_21 rfl (lv_at hl 1 rfl) ?_
  obtain ⟨k6, hp⟩ := hp
  refine fm_iald (pc := 22) hC hw k5 k6 rfl d_Mo_copyTo_22 ?_
  obtain ⟨k7, hp⟩ := hp
  refine fm_iast (pc := 23) hC hw k5 k7 rfl d_Mo_copyTo_23 (fun M8 H locs eM8 hw => ?_)
  have hp := hp M8 eM8
  refine lv_aload_n (pc := 24) hx hb d_Mo_copyTo_24 rfl (lv_at hl 0 rfl) ?_
  obtain ⟨k9, hp⟩ := hp
  refine gf_Mo_16 (pc := 25) hC hw k0 (Nat.ne_of_gt k9.1) d_Mo_copyTo_25 ?_
  refine lv_iload_n (pc := 28) hx hb d_Mo_copyTo_28 rfl (lv_at hl 2 rfl) ?_
  refine lv_aload_n (pc := 29) hx hb d_Mo_copyTo_29 rfl (lv_at hl 0 rfl) ?_
  refine gf_Mo_16 (pc := 30) hC hw k0 (Nat.ne_of_gt k9.1) d_Mo_copyTo_30 ?_
  refine lv_iload_n (pc := 33) hx hb d_Mo_copyTo_33 rfl (lv_at hl 1 rfl) ?_
  obtain ⟨k10, hp⟩ := hp
  refine fm_iald (pc := 34) hC hw k9 k10 rfl d_Mo_copyTo_34 ?_
  obtain ⟨k11, hp⟩ := hp
  refine fm_iast (pc := 35) hC hw k9 k11 rfl d_Mo_copyTo_35 (fun M12 H locs eM12 hw => ?_)
  have hp := hp M12 eM12
  refine lv_aload_n (pc := 36) hx hb d_Mo_copyTo_36 rfl (lv_at hl 0 rfl) ?_
  obtain ⟨k13, hp⟩ := hp
  refine gf_Mo_19 (pc := 37) hC hw k0 (Nat.ne_of_gt k13.1) d_Mo_copyTo_37 ?_
  refine lv_iload_n (pc := 40) hx hb d_Mo_copyTo_40 rfl (lv_at hl 2 rfl) ?_
  refine lv_aload_n (pc := 41) hx hb d_Mo_copyTo_41 rfl (lv_at hl 0 rfl) ?_
  refine gf_Mo_19 (pc := 42) hC hw k0 (Nat.ne_of_gt k13.1) d_Mo_copyTo_42 ?_
  refine lv_iload_n (pc := 45) hx hb d_Mo_copyTo_45 rfl (lv_at hl 1 rfl) ?_
  obtain ⟨k14, hp⟩ := hp
  refine fm_iald (pc := 46) hC hw k13 k14 rfl d_Mo_copyTo_46 ?_
  obtain ⟨k15, hp⟩ := hp
  refine fm_iast (pc := 47) hC hw k13 k15 rfl d_Mo_copyTo_47 (fun M16 H locs eM16 hw => ?_)
  have hp := hp M16 eM16
  refine lv_aload_n (pc := 48) hx hb d_Mo_copyTo_48 rfl (lv_at hl 0 rfl) ?_
  obtain ⟨k17, hp⟩ := hp
  refine gf_Mo_22 (pc := 49) hC hw k0 (Nat.ne_of_gt k17.1) d_Mo_copyTo_49 ?_
  refine lv_iload_n (pc := 52) hx hb d_Mo_copyTo_52 rfl (lv_at hl 2 rfl) ?_
  refine lv_aload_n (pc := 53) hx hb d_Mo_copyTo_53 rfl (lv_at hl 0 rfl) ?_
  refine gf_Mo_22 (pc := 54) hC hw k0 (Nat.ne_of_gt k17.1) d_Mo_copyTo_54 ?_
  refine lv_iload_n (pc := 57) hx hb d_Mo_copyTo_57 rfl (lv_at hl 1 rfl) ?_
  obtain ⟨k18, hp⟩ := hp
  refine fm_zald (pc := 58) hC hw k17 k18 rfl d_Mo_copyTo_58 ?_
  obtain ⟨k19, hp⟩ := hp
  obtain ⟨k20, hp⟩ := hp
  refine fm_zast (pc := 59) hC hw k20 k17 k19 rfl d_Mo_copyTo_59 (fun M21 H locs eM21 hw => ?_)
  have hp := hp M21 eM21
  refine lv_aload_n (pc := 60) hx hb d_Mo_copyTo_60 rfl (lv_at hl 0 rfl) ?_
  obtain ⟨k22, hp⟩ := hp
  refine gf_Mo_26 (pc := 61) hC hw k0 (Nat.ne_of_gt k22.1) d_Mo_copyTo_61 ?_
  refine lv_iload_n (pc := 64) hx hb d_Mo_copyTo_64 rfl (lv_at hl 2 rfl) ?_
  refine lv_aload_n (pc := 65) hx hb d_Mo_copyTo_65 rfl (lv_at hl 0 rfl) ?_
  refine gf_Mo_26 (pc := 66) hC hw k0 (Nat.ne_of_gt k22.1) d_Mo_copyTo_66 ?_
  refine lv_iload_n (pc := 69) hx hb d_Mo_copyTo_69 rfl (lv_at hl 1 rfl) ?_
  obtain ⟨k23, hp⟩ := hp
  refine fm_iald (pc := 70) hC hw k22 k23 rfl d_Mo_copyTo_70 ?_
  obtain ⟨k24, hp⟩ := hp
  refine fm_iast (pc := 71) hC hw k22 k24 rfl d_Mo_copyTo_71 (fun M25 H locs eM25 hw => ?_)
  have hp := hp M25 eM25
  refine lv_aload_n (pc := 72) hx hb d_Mo_copyTo_72 rfl (lv_at hl 0 rfl) ?_
  obtain ⟨k26, hp⟩ := hp
  refine gf_Mo_29 (pc := 73) hC hw k0 (Nat.ne_of_gt k26.1) d_Mo_copyTo_73 ?_
  refine lv_iload_n (pc := 76) hx hb d_Mo_copyTo_76 rfl (lv_at hl 2 rfl) ?_
  refine lv_aload_n (pc := 77) hx hb d_Mo_copyTo_77 rfl (lv_at hl 0 rfl) ?_
  refine gf_Mo_29 (pc := 78) hC hw k0 (Nat.ne_of_gt k26.1) d_Mo_copyTo_78 ?_
  refine lv_iload_n (pc := 81) hx hb d_Mo_copyTo_81 rfl (lv_at hl 1 rfl) ?_
  obtain ⟨k27, hp⟩ := hp
  refine fm_iald (pc := 82) hC hw k26 k27 rfl d_Mo_copyTo_82 ?_
  obtain ⟨k28, hp⟩ := hp
  refine fm_iast (pc := 83) hC hw k26 k28 rfl d_Mo_copyTo_83 (fun M29 H locs eM29 hw => ?_)
  have hp := hp M29 eM29
  refine lv_aload_n (pc := 84) hx hb d_Mo_copyTo_84 rfl (lv_at hl 0 rfl) ?_
  obtain ⟨k30, hp⟩ := hp
  refine gf_Mo_32 (pc := 85) hC hw k0 (Nat.ne_of_gt k30.1) d_Mo_copyTo_85 ?_
  refine lv_iload_n (pc := 88) hx hb d_Mo_copyTo_88 rfl (lv_at hl 2 rfl) ?_
  refine lv_aload_n (pc := 89) hx hb d_Mo_copyTo_89 rfl (lv_at hl 0 rfl) ?_
  refine gf_Mo_32 (pc := 90) hC hw k0 (Nat.ne_of_gt k30.1) d_Mo_copyTo_90 ?_
  refine lv_iload_n (pc := 93) hx hb d_Mo_copyTo_93 rfl (lv_at hl 1 rfl) ?_
  obtain ⟨k31, hp⟩ := hp
  refine fm_iald (pc := 94) hC hw k30 k31 rfl d_Mo_copyTo_94 ?_
  obtain ⟨k32, hp⟩ := hp
  refine fm_iast (pc := 95) hC hw k30 k32 rfl d_Mo_copyTo_95 (fun M33 H locs eM33 hw => ?_)
  have hp := hp M33 eM33
  refine lv_iconst (v := 0) (pc := 96) hx hb d_Mo_copyTo_96 (by decide) ?_
  refine lv_istore_n (pc := 97) hx hb d_Mo_copyTo_97 rfl hl (by decide) rfl (fun ls hl => ?_)
  have hl : lv_has ls 4 [(3, .int (0 : Int32)), (0, .ref (b + h)), (1, .int x1), (2, .int x2)] := hl
  obtain ⟨N98, hp⟩ := hp
  exact L98 N98 h x1 x2 (0 : Int32) M33 ls _ _ k0 (lv_sub hl [1, 2, 3, 0] rfl) hw hp
set_option maxHeartbeats 4000000 in
set_option maxRecDepth 100000 in
theorem c_Mo_drop (l : Launch) (D : va_G) (dA : Nat → ClassId) (b n : Nat) (T : mT) (R : mR) (M : mM) (sz : Nat) (h : Nat) (x1 : Int32) (Q : Int32 → mM → Prop) : Met l y_Mo_drop (Cond.code y_Mo_drop b_Mo_drop 3 (some .boolean) :: tW) ({ frames := 1, cells := 0, slots := 0, locals := 23 }) (Pm D dA b n T R M sz [.ref (b + h), .int x1] (w_Mo_drop n T R M h x1 Q)) (Qzm D dA (An b n) b n T R sz Q) 0 0 (An b n) := by
  refine fm_body (An b n) (by decide) (Nat.le_of_ble_eq_true rfl) (fun k h0 h1 => ⟨by omega, by omega⟩) (fun p e s m below meth c ls hC hr hlk hnm hl hw hp => ?_)
  have hx := hC.1.1
  have hb := hC.1.2.1
  have hl : lv_has ls 3 [(0, .ref (b + h)), (1, .int x1)] := hl
  generalize hav : (List.toArray ([.ref (b + h), .int x1] : List Value)) = av at hC ⊢
  unfold w_Mo_drop at hp
  obtain ⟨k0, hp⟩ := hp
  have L12 : ∀ (N12 : Nat) (a0 : Nat) (a2 : Int32) (M : mM)  (ls : Array Slot) (H : Heap) (locs : List Loc), ok T n a0 11 → lv_has ls 3 [(0, .ref (b + a0)), (2, .int a2)] → St D dA (An b n) b n T R M sz s.heap H locs → w_Mo_drop_L12 n T R Q a0 N12 a2 M → W p l e ({ frames := 1, cells := 0, slots := 0, locals := 23 }) s m av below meth c H locs 0 0 (MQ below (Qzm D dA (An b n) b n T R sz Q) av s 0 0 (An b n)) (F0 m 12 ls []) := by
    intro N12
    induction N12 with
    | zero => intro a0 a2 M ls H locs f3 hl hw hp; exact False.elim hp
    | succ N12 ih12 =>
      intro a0 a2 M ls H locs f3 hl hw hp
      unfold w_Mo_drop_L12 at hp
      refine lv_iload_n (pc := 12) hx hb d_Mo_drop_12 rfl (lv_at hl 1 rfl) ?_
      refine lv_iconst (v := 1) (pc := 13) hx hb d_Mo_drop_13 (by decide) ?_
      refine lv_iadd (pc := 14) hx hb d_Mo_drop_14 ?_
      refine lv_aload_n (pc := 15) hx hb d_Mo_drop_15 rfl (lv_at hl 0 rfl) ?_
      refine gf_Mo_153 (pc := 16) hC hw f3 d_Mo_drop_16 ?_
      refine lv_icmp_ge (pc := 19) (tgt := 36) hx hb d_Mo_drop_19 rfl (fun hc => ?_) (fun hc => ?_)
      · have hp := hp.1 hc
        refine lv_aload_n (pc := 36) hx hb d_Mo_drop_36 rfl (lv_at hl 0 rfl) ?_
        refine lv_dup (pc := 37) hx hb d_Mo_drop_37 rfl ?_
        refine gf_Mo_153 (pc := 38) hC hw f3 d_Mo_drop_38 ?_
        refine lv_iconst (v := 1) (pc := 41) hx hb d_Mo_drop_41 (by decide) ?_
        refine lv_isub (pc := 42) hx hb d_Mo_drop_42 ?_
        refine pf_Mo_153 (pc := 43) hC hw f3 d_Mo_drop_43 (fun M4 H locs eM4 hw => ?_)
        have hp := hp M4 eM4
        refine lv_iconst (v := 1) (pc := 46) hx hb d_Mo_drop_46 (by decide) ?_
        exact ret_zm hC hr hlk hw (Or.inr rfl) hp d_Mo_drop_47
      · have hp := hp.2 hc
        refine lv_aload_n (pc := 22) hx hb d_Mo_drop_22 rfl (lv_at hl 0 rfl) ?_
        refine lv_iload_n (pc := 23) hx hb d_Mo_drop_23 rfl (lv_at hl 1 rfl) ?_
        refine lv_iconst (v := 1) (pc := 24) hx hb d_Mo_drop_24 (by decide) ?_
        refine lv_iadd (pc := 25) hx hb d_Mo_drop_25 ?_
        refine lv_iload_n (pc := 26) hx hb d_Mo_drop_26 rfl (lv_at hl 1 rfl) ?_
        refine call_vm (pc := 27) (fun _ h => h) hw (fm_runV (As := [.int (a2 + (1 : Int32)), .int a2]) (rest := []) hC hw (c_Mo_copyTo l D dA b n T R M sz a0 (a2 + (1 : Int32)) a2 _) cy_Mo_copyTo hp rfl rfl mw_399 mw_400 mw_401 (rfl : classes[11]? = _) (by decide) f3 ⟨Nat.le_of_ble_eq_true rfl, Nat.le_of_ble_eq_true rfl⟩ rfl hl.1 rfl (Nat.le_of_ble_eq_true rfl) d_Mo_drop_27 ⟨(Nat.le_of_ble_eq_true rfl), (Nat.le_of_ble_eq_true rfl)⟩) (fun M5 H locs hp hw => ?_)
        obtain ⟨v6, ev6⟩ : ∃ z : Int32, z = a2 + (1 : Int32) := ⟨_, rfl⟩
        have hp := hp v6 ev6
        refine lv_iinc (pc := 30) (k := 1) (v := v6) hx hb d_Mo_drop_30 hl rfl ev6.symm (by decide) rfl (fun ls hl => ?_)
        have hl : lv_has ls 3 [(2, .int v6), (0, .ref (b + a0))] := hl
        refine lv_goto (pc := 33) (tgt := 12) hx hb d_Mo_drop_33 rfl ?_
        exact ih12  a0 v6 M5 ls _ _ f3 (lv_sub hl [1, 0] rfl) hw hp
  refine lv_aload_n (pc := 0) hx hb d_Mo_drop_0 rfl (lv_at hl 0 rfl) ?_
  refine lv_iload_n (pc := 1) hx hb d_Mo_drop_1 rfl (lv_at hl 1 rfl) ?_
  refine call_zp (pc := 2) (fun _ h => h) hw (fm_runV (As := [.int x1]) (rest := []) hC hw (c_Mo_isRecord l D dA b n T R M sz h x1 _) cy_Mo_isRecord hp rfl rfl mw_396 mw_397 mw_398 (rfl : classes[11]? = _) (by decide) k0 ⟨Nat.le_of_ble_eq_true rfl, Nat.le_of_ble_eq_true rfl⟩ rfl hl.1 rfl (Nat.le_of_ble_eq_true rfl) d_Mo_drop_2 ⟨(Nat.le_of_ble_eq_true rfl), (Nat.le_of_ble_eq_true rfl)⟩) (fun r1 H locs hp z2 hw => ?_)
  refine lv_if_ne (pc := 5) (tgt := 10) hx hb d_Mo_drop_5 rfl (fun hc => ?_) (fun hc => ?_)
  · have hp := hp.2 hc
    refine lv_iload_n (pc := 10) hx hb d_Mo_drop_10 rfl (lv_at hl 1 rfl) ?_
    refine lv_istore_n (pc := 11) hx hb d_Mo_drop_11 rfl hl (by decide) rfl (fun ls hl => ?_)
    have hl : lv_has ls 3 [(2, .int x1), (0, .ref (b + h)), (1, .int x1)] := hl
    obtain ⟨N12, hp⟩ := hp
    exact L12 N12 h x1 M ls _ _ k0 (lv_sub hl [1, 0] rfl) hw hp
  · have hp := hp.1 hc
    refine lv_iconst (v := 0) (pc := 8) hx hb d_Mo_drop_8 (by decide) ?_
    exact ret_zm hC hr hlk hw (Or.inl rfl) hp d_Mo_drop_9
set_option maxHeartbeats 4000000 in
set_option maxRecDepth 100000 in
theorem c_Mo_retry (l : Launch) (D : va_G) (dA : Nat → ClassId) (b n : Nat) (T : mT) (R : mR) (M : mM) (sz : Nat) (h : Nat) (x1 : Int32) (Q : mM → Prop) : Met l y_Mo_retry (Cond.code y_Mo_retry b_Mo_retry 3 none :: tW) ({ frames := 1, cells := 0, slots := 0, locals := 24 }) (Pm D dA b n T R M sz [.ref (b + h), .int x1] (w_Mo_retry n T R M h x1 Q)) (Qvm D dA (An b n) b n T R sz Q) 0 0 (An b n) := by
  refine fm_body (An b n) (by decide) (Nat.le_of_ble_eq_true rfl) (fun k h0 h1 => ⟨by omega, by omega⟩) (fun p e s m below meth c ls hC hr hlk hnm hl hw hp => ?_)
  have hx := hC.1.1
  have hb := hC.1.2.1
  have hl : lv_has ls 3 [(0, .ref (b + h)), (1, .int x1)] := hl
  generalize hav : (List.toArray ([.ref (b + h), .int x1] : List Value)) = av at hC ⊢
  unfold w_Mo_retry at hp
  obtain ⟨k0, hp⟩ := hp
  refine lv_aload_n (pc := 0) hx hb d_Mo_retry_0 rfl (lv_at hl 0 rfl) ?_
  refine lv_iconst (v := 1) (pc := 1) hx hb d_Mo_retry_1 (by decide) ?_
  refine lv_iconst (v := 0) (pc := 2) hx hb d_Mo_retry_2 (by decide) ?_
  refine lv_iconst (v := 0) (pc := 3) hx hb d_Mo_retry_3 (by decide) ?_
  refine lv_iload_n (pc := 4) hx hb d_Mo_retry_4 rfl (lv_at hl 1 rfl) ?_
  refine call_im (pc := 5) (fun _ h => h) hw (fm_runV (As := [.int (1 : Int32), .int (0 : Int32), .int (0 : Int32), .int x1]) (rest := []) hC hw (c_Mo_put l D dA b n T R M sz h (1 : Int32) (0 : Int32) (0 : Int32) x1 _) cy_Mo_put hp rfl rfl mw_372 mw_373 mw_374 (rfl : classes[11]? = _) (by decide) k0 ⟨Nat.le_of_ble_eq_true rfl, Nat.le_of_ble_eq_true rfl⟩ rfl hl.1 rfl (Nat.le_of_ble_eq_true rfl) d_Mo_retry_5 ⟨(Nat.le_of_ble_eq_true rfl), (Nat.le_of_ble_eq_true rfl)⟩) (fun r1 M2 H locs hp hw => ?_)
  refine lv_istore_n (pc := 8) hx hb d_Mo_retry_8 rfl hl (by decide) rfl (fun ls hl => ?_)
  have hl : lv_has ls 3 [(2, .int r1), (0, .ref (b + h)), (1, .int x1)] := hl
  refine lv_iload_n (pc := 9) hx hb d_Mo_retry_9 rfl (lv_at hl 0 rfl) ?_
  refine lv_if_ge (pc := 10) (tgt := 14) hx hb d_Mo_retry_10 rfl (fun hc => ?_) (fun hc => ?_)
  · have hp := hp.1 hc
    refine lv_aload_n (pc := 14) hx hb d_Mo_retry_14 rfl (lv_at hl 1 rfl) ?_
    obtain ⟨k3, hp⟩ := hp
    refine gf_Mo_26 (pc := 15) hC hw k0 (Nat.ne_of_gt k3.1) d_Mo_retry_15 ?_
    refine lv_iload_n (pc := 18) hx hb d_Mo_retry_18 rfl (lv_at hl 0 rfl) ?_
    refine lv_iconst (v := 1) (pc := 19) hx hb d_Mo_retry_19 (by decide) ?_
    obtain ⟨k4, hp⟩ := hp
    refine fm_iast (pc := 20) hC hw k3 k4 rfl d_Mo_retry_20 (fun M5 H locs eM5 hw => ?_)
    have hp := hp M5 eM5
    refine lv_aload_n (pc := 21) hx hb d_Mo_retry_21 rfl (lv_at hl 1 rfl) ?_
    obtain ⟨k6, hp⟩ := hp
    refine gf_Mo_32 (pc := 22) hC hw k0 (Nat.ne_of_gt k6.1) d_Mo_retry_22 ?_
    refine lv_iload_n (pc := 25) hx hb d_Mo_retry_25 rfl (lv_at hl 0 rfl) ?_
    refine lv_iconst (v := 4) (pc := 26) hx hb d_Mo_retry_26 (by decide) ?_
    obtain ⟨k7, hp⟩ := hp
    refine fm_iast (pc := 27) hC hw k6 k7 rfl d_Mo_retry_27 (fun M8 H locs eM8 hw => ?_)
    have hp := hp M8 eM8
    exact ret_vm hC hr hlk hw hp d_Mo_retry_28
  · have hp := hp.2 hc
    exact ret_vm hC hr hlk hw hp d_Mo_retry_13
set_option maxHeartbeats 4000000 in
set_option maxRecDepth 100000 in
theorem c_Mo_let (l : Launch) (D : va_G) (dA : Nat → ClassId) (b n : Nat) (T : mT) (R : mR) (M : mM) (sz : Nat) (h : Nat) (x1 : Int32) (x2 : Int32) (x3 : Int32) (Q : mM → Prop) : Met l y_Mo_let (Cond.code y_Mo_let b_Mo_let 5 none :: tW) ({ frames := 0, cells := 0, slots := 0, locals := 0 }) (Pm D dA b n T R M sz [.ref (b + h), .int x1, .int x2, .int x3] (w_Mo_let n T R M h x1 x2 x3 Q)) (Qvm D dA (An b n) b n T R sz Q) 0 0 (An b n) := by
  refine fm_body (An b n) (by decide) (Nat.le_of_ble_eq_true rfl) (fun k h0 h1 => ⟨by omega, by omega⟩) (fun p e s m below meth c ls hC hr hlk hnm hl hw hp => ?_)
  have hx := hC.1.1
  have hb := hC.1.2.1
  have hl : lv_has ls 5 [(0, .ref (b + h)), (1, .int x1), (2, .int x2), (3, .int x3)] := hl
  generalize hav : (List.toArray ([.ref (b + h), .int x1, .int x2, .int x3] : List Value)) = av at hC ⊢
  unfold w_Mo_let at hp
  obtain ⟨k0, hp⟩ := hp
  have B35 : ∀ (a0 : Nat) (a3 : Int32) (a4 : Int32) (s0 : Nat) (s1 : Int32) (s2 : Int32) (M : mM)  (ls : Array Slot) (H : Heap) (locs : List Loc), ok T n a0 11 → ok T n s0 100 → lv_has ls 5 [(0, .ref (b + a0)), (3, .int a3), (4, .int a4)] → St D dA (An b n) b n T R M sz s.heap H locs → w_Mo_let_B35 n T R Q a0 a3 a4 s0 s1 s2 M → W p l e ({ frames := 0, cells := 0, slots := 0, locals := 0 }) s m av below meth c H locs 0 0 (MQ below (Qvm D dA (An b n) b n T R sz Q) av s 0 0 (An b n)) (F0 m 35 ls [.int s2, .int s1, .ref (b + s0)]) := by
    intro a0 a3 a4 s0 s1 s2 M ls H locs f5 f6 hl hw hp
    unfold w_Mo_let_B35 at hp
    obtain ⟨k7, hp⟩ := hp
    refine fm_iast (pc := 35) hC hw f6 k7 rfl d_Mo_let_35 (fun M8 H locs eM8 hw => ?_)
    have hp := hp M8 eM8
    refine lv_aload_n (pc := 36) hx hb d_Mo_let_36 rfl (lv_at hl 0 rfl) ?_
    obtain ⟨k9, hp⟩ := hp
    refine gf_Mo_53 (pc := 37) hC hw f5 (Nat.ne_of_gt k9.1) d_Mo_let_37 ?_
    refine lv_bipush (v := 16) (pc := 40) hx hb d_Mo_let_40 (by decide) ?_
    refine lv_iload (pc := 42) hx hb d_Mo_let_42 (lv_at hl 2 rfl) ?_
    refine lv_imul (pc := 44) hx hb d_Mo_let_44 ?_
    refine lv_iload_n (pc := 45) hx hb d_Mo_let_45 rfl (lv_at hl 1 rfl) ?_
    refine lv_bipush (v := 16) (pc := 46) hx hb d_Mo_let_46 (by decide) ?_
    refine lv_irem (pc := 48) hx hb d_Mo_let_48 (by decide) ?_
    refine lv_iadd (pc := 49) hx hb d_Mo_let_49 ?_
    refine lv_iload_n (pc := 50) hx hb d_Mo_let_50 rfl (lv_at hl 1 rfl) ?_
    obtain ⟨k10, hp⟩ := hp
    refine fm_iast (pc := 51) hC hw k9 k10 rfl d_Mo_let_51 (fun M11 H locs eM11 hw => ?_)
    have hp := hp M11 eM11
    exact ret_vm hC hr hlk hw hp d_Mo_let_52
  refine lv_iconst (v := 4) (pc := 0) hx hb d_Mo_let_0 (by decide) ?_
  refine lv_iload_n (pc := 1) hx hb d_Mo_let_1 rfl (lv_at hl 1 rfl) ?_
  refine lv_imul (pc := 2) hx hb d_Mo_let_2 ?_
  refine lv_iload_n (pc := 3) hx hb d_Mo_let_3 rfl (lv_at hl 2 rfl) ?_
  refine lv_iadd (pc := 4) hx hb d_Mo_let_4 ?_
  refine lv_topi (fun v1 ev1 => ?_)
  have hp := hp v1 ev1
  refine lv_istore (pc := 5) hx hb d_Mo_let_5 hl (by decide) rfl (fun ls hl => ?_)
  have hl : lv_has ls 5 [(4, .int v1), (0, .ref (b + h)), (1, .int x1), (2, .int x2), (3, .int x3)] := hl
  refine lv_aload_n (pc := 7) hx hb d_Mo_let_7 rfl (lv_at hl 1 rfl) ?_
  obtain ⟨k2, hp⟩ := hp
  refine gf_Mo_50 (pc := 8) hC hw k0 (Nat.ne_of_gt k2.1) d_Mo_let_8 ?_
  refine lv_iload (pc := 11) hx hb d_Mo_let_11 (lv_at hl 0 rfl) ?_
  refine lv_iload_n (pc := 13) hx hb d_Mo_let_13 rfl (lv_at hl 4 rfl) ?_
  refine lv_aload_n (pc := 14) hx hb d_Mo_let_14 rfl (lv_at hl 1 rfl) ?_
  refine gf_Mo_50 (pc := 15) hC hw k0 (Nat.ne_of_gt k2.1) d_Mo_let_15 ?_
  refine lv_iload (pc := 18) hx hb d_Mo_let_18 (lv_at hl 0 rfl) ?_
  obtain ⟨k3, hp⟩ := hp
  refine fm_iald (pc := 20) hC hw k2 k3 rfl d_Mo_let_20 ?_
  refine lv_icmp_le (pc := 21) (tgt := 28) hx hb d_Mo_let_21 rfl (fun hc => ?_) (fun hc => ?_)
  · have hp := hp.1 hc
    refine lv_aload_n (pc := 28) hx hb d_Mo_let_28 rfl (lv_at hl 1 rfl) ?_
    refine gf_Mo_50 (pc := 29) hC hw k0 (Nat.ne_of_gt k2.1) d_Mo_let_29 ?_
    refine lv_iload (pc := 32) hx hb d_Mo_let_32 (lv_at hl 0 rfl) ?_
    obtain ⟨k4, hp⟩ := hp
    refine fm_iald (pc := 34) hC hw k2 k4 rfl d_Mo_let_34 ?_
    exact B35  h x3 v1 (R h 24) v1 (M (R h 24) v1.toNatClampNeg) M ls _ _ k0 k2 (lv_sub hl [1, 4, 0] rfl) hw hp
  · have hp := hp.2 hc
    refine lv_iload_n (pc := 24) hx hb d_Mo_let_24 rfl (lv_at hl 4 rfl) ?_
    refine lv_goto (pc := 25) (tgt := 35) hx hb d_Mo_let_25 rfl ?_
    exact B35  h x3 v1 (R h 24) v1 x3 M ls _ _ k0 k2 (lv_sub hl [1, 4, 0] rfl) hw hp
set_option maxHeartbeats 4000000 in
set_option maxRecDepth 100000 in
theorem c_Mo_welcome (l : Launch) (D : va_G) (dA : Nat → ClassId) (b n : Nat) (T : mT) (R : mR) (M : mM) (sz : Nat) (h : Nat) (x1 : Int32) (x2 : Int32) (Q : Int32 → mM → Prop) : Met l y_Mo_welcome (Cond.code y_Mo_welcome b_Mo_welcome 3 (some .boolean) :: tW) ({ frames := 3, cells := 0, slots := 0, locals := 77 }) (Pm D dA b n T R M sz [.ref (b + h), .int x1, .int x2] (w_Mo_welcome n T R M h x1 x2 Q)) (Qzm D dA (An b n) b n T R sz Q) 0 0 (An b n) := by
  refine fm_body (An b n) (by decide) (Nat.le_of_ble_eq_true rfl) (fun k h0 h1 => ⟨by omega, by omega⟩) (fun p e s m below meth c ls hC hr hlk hnm hl hw hp => ?_)
  have hx := hC.1.1
  have hb := hC.1.2.1
  have hl : lv_has ls 3 [(0, .ref (b + h)), (1, .int x1), (2, .int x2)] := hl
  generalize hav : (List.toArray ([.ref (b + h), .int x1, .int x2] : List Value)) = av at hC ⊢
  unfold w_Mo_welcome at hp
  obtain ⟨k0, hp⟩ := hp
  have B9 : ∀ (a0 : Nat) (a1 : Int32) (a2 : Int32) (M : mM)  (ls : Array Slot) (H : Heap) (locs : List Loc), ok T n a0 11 → lv_has ls 3 [(0, .ref (b + a0)), (1, .int a1), (2, .int a2)] → St D dA (An b n) b n T R M sz s.heap H locs → w_Mo_welcome_B9 n T R Q a0 a1 a2 M → W p l e ({ frames := 3, cells := 0, slots := 0, locals := 77 }) s m av below meth c H locs 0 0 (MQ below (Qzm D dA (An b n) b n T R sz Q) av s 0 0 (An b n)) (F0 m 9 ls []) := by
    intro a0 a1 a2 M ls H locs f2 hl hw hp
    unfold w_Mo_welcome_B9 at hp
    refine lv_iload_n (pc := 9) hx hb d_Mo_welcome_9 rfl (lv_at hl 1 rfl) ?_
    refine lv_iconst (v := 2) (pc := 10) hx hb d_Mo_welcome_10 (by decide) ?_
    refine lv_icmp_eq (pc := 11) (tgt := 16) hx hb d_Mo_welcome_11 rfl (fun hc => ?_) (fun hc => ?_)
    · have hp := hp.1 hc
      refine lv_aload_n (pc := 16) hx hb d_Mo_welcome_16 rfl (lv_at hl 0 rfl) ?_
      refine lv_iconst (v := 1) (pc := 17) hx hb d_Mo_welcome_17 (by decide) ?_
      refine lv_iconst (v := 0) (pc := 18) hx hb d_Mo_welcome_18 (by decide) ?_
      refine lv_iload_n (pc := 19) hx hb d_Mo_welcome_19 rfl (lv_at hl 2 rfl) ?_
      refine call_vm (pc := 20) (fun _ h => h) hw (fm_runV (As := [.int (1 : Int32), .int (0 : Int32), .int a2]) (rest := []) hC hw (c_Mo_let l D dA b n T R M sz a0 (1 : Int32) (0 : Int32) a2 _) cy_Mo_let hp rfl rfl mw_405 mw_406 mw_407 (rfl : classes[11]? = _) (by decide) f2 ⟨Nat.le_of_ble_eq_true rfl, Nat.le_of_ble_eq_true rfl⟩ rfl hl.1 rfl (Nat.le_of_ble_eq_true rfl) d_Mo_welcome_20 ⟨(Nat.le_of_ble_eq_true rfl), (Nat.le_of_ble_eq_true rfl)⟩) (fun M3 H locs hp hw => ?_)
      refine lv_aload_n (pc := 23) hx hb d_Mo_welcome_23 rfl (lv_at hl 0 rfl) ?_
      obtain ⟨k4, hp⟩ := hp
      refine gf_Mo_47 (pc := 24) hC hw f2 (Nat.ne_of_gt k4.1) d_Mo_welcome_24 ?_
      refine lv_iconst (v := 4) (pc := 27) hx hb d_Mo_welcome_27 (by decide) ?_
      refine lv_iload_n (pc := 28) hx hb d_Mo_welcome_28 rfl (lv_at hl 2 rfl) ?_
      obtain ⟨k5, hp⟩ := hp
      refine fm_iast (pc := 29) hC hw k4 k5 (show Int32.toNatClampNeg (4 : Int32) = 4 by decide) d_Mo_welcome_29 (fun M6 H locs eM6 hw => ?_)
      have hp := hp M6 eM6
      refine lv_aload_n (pc := 30) hx hb d_Mo_welcome_30 rfl (lv_at hl 0 rfl) ?_
      obtain ⟨k7, hp⟩ := hp
      refine gf_Mo_44 (pc := 31) hC hw f2 (Nat.ne_of_gt k7.1) d_Mo_welcome_31 ?_
      refine lv_iconst (v := 1) (pc := 34) hx hb d_Mo_welcome_34 (by decide) ?_
      refine lv_bipush (v := 7) (pc := 35) hx hb d_Mo_welcome_35 (by decide) ?_
      obtain ⟨k8, hp⟩ := hp
      refine fm_iast (pc := 37) hC hw k7 k8 (show Int32.toNatClampNeg (1 : Int32) = 1 by decide) d_Mo_welcome_37 (fun M9 H locs eM9 hw => ?_)
      have hp := hp M9 eM9
      refine lv_aload_n (pc := 38) hx hb d_Mo_welcome_38 rfl (lv_at hl 0 rfl) ?_
      refine lv_iconst (v := 1) (pc := 39) hx hb d_Mo_welcome_39 (by decide) ?_
      refine lv_iconst (v := 1) (pc := 40) hx hb d_Mo_welcome_40 (by decide) ?_
      refine call_vm (pc := 41) (fun _ h => h) hw (fm_runV (As := [.int (1 : Int32), .int (1 : Int32)]) (rest := []) hC hw (c_Mo_become l D dA b n T R M9 sz a0 (1 : Int32) (1 : Int32) _) cy_Mo_become hp rfl rfl mw_378 mw_379 mw_380 (rfl : classes[11]? = _) (by decide) f2 ⟨Nat.le_of_ble_eq_true rfl, Nat.le_of_ble_eq_true rfl⟩ rfl hl.1 rfl (Nat.le_of_ble_eq_true rfl) d_Mo_welcome_41 ⟨(Nat.le_of_ble_eq_true rfl), (Nat.le_of_ble_eq_true rfl)⟩) (fun M10 H locs hp hw => ?_)
      refine lv_aload_n (pc := 44) hx hb d_Mo_welcome_44 rfl (lv_at hl 0 rfl) ?_
      refine lv_iconst (v := 1) (pc := 45) hx hb d_Mo_welcome_45 (by decide) ?_
      refine lv_iconst (v := 3) (pc := 46) hx hb d_Mo_welcome_46 (by decide) ?_
      refine lv_bipush (v := 6) (pc := 47) hx hb d_Mo_welcome_47 (by decide) ?_
      refine call_vm (pc := 49) (fun _ h => h) hw (fm_runV (As := [.int (1 : Int32), .int (3 : Int32), .int (6 : Int32)]) (rest := []) hC hw (c_Mo_fly l D dA b n T R M10 sz a0 (1 : Int32) (3 : Int32) (6 : Int32) _) cy_Mo_fly hp rfl rfl mw_381 mw_382 mw_383 (rfl : classes[11]? = _) (by decide) f2 ⟨Nat.le_of_ble_eq_true rfl, Nat.le_of_ble_eq_true rfl⟩ rfl hl.1 rfl (Nat.le_of_ble_eq_true rfl) d_Mo_welcome_49 ⟨(Nat.le_of_ble_eq_true rfl), (Nat.le_of_ble_eq_true rfl)⟩) (fun M11 H locs hp hw => ?_)
      refine lv_iconst (v := 1) (pc := 52) hx hb d_Mo_welcome_52 (by decide) ?_
      exact ret_zm hC hr hlk hw (Or.inr rfl) hp d_Mo_welcome_53
    · have hp := hp.2 hc
      refine lv_iconst (v := 0) (pc := 14) hx hb d_Mo_welcome_14 (by decide) ?_
      exact ret_zm hC hr hlk hw (Or.inl rfl) hp d_Mo_welcome_15
  refine lv_iload_n (pc := 0) hx hb d_Mo_welcome_0 rfl (lv_at hl 1 rfl) ?_
  refine lv_if_ne (pc := 1) (tgt := 9) hx hb d_Mo_welcome_1 rfl (fun hc => ?_) (fun hc => ?_)
  · have hp := hp.2 hc
    exact B9  h x1 x2 M ls _ _ k0 (lv_sub hl [0, 1, 2] rfl) hw hp
  · have hp := hp.1 hc
    refine lv_aload_n (pc := 4) hx hb d_Mo_welcome_4 rfl (lv_at hl 0 rfl) ?_
    refine lv_iload_n (pc := 5) hx hb d_Mo_welcome_5 rfl (lv_at hl 2 rfl) ?_
    refine call_vm (pc := 6) (fun _ h => h) hw (fm_runV (As := [.int x2]) (rest := []) hC hw (c_Mo_retry l D dA b n T R M sz h x2 _) cy_Mo_retry hp rfl rfl mw_402 mw_403 mw_404 (rfl : classes[11]? = _) (by decide) k0 ⟨Nat.le_of_ble_eq_true rfl, Nat.le_of_ble_eq_true rfl⟩ rfl hl.1 rfl (Nat.le_of_ble_eq_true rfl) d_Mo_welcome_6 ⟨(Nat.le_of_ble_eq_true rfl), (Nat.le_of_ble_eq_true rfl)⟩) (fun M1 H locs hp hw => ?_)
    exact B9  h x1 x2 M1 ls _ _ k0 (lv_sub hl [0, 1, 2] rfl) hw hp
