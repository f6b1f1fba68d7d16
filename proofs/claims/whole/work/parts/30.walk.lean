set_option maxHeartbeats 4000000 in
set_option maxRecDepth 100000 in
theorem c_Asm_init (l : Launch) (D : va_G) (dA : Nat → ClassId) (b n : Nat) (T : mT) (R : mR) (M : mM) (h : Nat) (x1 : Int32) (Q : Nat → mT → mR → mM → Prop) : Met l y_Asm_init (Cond.code y_Asm_init b_Asm_init 3 none :: tW) ({ frames := 1, cells := 2, slots := 70, locals := 12 }) (Pm D dA b n T R M (b + n + 1) [.ref (b + h), .int x1] (w_Asm_init n T R M h x1 Q)) (Qva D dA b  Q) 2 70 (Ab b) := by
  refine fm_body (Ab b) (by decide) (Nat.le_of_ble_eq_true rfl) (fun k h0 _ => show b < b + k by omega) (fun p e s m below meth c ls hC hr hlk hnm hl hw hp => ?_)
  have hx := hC.1.1
  have hb := hC.1.2.1
  have hl : lv_has ls 3 [(0, .ref (b + h)), (1, .int x1)] := hl
  generalize hav : (List.toArray ([.ref (b + h), .int x1] : List Value)) = av at hC ⊢
  unfold w_Asm_init at hp
  obtain ⟨k0, hp⟩ := hp
  have L81 : ∀ (N81 : Nat) (a0 : Nat) (a2 : Int32) (n : Nat) (T : mT) (R : mR) (M : mM)  (ls : Array Slot) (H : Heap) (locs : List Loc), ok T n a0 7 → lv_has ls 3 [(0, .ref (b + a0)), (2, .int a2)] → St D dA (Ab b) b n T R M (b + n + 1) s.heap H locs → w_Asm_init_L81 Q a0 N81 a2 n T R M → W p l e ({ frames := 1, cells := 2, slots := 70, locals := 12 }) s m av below meth c H locs 2 70 (MQ below (Qva D dA b  Q) av s 2 70 (Ab b)) (F0 m 81 ls []) := by
    intro N81
    induction N81 with
    | zero => intro a0 a2 n T R M ls H locs f26 hl hw hp; exact False.elim hp
    | succ N81 ih81 =>
      intro a0 a2 n T R M ls H locs f26 hl hw hp
      unfold w_Asm_init_L81 at hp
      refine lv_iload_n (pc := 81) hx hb d_Asm_init_81 rfl (lv_at hl 1 rfl) ?_
      refine lv_aload_n (pc := 82) hx hb d_Asm_init_82 rfl (lv_at hl 0 rfl) ?_
      obtain ⟨k27, hp⟩ := hp
      refine gf_Asm_19 (pc := 83) hC hw f26 (Nat.ne_of_gt k27.1) d_Asm_init_83 ?_
      refine fm_alen (pc := 86) (t0 := 0) hC hw k27 rfl (by decide) d_Asm_init_86 ?_
      refine lv_icmp_ge (pc := 87) (tgt := 103) hx hb d_Asm_init_87 rfl (fun hc => ?_) (fun hc => ?_)
      · have hp := hp.1 hc
        refine W.widen (k := 2) (n := 70) (by decide) (by decide) ?_
        exact ret_va hC hr hlk hw hp d_Asm_init_103
      · have hp := hp.2 hc
        refine lv_aload_n (pc := 90) hx hb d_Asm_init_90 rfl (lv_at hl 0 rfl) ?_
        refine gf_Asm_19 (pc := 91) hC hw f26 (Nat.ne_of_gt k27.1) d_Asm_init_91 ?_
        refine lv_iload_n (pc := 94) hx hb d_Asm_init_94 rfl (lv_at hl 1 rfl) ?_
        refine lv_iconst (v := -1) (pc := 95) hx hb d_Asm_init_95 (by decide) ?_
        obtain ⟨k28, hp⟩ := hp
        refine fm_iast (pc := 96) hC hw k27 k28 rfl d_Asm_init_96 (fun M29 H locs eM29 hw => ?_)
        have hp := hp M29 eM29
        obtain ⟨v30, ev30⟩ : ∃ z : Int32, z = a2 + (1 : Int32) := ⟨_, rfl⟩
        have hp := hp v30 ev30
        refine lv_iinc (pc := 97) (k := 1) (v := v30) hx hb d_Asm_init_97 hl rfl ev30.symm (by decide) rfl (fun ls hl => ?_)
        have hl : lv_has ls 3 [(2, .int v30), (0, .ref (b + a0))] := hl
        refine lv_goto (pc := 100) (tgt := 81) hx hb d_Asm_init_100 rfl ?_
        exact ih81  a0 v30 n T R M29 ls _ _ f26 (lv_sub hl [1, 0] rfl) hw hp
  refine lv_aload_n (pc := 0) hx hb d_Asm_init_0 rfl (lv_at hl 0 rfl) ?_
  refine W.objInit hx hb hC.1.2.2.2.1 (hC.1.2.2.2.2 _ mw_0) (hC.1.2.2.2.2 _ mw_1) (hC.1.2.2.2.2 _ mw_2) rfl (hl.1.trans hC.1.2.2.1.symm) rfl d_Asm_init_1 (Nat.le_of_ble_eq_true rfl) (Nat.le_of_ble_eq_true rfl) ?_
  refine W.eq (g2 := F0 m 4 ls []) rfl ?_
  refine lv_aload_n (pc := 4) hx hb d_Asm_init_4 rfl (lv_at hl 0 rfl) ?_
  refine lv_bipush (v := 6) (pc := 5) hx hb d_Asm_init_5 (by decide) ?_
  refine fm_newi (pc := 7) (N' := 6) hC hw mw_3 (by decide) (by decide) (by decide) (Nat.le_of_ble_eq_true rfl) (Nat.le_of_ble_eq_true rfl) d_Asm_init_7 (fun T1 R2 M3 H eT1 eR2 eM3 hw => ?_)
  have hp := hp T1 R2 M3 eT1 eR2 eM3
  have k0 := (ok_push eT1 k0 : _)
  have k4 := ok_new eT1
  refine W.widen (k := 1) (n := 6) (Nat.le_of_ble_eq_true rfl) (Nat.le_of_ble_eq_true rfl) ?_
  refine pf_Asm_9 (pc := 9) hC hw k0 hnm (Nat.ne_of_gt k4.1) d_Asm_init_9 (fun R5 H locs eR5 hw => ?_)
  have hp := hp R5 eR5
  refine lv_aload_n (pc := 12) hx hb d_Asm_init_12 rfl (lv_at hl 0 rfl) ?_
  refine lv_iconst (v := 1) (pc := 13) hx hb d_Asm_init_13 (by decide) ?_
  refine pf_Asm_15 (pc := 14) hC hw k0 d_Asm_init_14 (fun M6 H locs eM6 hw => ?_)
  have hp := hp M6 eM6
  refine lv_aload_n (pc := 17) hx hb d_Asm_init_17 rfl (lv_at hl 0 rfl) ?_
  obtain ⟨k7, hp⟩ := hp
  refine gf_Asm_9 (pc := 18) hC hw k0 (Nat.ne_of_gt k7.1) d_Asm_init_18 ?_
  refine lv_iconst (v := 2) (pc := 21) hx hb d_Asm_init_21 (by decide) ?_
  refine lv_iconst (v := 4) (pc := 22) hx hb d_Asm_init_22 (by decide) ?_
  obtain ⟨k8, hp⟩ := hp
  refine fm_iast (pc := 23) hC hw k7 k8 (show Int32.toNatClampNeg (2 : Int32) = 2 by decide) d_Asm_init_23 (fun M9 H locs eM9 hw => ?_)
  have hp := hp M9 eM9
  refine lv_aload_n (pc := 24) hx hb d_Asm_init_24 rfl (lv_at hl 0 rfl) ?_
  refine gf_Asm_9 (pc := 25) hC hw k0 (Nat.ne_of_gt k7.1) d_Asm_init_25 ?_
  refine lv_iconst (v := 3) (pc := 28) hx hb d_Asm_init_28 (by decide) ?_
  refine lv_aload_n (pc := 29) hx hb d_Asm_init_29 rfl (lv_at hl 0 rfl) ?_
  refine gf_Asm_9 (pc := 30) hC hw k0 (Nat.ne_of_gt k7.1) d_Asm_init_30 ?_
  refine lv_iconst (v := 2) (pc := 33) hx hb d_Asm_init_33 (by decide) ?_
  obtain ⟨k10, hp⟩ := hp
  refine fm_iald (pc := 34) hC hw k7 k10 (show Int32.toNatClampNeg (2 : Int32) = 2 by decide) d_Asm_init_34 ?_
  refine lv_bipush (v := 6) (pc := 35) hx hb d_Asm_init_35 (by decide) ?_
  refine lv_iadd (pc := 37) hx hb d_Asm_init_37 ?_
  obtain ⟨k11, hp⟩ := hp
  refine fm_iast (pc := 38) hC hw k7 k11 (show Int32.toNatClampNeg (3 : Int32) = 3 by decide) d_Asm_init_38 (fun M12 H locs eM12 hw => ?_)
  have hp := hp M12 eM12
  refine lv_aload_n (pc := 39) hx hb d_Asm_init_39 rfl (lv_at hl 0 rfl) ?_
  refine gf_Asm_9 (pc := 40) hC hw k0 (Nat.ne_of_gt k7.1) d_Asm_init_40 ?_
  refine lv_iconst (v := 4) (pc := 43) hx hb d_Asm_init_43 (by decide) ?_
  refine lv_aload_n (pc := 44) hx hb d_Asm_init_44 rfl (lv_at hl 0 rfl) ?_
  refine gf_Asm_9 (pc := 45) hC hw k0 (Nat.ne_of_gt k7.1) d_Asm_init_45 ?_
  refine lv_iconst (v := 3) (pc := 48) hx hb d_Asm_init_48 (by decide) ?_
  obtain ⟨k13, hp⟩ := hp
  refine fm_iald (pc := 49) hC hw k7 k13 (show Int32.toNatClampNeg (3 : Int32) = 3 by decide) d_Asm_init_49 ?_
  refine lv_iload_n (pc := 50) hx hb d_Asm_init_50 rfl (lv_at hl 1 rfl) ?_
  refine lv_iadd (pc := 51) hx hb d_Asm_init_51 ?_
  obtain ⟨k14, hp⟩ := hp
  refine fm_iast (pc := 52) hC hw k7 k14 (show Int32.toNatClampNeg (4 : Int32) = 4 by decide) d_Asm_init_52 (fun M15 H locs eM15 hw => ?_)
  have hp := hp M15 eM15
  refine lv_aload_n (pc := 53) hx hb d_Asm_init_53 rfl (lv_at hl 0 rfl) ?_
  refine gf_Asm_9 (pc := 54) hC hw k0 (Nat.ne_of_gt k7.1) d_Asm_init_54 ?_
  refine lv_iconst (v := 5) (pc := 57) hx hb d_Asm_init_57 (by decide) ?_
  refine lv_aload_n (pc := 58) hx hb d_Asm_init_58 rfl (lv_at hl 0 rfl) ?_
  refine gf_Asm_9 (pc := 59) hC hw k0 (Nat.ne_of_gt k7.1) d_Asm_init_59 ?_
  refine lv_iconst (v := 4) (pc := 62) hx hb d_Asm_init_62 (by decide) ?_
  obtain ⟨k16, hp⟩ := hp
  refine fm_iald (pc := 63) hC hw k7 k16 (show Int32.toNatClampNeg (4 : Int32) = 4 by decide) d_Asm_init_63 ?_
  refine lv_iconst (v := 4) (pc := 64) hx hb d_Asm_init_64 (by decide) ?_
  refine lv_iadd (pc := 65) hx hb d_Asm_init_65 ?_
  obtain ⟨k17, hp⟩ := hp
  refine fm_iast (pc := 66) hC hw k7 k17 (show Int32.toNatClampNeg (5 : Int32) = 5 by decide) d_Asm_init_66 (fun M18 H locs eM18 hw => ?_)
  have hp := hp M18 eM18
  refine lv_aload_n (pc := 67) hx hb d_Asm_init_67 rfl (lv_at hl 0 rfl) ?_
  refine lv_aload_n (pc := 68) hx hb d_Asm_init_68 rfl (lv_at hl 0 rfl) ?_
  refine gf_Asm_9 (pc := 69) hC hw k0 (Nat.ne_of_gt k7.1) d_Asm_init_69 ?_
  refine lv_iconst (v := 5) (pc := 72) hx hb d_Asm_init_72 (by decide) ?_
  obtain ⟨k19, hp⟩ := hp
  refine fm_iald (pc := 73) hC hw k7 k19 (show Int32.toNatClampNeg (5 : Int32) = 5 by decide) d_Asm_init_73 ?_
  obtain ⟨k23, hp⟩ := hp
  refine fm_newi (pc := 74) (N' := (M18 (R5 h 0) 5).toNatClampNeg) hC hw mw_3 k23.1 rfl (by have := k23.2; omega) (Nat.le_of_ble_eq_true rfl) (Nat.le_trans (Nat.add_le_add_left k23.2 _) (Nat.le_of_ble_eq_true rfl)) d_Asm_init_74 (fun T20 R21 M22 H eT20 eR21 eM22 hw => ?_)
  have hp := hp T20 R21 M22 eT20 eR21 eM22
  have k0 := (ok_push eT20 k0 : _)
  have k4 := (ok_push eT20 k4 : _)
  have k7 := (ok_push eT20 k7 : _)
  have k24 := ok_new eT20
  refine W.widen (k := 2) (n := 70) (Nat.le_refl _) (by have := k23.2; omega) ?_
  refine pf_Asm_19 (pc := 76) hC hw k0 hnm (Nat.ne_of_gt k24.1) d_Asm_init_76 (fun R25 H locs eR25 hw => ?_)
  have hp := hp R25 eR25
  refine lv_iconst (v := 0) (pc := 79) hx hb d_Asm_init_79 (by decide) ?_
  refine lv_istore_n (pc := 80) hx hb d_Asm_init_80 rfl hl (by decide) rfl (fun ls hl => ?_)
  have hl : lv_has ls 3 [(2, .int (0 : Int32)), (0, .ref (b + h)), (1, .int x1)] := hl
  obtain ⟨N81, hp⟩ := hp
  exact L81 N81 h (0 : Int32) ((n + 1) + 1) T20 R25 M22 ls _ _ k0 (lv_sub hl [1, 0] rfl) hw hp
set_option maxHeartbeats 4000000 in
set_option maxRecDepth 100000 in
theorem c_Asm_startOf (l : Launch) (D : va_G) (dA : Nat → ClassId) (b n : Nat) (T : mT) (R : mR) (M : mM) (sz : Nat) (h : Nat) (x1 : Int32) (Q : Int32 → Prop) : Met l y_Asm_startOf (Cond.code y_Asm_startOf b_Asm_startOf 2 (some .int) :: tW) ({ frames := 0, cells := 0, slots := 0, locals := 0 }) (Pm D dA b n T R M sz [.ref (b + h), .int x1] (w_Asm_startOf n T R M h x1 Q)) (Qip D dA (An b n) b n T R M sz Q) 0 0 (An b n) := by
  refine fm_body (An b n) (by decide) (Nat.le_of_ble_eq_true rfl) (fun k h0 h1 => ⟨by omega, by omega⟩) (fun p e s m below meth c ls hC hr hlk hnm hl hw hp => ?_)
  have hx := hC.1.1
  have hb := hC.1.2.1
  have hl : lv_has ls 2 [(0, .ref (b + h)), (1, .int x1)] := hl
  generalize hav : (List.toArray ([.ref (b + h), .int x1] : List Value)) = av at hC ⊢
  unfold w_Asm_startOf at hp
  obtain ⟨k0, hp⟩ := hp
  refine lv_iload_n (pc := 0) hx hb d_Asm_startOf_0 rfl (lv_at hl 1 rfl) ?_
  refine lv_if_lt (pc := 1) (tgt := 22) hx hb d_Asm_startOf_1 rfl (fun hc => ?_) (fun hc => ?_)
  · have hp := hp.1 hc
    refine lv_aload_n (pc := 22) hx hb d_Asm_startOf_22 rfl (lv_at hl 0 rfl) ?_
    obtain ⟨k1, hp⟩ := hp
    refine gf_Asm_19 (pc := 23) hC hw k0 (Nat.ne_of_gt k1.1) d_Asm_startOf_23 ?_
    refine fm_alen (pc := 26) (t0 := 0) hC hw k1 rfl (by decide) d_Asm_startOf_26 ?_
    exact ret_ip hC hr hlk hw hp d_Asm_startOf_27
  · have hp := hp.2 hc
    refine lv_iload_n (pc := 4) hx hb d_Asm_startOf_4 rfl (lv_at hl 1 rfl) ?_
    refine lv_aload_n (pc := 5) hx hb d_Asm_startOf_5 rfl (lv_at hl 0 rfl) ?_
    obtain ⟨k2, hp⟩ := hp
    refine gf_Asm_9 (pc := 6) hC hw k0 (Nat.ne_of_gt k2.1) d_Asm_startOf_6 ?_
    refine fm_alen (pc := 9) (t0 := 0) hC hw k2 rfl (by decide) d_Asm_startOf_9 ?_
    refine lv_icmp_ge (pc := 10) (tgt := 22) hx hb d_Asm_startOf_10 rfl (fun hc => ?_) (fun hc => ?_)
    · have hp := hp.1 hc
      refine lv_aload_n (pc := 22) hx hb d_Asm_startOf_22 rfl (lv_at hl 0 rfl) ?_
      obtain ⟨k3, hp⟩ := hp
      refine gf_Asm_19 (pc := 23) hC hw k0 (Nat.ne_of_gt k3.1) d_Asm_startOf_23 ?_
      refine fm_alen (pc := 26) (t0 := 0) hC hw k3 rfl (by decide) d_Asm_startOf_26 ?_
      exact ret_ip hC hr hlk hw hp d_Asm_startOf_27
    · have hp := hp.2 hc
      refine lv_aload_n (pc := 13) hx hb d_Asm_startOf_13 rfl (lv_at hl 0 rfl) ?_
      refine gf_Asm_9 (pc := 14) hC hw k0 (Nat.ne_of_gt k2.1) d_Asm_startOf_14 ?_
      refine lv_iload_n (pc := 17) hx hb d_Asm_startOf_17 rfl (lv_at hl 1 rfl) ?_
      obtain ⟨k4, hp⟩ := hp
      refine fm_iald (pc := 18) hC hw k2 k4 rfl d_Asm_startOf_18 ?_
      refine lv_goto (pc := 19) (tgt := 27) hx hb d_Asm_startOf_19 rfl ?_
      exact ret_ip hC hr hlk hw hp d_Asm_startOf_27
set_option maxHeartbeats 4000000 in
set_option maxRecDepth 100000 in
theorem c_Asm_put (l : Launch) (D : va_G) (dA : Nat → ClassId) (b n : Nat) (T : mT) (R : mR) (M : mM) (sz : Nat) (h : Nat) (x1 : Nat) (Q : mM → Prop) : Met l y_Asm_put (Cond.code y_Asm_put b_Asm_put 4 none :: tW) ({ frames := 1, cells := 0, slots := 0, locals := 21 }) (Pm D dA b n T R M sz [.ref (b + h), .ref (b + x1)] (w_Asm_put n T R M h x1 Q)) (Qvm D dA (An b n) b n T R sz Q) 0 0 (An b n) := by
  refine fm_body (An b n) (by decide) (Nat.le_of_ble_eq_true rfl) (fun k h0 h1 => ⟨by omega, by omega⟩) (fun p e s m below meth c ls hC hr hlk hnm hl hw hp => ?_)
  have hx := hC.1.1
  have hb := hC.1.2.1
  have hl : lv_has ls 4 [(0, .ref (b + h)), (1, .ref (b + x1))] := hl
  generalize hav : (List.toArray ([.ref (b + h), .ref (b + x1)] : List Value)) = av at hC ⊢
  unfold w_Asm_put at hp
  obtain ⟨k0, hp⟩ := hp
  have L16 : ∀ (N16 : Nat) (a0 : Nat) (a1 : Nat) (a2 : Int32) (a3 : Int32) (M : mM)  (ls : Array Slot) (H : Heap) (locs : List Loc), ok T n a0 7 → ok T n a1 3 → lv_has ls 4 [(0, .ref (b + a0)), (1, .ref (b + a1)), (2, .int a2), (3, .int a3)] → St D dA (An b n) b n T R M sz s.heap H locs → w_Asm_put_L16 n T R Q a0 a1 a2 N16 a3 M → W p l e ({ frames := 1, cells := 0, slots := 0, locals := 21 }) s m av below meth c H locs 0 0 (MQ below (Qvm D dA (An b n) b n T R sz Q) av s 0 0 (An b n)) (F0 m 16 ls []) := by
    intro N16
    induction N16 with
    | zero => intro a0 a1 a2 a3 M ls H locs f4 f5 hl hw hp; exact False.elim hp
    | succ N16 ih16 =>
      intro a0 a1 a2 a3 M ls H locs f4 f5 hl hw hp
      unfold w_Asm_put_L16 at hp
      refine lv_iload_n (pc := 16) hx hb d_Asm_put_16 rfl (lv_at hl 3 rfl) ?_
      refine lv_aload_n (pc := 17) hx hb d_Asm_put_17 rfl (lv_at hl 1 rfl) ?_
      refine gf_Asm_34 (pc := 18) hC hw f5 d_Asm_put_18 ?_
      refine lv_icmp_ge (pc := 21) (tgt := 55) hx hb d_Asm_put_21 rfl (fun hc => ?_) (fun hc => ?_)
      · have hp := hp.1 hc
        exact ret_vm hC hr hlk hw hp d_Asm_put_55
      · have hp := hp.2 hc
        refine lv_iload_n (pc := 24) hx hb d_Asm_put_24 rfl (lv_at hl 2 rfl) ?_
        refine lv_iload_n (pc := 25) hx hb d_Asm_put_25 rfl (lv_at hl 3 rfl) ?_
        refine lv_iadd (pc := 26) hx hb d_Asm_put_26 ?_
        refine lv_aload_n (pc := 27) hx hb d_Asm_put_27 rfl (lv_at hl 0 rfl) ?_
        obtain ⟨k6, hp⟩ := hp
        refine gf_Asm_19 (pc := 28) hC hw f4 (Nat.ne_of_gt k6.1) d_Asm_put_28 ?_
        refine fm_alen (pc := 31) (t0 := 0) hC hw k6 rfl (by decide) d_Asm_put_31 ?_
        refine lv_icmp_ge (pc := 32) (tgt := 55) hx hb d_Asm_put_32 rfl (fun hc => ?_) (fun hc => ?_)
        · have hp := hp.1 hc
          exact ret_vm hC hr hlk hw hp d_Asm_put_55
        · have hp := hp.2 hc
          refine lv_aload_n (pc := 35) hx hb d_Asm_put_35 rfl (lv_at hl 0 rfl) ?_
          refine gf_Asm_19 (pc := 36) hC hw f4 (Nat.ne_of_gt k6.1) d_Asm_put_36 ?_
          refine lv_iload_n (pc := 39) hx hb d_Asm_put_39 rfl (lv_at hl 2 rfl) ?_
          refine lv_iload_n (pc := 40) hx hb d_Asm_put_40 rfl (lv_at hl 3 rfl) ?_
          refine lv_iadd (pc := 41) hx hb d_Asm_put_41 ?_
          refine lv_aload_n (pc := 42) hx hb d_Asm_put_42 rfl (lv_at hl 1 rfl) ?_
          obtain ⟨k7, hp⟩ := hp
          refine gf_Asm_37 (pc := 43) hC hw f5 (Nat.ne_of_gt k7.1) d_Asm_put_43 ?_
          refine lv_iload_n (pc := 46) hx hb d_Asm_put_46 rfl (lv_at hl 3 rfl) ?_
          obtain ⟨k8, hp⟩ := hp
          refine fm_iald (pc := 47) hC hw k7 k8 rfl d_Asm_put_47 ?_
          obtain ⟨k9, hp⟩ := hp
          refine fm_iast (pc := 48) hC hw k6 k9 rfl d_Asm_put_48 (fun M10 H locs eM10 hw => ?_)
          have hp := hp M10 eM10
          obtain ⟨v11, ev11⟩ : ∃ z : Int32, z = a3 + (1 : Int32) := ⟨_, rfl⟩
          have hp := hp v11 ev11
          refine lv_iinc (pc := 49) (k := 3) (v := v11) hx hb d_Asm_put_49 hl rfl ev11.symm (by decide) rfl (fun ls hl => ?_)
          have hl : lv_has ls 4 [(3, .int v11), (0, .ref (b + a0)), (1, .ref (b + a1)), (2, .int a2)] := hl
          refine lv_goto (pc := 52) (tgt := 16) hx hb d_Asm_put_52 rfl ?_
          exact ih16  a0 a1 a2 v11 M10 ls _ _ f4 f5 (lv_sub hl [1, 2, 3, 0] rfl) hw hp
  refine lv_aload_n (pc := 0) hx hb d_Asm_put_0 rfl (lv_at hl 0 rfl) ?_
  refine lv_aload_n (pc := 1) hx hb d_Asm_put_1 rfl (lv_at hl 1 rfl) ?_
  obtain ⟨k1, hp⟩ := hp
  refine gf_Asm_22 (pc := 2) hC hw k1 d_Asm_put_2 ?_
  refine call_ip (pc := 5) (fun _ h => h) hw (fm_runV (As := [.int (M x1 6)]) (rest := []) hC hw (c_Asm_startOf l D dA b n T R M sz h (M x1 6) _) cy_Asm_startOf hp rfl rfl mw_4 mw_5 mw_6 (rfl : classes[7]? = _) (by decide) k0 ⟨Nat.le_of_ble_eq_true rfl, Nat.le_of_ble_eq_true rfl⟩ rfl hl.1 rfl (Nat.le_of_ble_eq_true rfl) d_Asm_put_5 ⟨(Nat.le_of_ble_eq_true rfl), (Nat.le_of_ble_eq_true rfl)⟩) (fun r2 H locs hp hw => ?_)
  refine lv_aload_n (pc := 8) hx hb d_Asm_put_8 rfl (lv_at hl 1 rfl) ?_
  refine gf_Asm_31 (pc := 9) hC hw k1 d_Asm_put_9 ?_
  refine lv_iadd (pc := 12) hx hb d_Asm_put_12 ?_
  refine lv_topi (fun v3 ev3 => ?_)
  have hp := hp v3 ev3
  refine lv_istore_n (pc := 13) hx hb d_Asm_put_13 rfl hl (by decide) rfl (fun ls hl => ?_)
  have hl : lv_has ls 4 [(2, .int v3), (0, .ref (b + h)), (1, .ref (b + x1))] := hl
  refine lv_iconst (v := 0) (pc := 14) hx hb d_Asm_put_14 (by decide) ?_
  refine lv_istore_n (pc := 15) hx hb d_Asm_put_15 rfl hl (by decide) rfl (fun ls hl => ?_)
  have hl : lv_has ls 4 [(3, .int (0 : Int32)), (2, .int v3), (0, .ref (b + h)), (1, .ref (b + x1))] := hl
  obtain ⟨N16, hp⟩ := hp
  exact L16 N16 h x1 v3 (0 : Int32) M ls _ _ k0 k1 (lv_sub hl [2, 3, 1, 0] rfl) hw hp
set_option maxHeartbeats 4000000 in
set_option maxRecDepth 100000 in
theorem c_Asm_isWhole (l : Launch) (D : va_G) (dA : Nat → ClassId) (b n : Nat) (T : mT) (R : mR) (M : mM) (sz : Nat) (h : Nat) (Q : Int32 → Prop) : Met l y_Asm_isWhole (Cond.code y_Asm_isWhole b_Asm_isWhole 1 (some .boolean) :: tW) ({ frames := 0, cells := 0, slots := 0, locals := 0 }) (Pm D dA b n T R M sz [.ref (b + h)] (w_Asm_isWhole n T R M h Q)) (Qzp D dA (An b n) b n T R M sz Q) 0 0 (An b n) := by
  refine fm_body (An b n) (by decide) (Nat.le_of_ble_eq_true rfl) (fun k h0 h1 => ⟨by omega, by omega⟩) (fun p e s m below meth c ls hC hr hlk hnm hl hw hp => ?_)
  have hx := hC.1.1
  have hb := hC.1.2.1
  have hl : lv_has ls 1 [(0, .ref (b + h))] := hl
  generalize hav : (List.toArray ([.ref (b + h)] : List Value)) = av at hC ⊢
  unfold w_Asm_isWhole at hp
  obtain ⟨k0, hp⟩ := hp
  refine lv_aload_n (pc := 0) hx hb d_Asm_isWhole_0 rfl (lv_at hl 0 rfl) ?_
  refine gf_Asm_15 (pc := 1) hC hw k0 d_Asm_isWhole_1 ?_
  refine lv_iconst (v := 4) (pc := 4) hx hb d_Asm_isWhole_4 (by decide) ?_
  refine lv_icmp_le (pc := 5) (tgt := 12) hx hb d_Asm_isWhole_5 rfl (fun hc => ?_) (fun hc => ?_)
  · have hp := hp.1 hc
    refine lv_iconst (v := 0) (pc := 12) hx hb d_Asm_isWhole_12 (by decide) ?_
    exact ret_zp hC hr hlk hw (Or.inl rfl) hp d_Asm_isWhole_13
  · have hp := hp.2 hc
    refine lv_iconst (v := 1) (pc := 8) hx hb d_Asm_isWhole_8 (by decide) ?_
    refine lv_goto (pc := 9) (tgt := 13) hx hb d_Asm_isWhole_9 rfl ?_
    exact ret_zp hC hr hlk hw (Or.inr rfl) hp d_Asm_isWhole_13
set_option maxHeartbeats 4000000 in
set_option maxRecDepth 100000 in
theorem c_Asm_hasNextMessage (l : Launch) (D : va_G) (dA : Nat → ClassId) (b n : Nat) (T : mT) (R : mR) (M : mM) (sz : Nat) (h : Nat) (Q : Int32 → Prop) : Met l y_Asm_hasNextMessage (Cond.code y_Asm_hasNextMessage b_Asm_hasNextMessage 3 (some .boolean) :: tW) ({ frames := 1, cells := 0, slots := 0, locals := 21 }) (Pm D dA b n T R M sz [.ref (b + h)] (w_Asm_hasNextMessage n T R M h Q)) (Qzp D dA (An b n) b n T R M sz Q) 0 0 (An b n) := by
  refine fm_body (An b n) (by decide) (Nat.le_of_ble_eq_true rfl) (fun k h0 h1 => ⟨by omega, by omega⟩) (fun p e s m below meth c ls hC hr hlk hnm hl hw hp => ?_)
  have hx := hC.1.1
  have hb := hC.1.2.1
  have hl : lv_has ls 3 [(0, .ref (b + h))] := hl
  generalize hav : (List.toArray ([.ref (b + h)] : List Value)) = av at hC ⊢
  unfold w_Asm_hasNextMessage at hp
  obtain ⟨k0, hp⟩ := hp
  have L20 : ∀ (N20 : Nat) (a0 : Nat) (a1 : Int32) (a2 : Int32)   (ls : Array Slot) (H : Heap) (locs : List Loc), ok T n a0 7 → lv_has ls 3 [(0, .ref (b + a0)), (1, .int a1), (2, .int a2)] → St D dA (An b n) b n T R M sz s.heap H locs → w_Asm_hasNextMessage_L20 n T R M Q a0 a1 N20 a2 → W p l e ({ frames := 1, cells := 0, slots := 0, locals := 21 }) s m av below meth c H locs 0 0 (MQ below (Qzp D dA (An b n) b n T R M sz Q) av s 0 0 (An b n)) (F0 m 20 ls []) := by
    intro N20
    induction N20 with
    | zero => intro a0 a1 a2 ls H locs f3 hl hw hp; exact False.elim hp
    | succ N20 ih20 =>
      intro a0 a1 a2 ls H locs f3 hl hw hp
      unfold w_Asm_hasNextMessage_L20 at hp
      refine lv_iload_n (pc := 20) hx hb d_Asm_hasNextMessage_20 rfl (lv_at hl 2 rfl) ?_
      refine lv_iload_n (pc := 21) hx hb d_Asm_hasNextMessage_21 rfl (lv_at hl 1 rfl) ?_
      refine lv_icmp_ge (pc := 22) (tgt := 43) hx hb d_Asm_hasNextMessage_22 rfl (fun hc => ?_) (fun hc => ?_)
      · have hp := hp.1 hc
        refine lv_aload_n (pc := 43) hx hb d_Asm_hasNextMessage_43 rfl (lv_at hl 0 rfl) ?_
        refine call_zp (pc := 44) (fun _ h => h) hw (fm_runV (As := []) (rest := []) hC hw (c_Asm_isWhole l D dA b n T R M sz a0 _) cy_Asm_isWhole hp rfl rfl mw_7 mw_8 mw_9 (rfl : classes[7]? = _) (by decide) f3 ⟨Nat.le_of_ble_eq_true rfl, Nat.le_of_ble_eq_true rfl⟩ rfl hl.1 rfl (Nat.le_of_ble_eq_true rfl) d_Asm_hasNextMessage_44 ⟨(Nat.le_of_ble_eq_true rfl), (Nat.le_of_ble_eq_true rfl)⟩) (fun r4 H locs hp z5 hw => ?_)
        refine lv_if_ne (pc := 47) (tgt := 54) hx hb d_Asm_hasNextMessage_47 rfl (fun hc => ?_) (fun hc => ?_)
        · have hp := hp.2 hc
          refine lv_iconst (v := 0) (pc := 54) hx hb d_Asm_hasNextMessage_54 (by decide) ?_
          exact ret_zp hC hr hlk hw (Or.inl rfl) hp d_Asm_hasNextMessage_55
        · have hp := hp.1 hc
          refine lv_iconst (v := 1) (pc := 50) hx hb d_Asm_hasNextMessage_50 (by decide) ?_
          refine lv_goto (pc := 51) (tgt := 55) hx hb d_Asm_hasNextMessage_51 rfl ?_
          exact ret_zp hC hr hlk hw (Or.inr rfl) hp d_Asm_hasNextMessage_55
      · have hp := hp.2 hc
        refine lv_aload_n (pc := 25) hx hb d_Asm_hasNextMessage_25 rfl (lv_at hl 0 rfl) ?_
        obtain ⟨k6, hp⟩ := hp
        refine gf_Asm_19 (pc := 26) hC hw f3 (Nat.ne_of_gt k6.1) d_Asm_hasNextMessage_26 ?_
        refine lv_iload_n (pc := 29) hx hb d_Asm_hasNextMessage_29 rfl (lv_at hl 2 rfl) ?_
        obtain ⟨k7, hp⟩ := hp
        refine fm_iald (pc := 30) hC hw k6 k7 rfl d_Asm_hasNextMessage_30 ?_
        refine lv_iconst (v := -1) (pc := 31) hx hb d_Asm_hasNextMessage_31 (by decide) ?_
        refine lv_icmp_ne (pc := 32) (tgt := 37) hx hb d_Asm_hasNextMessage_32 rfl (fun hc => ?_) (fun hc => ?_)
        · have hp := hp.2 hc
          obtain ⟨v8, ev8⟩ : ∃ z : Int32, z = a2 + (1 : Int32) := ⟨_, rfl⟩
          have hp := hp v8 ev8
          refine lv_iinc (pc := 37) (k := 2) (v := v8) hx hb d_Asm_hasNextMessage_37 hl rfl ev8.symm (by decide) rfl (fun ls hl => ?_)
          have hl : lv_has ls 3 [(2, .int v8), (0, .ref (b + a0)), (1, .int a1)] := hl
          refine lv_goto (pc := 40) (tgt := 20) hx hb d_Asm_hasNextMessage_40 rfl ?_
          exact ih20  a0 a1 v8 ls _ _ f3 (lv_sub hl [1, 2, 0] rfl) hw hp
        · have hp := hp.1 hc
          refine lv_iconst (v := 0) (pc := 35) hx hb d_Asm_hasNextMessage_35 (by decide) ?_
          exact ret_zp hC hr hlk hw (Or.inl rfl) hp d_Asm_hasNextMessage_36
  refine lv_aload_n (pc := 0) hx hb d_Asm_hasNextMessage_0 rfl (lv_at hl 0 rfl) ?_
  refine lv_aload_n (pc := 1) hx hb d_Asm_hasNextMessage_1 rfl (lv_at hl 0 rfl) ?_
  refine gf_Asm_15 (pc := 2) hC hw k0 d_Asm_hasNextMessage_2 ?_
  refine lv_iconst (v := 1) (pc := 5) hx hb d_Asm_hasNextMessage_5 (by decide) ?_
  refine lv_iadd (pc := 6) hx hb d_Asm_hasNextMessage_6 ?_
  refine call_ip (pc := 7) (fun _ h => h) hw (fm_runV (As := [.int ((M h 2) + (1 : Int32))]) (rest := []) hC hw (c_Asm_startOf l D dA b n T R M sz h ((M h 2) + (1 : Int32)) _) cy_Asm_startOf hp rfl rfl mw_4 mw_5 mw_6 (rfl : classes[7]? = _) (by decide) k0 ⟨Nat.le_of_ble_eq_true rfl, Nat.le_of_ble_eq_true rfl⟩ rfl hl.1 rfl (Nat.le_of_ble_eq_true rfl) d_Asm_hasNextMessage_7 ⟨(Nat.le_of_ble_eq_true rfl), (Nat.le_of_ble_eq_true rfl)⟩) (fun r1 H locs hp hw => ?_)
  refine lv_istore_n (pc := 10) hx hb d_Asm_hasNextMessage_10 rfl hl (by decide) rfl (fun ls hl => ?_)
  have hl : lv_has ls 3 [(1, .int r1), (0, .ref (b + h))] := hl
  refine lv_aload_n (pc := 11) hx hb d_Asm_hasNextMessage_11 rfl (lv_at hl 1 rfl) ?_
  refine lv_aload_n (pc := 12) hx hb d_Asm_hasNextMessage_12 rfl (lv_at hl 1 rfl) ?_
  refine gf_Asm_15 (pc := 13) hC hw k0 d_Asm_hasNextMessage_13 ?_
  refine call_ip (pc := 16) (fun _ h => h) hw (fm_runV (As := [.int (M h 2)]) (rest := []) hC hw (c_Asm_startOf l D dA b n T R M sz h (M h 2) _) cy_Asm_startOf hp rfl rfl mw_4 mw_5 mw_6 (rfl : classes[7]? = _) (by decide) k0 ⟨Nat.le_of_ble_eq_true rfl, Nat.le_of_ble_eq_true rfl⟩ rfl hl.1 rfl (Nat.le_of_ble_eq_true rfl) d_Asm_hasNextMessage_16 ⟨(Nat.le_of_ble_eq_true rfl), (Nat.le_of_ble_eq_true rfl)⟩) (fun r2 H locs hp hw => ?_)
  refine lv_istore_n (pc := 19) hx hb d_Asm_hasNextMessage_19 rfl hl (by decide) rfl (fun ls hl => ?_)
  have hl : lv_has ls 3 [(2, .int r2), (1, .int r1), (0, .ref (b + h))] := hl
  obtain ⟨N20, hp⟩ := hp
  exact L20 N20 h r1 r2 ls _ _ k0 (lv_sub hl [2, 1, 0] rfl) hw hp
set_option maxHeartbeats 4000000 in
set_option maxRecDepth 100000 in
theorem c_Asm_countUntaken (l : Launch) (D : va_G) (dA : Nat → ClassId) (b n : Nat) (T : mT) (R : mR) (M : mM) (sz : Nat) (h : Nat) (Q : Int32 → Prop) : Met l y_Asm_countUntaken (Cond.code y_Asm_countUntaken b_Asm_countUntaken 3 (some .int) :: tW) ({ frames := 1, cells := 0, slots := 0, locals := 21 }) (Pm D dA b n T R M sz [.ref (b + h)] (w_Asm_countUntaken n T R M h Q)) (Qip D dA (An b n) b n T R M sz Q) 0 0 (An b n) := by
  refine fm_body (An b n) (by decide) (Nat.le_of_ble_eq_true rfl) (fun k h0 h1 => ⟨by omega, by omega⟩) (fun p e s m below meth c ls hC hr hlk hnm hl hw hp => ?_)
  have hx := hC.1.1
  have hb := hC.1.2.1
  have hl : lv_has ls 3 [(0, .ref (b + h))] := hl
  generalize hav : (List.toArray ([.ref (b + h)] : List Value)) = av at hC ⊢
  unfold w_Asm_countUntaken at hp
  obtain ⟨k0, hp⟩ := hp
  have L11 : ∀ (N11 : Nat) (a0 : Nat) (a1 : Int32) (a2 : Int32)   (ls : Array Slot) (H : Heap) (locs : List Loc), ok T n a0 7 → lv_has ls 3 [(0, .ref (b + a0)), (1, .int a1), (2, .int a2)] → St D dA (An b n) b n T R M sz s.heap H locs → w_Asm_countUntaken_L11 n T R M Q a0 N11 a1 a2 → W p l e ({ frames := 1, cells := 0, slots := 0, locals := 21 }) s m av below meth c H locs 0 0 (MQ below (Qip D dA (An b n) b n T R M sz Q) av s 0 0 (An b n)) (F0 m 11 ls []) := by
    intro N11
    induction N11 with
    | zero => intro a0 a1 a2 ls H locs f2 hl hw hp; exact False.elim hp
    | succ N11 ih11 =>
      intro a0 a1 a2 ls H locs f2 hl hw hp
      unfold w_Asm_countUntaken_L11 at hp
      refine lv_iload_n (pc := 11) hx hb d_Asm_countUntaken_11 rfl (lv_at hl 2 rfl) ?_
      refine lv_aload_n (pc := 12) hx hb d_Asm_countUntaken_12 rfl (lv_at hl 0 rfl) ?_
      obtain ⟨k3, hp⟩ := hp
      refine gf_Asm_19 (pc := 13) hC hw f2 (Nat.ne_of_gt k3.1) d_Asm_countUntaken_13 ?_
      refine fm_alen (pc := 16) (t0 := 0) hC hw k3 rfl (by decide) d_Asm_countUntaken_16 ?_
      refine lv_icmp_ge (pc := 17) (tgt := 39) hx hb d_Asm_countUntaken_17 rfl (fun hc => ?_) (fun hc => ?_)
      · have hp := hp.1 hc
        refine lv_iload_n (pc := 39) hx hb d_Asm_countUntaken_39 rfl (lv_at hl 1 rfl) ?_
        exact ret_ip hC hr hlk hw hp d_Asm_countUntaken_40
      · have hp := hp.2 hc
        refine lv_aload_n (pc := 20) hx hb d_Asm_countUntaken_20 rfl (lv_at hl 0 rfl) ?_
        refine gf_Asm_19 (pc := 21) hC hw f2 (Nat.ne_of_gt k3.1) d_Asm_countUntaken_21 ?_
        refine lv_iload_n (pc := 24) hx hb d_Asm_countUntaken_24 rfl (lv_at hl 2 rfl) ?_
        obtain ⟨k4, hp⟩ := hp
        refine fm_iald (pc := 25) hC hw k3 k4 rfl d_Asm_countUntaken_25 ?_
        refine lv_iconst (v := -1) (pc := 26) hx hb d_Asm_countUntaken_26 (by decide) ?_
        refine lv_icmp_eq (pc := 27) (tgt := 33) hx hb d_Asm_countUntaken_27 rfl (fun hc => ?_) (fun hc => ?_)
        · have hp := hp.1 hc
          obtain ⟨v5, ev5⟩ : ∃ z : Int32, z = a2 + (1 : Int32) := ⟨_, rfl⟩
          have hp := hp v5 ev5
          refine lv_iinc (pc := 33) (k := 2) (v := v5) hx hb d_Asm_countUntaken_33 hl rfl ev5.symm (by decide) rfl (fun ls hl => ?_)
          have hl : lv_has ls 3 [(2, .int v5), (0, .ref (b + a0)), (1, .int a1)] := hl
          refine lv_goto (pc := 36) (tgt := 11) hx hb d_Asm_countUntaken_36 rfl ?_
          exact ih11  a0 a1 v5 ls _ _ f2 (lv_sub hl [1, 2, 0] rfl) hw hp
        · have hp := hp.2 hc
          obtain ⟨v6, ev6⟩ : ∃ z : Int32, z = a1 + (1 : Int32) := ⟨_, rfl⟩
          have hp := hp v6 ev6
          refine lv_iinc (pc := 30) (k := 1) (v := v6) hx hb d_Asm_countUntaken_30 hl rfl ev6.symm (by decide) rfl (fun ls hl => ?_)
          have hl : lv_has ls 3 [(1, .int v6), (0, .ref (b + a0)), (2, .int a2)] := hl
          obtain ⟨v7, ev7⟩ : ∃ z : Int32, z = a2 + (1 : Int32) := ⟨_, rfl⟩
          have hp := hp v7 ev7
          refine lv_iinc (pc := 33) (k := 2) (v := v7) hx hb d_Asm_countUntaken_33 hl rfl ev7.symm (by decide) rfl (fun ls hl => ?_)
          have hl : lv_has ls 3 [(2, .int v7), (1, .int v6), (0, .ref (b + a0))] := hl
          refine lv_goto (pc := 36) (tgt := 11) hx hb d_Asm_countUntaken_36 rfl ?_
          exact ih11  a0 v6 v7 ls _ _ f2 (lv_sub hl [2, 1, 0] rfl) hw hp
  refine lv_iconst (v := 0) (pc := 0) hx hb d_Asm_countUntaken_0 (by decide) ?_
  refine lv_istore_n (pc := 1) hx hb d_Asm_countUntaken_1 rfl hl (by decide) rfl (fun ls hl => ?_)
  have hl : lv_has ls 3 [(1, .int (0 : Int32)), (0, .ref (b + h))] := hl
  refine lv_aload_n (pc := 2) hx hb d_Asm_countUntaken_2 rfl (lv_at hl 1 rfl) ?_
  refine lv_aload_n (pc := 3) hx hb d_Asm_countUntaken_3 rfl (lv_at hl 1 rfl) ?_
  refine gf_Asm_15 (pc := 4) hC hw k0 d_Asm_countUntaken_4 ?_
  refine call_ip (pc := 7) (fun _ h => h) hw (fm_runV (As := [.int (M h 2)]) (rest := []) hC hw (c_Asm_startOf l D dA b n T R M sz h (M h 2) _) cy_Asm_startOf hp rfl rfl mw_4 mw_5 mw_6 (rfl : classes[7]? = _) (by decide) k0 ⟨Nat.le_of_ble_eq_true rfl, Nat.le_of_ble_eq_true rfl⟩ rfl hl.1 rfl (Nat.le_of_ble_eq_true rfl) d_Asm_countUntaken_7 ⟨(Nat.le_of_ble_eq_true rfl), (Nat.le_of_ble_eq_true rfl)⟩) (fun r1 H locs hp hw => ?_)
  refine lv_istore_n (pc := 10) hx hb d_Asm_countUntaken_10 rfl hl (by decide) rfl (fun ls hl => ?_)
  have hl : lv_has ls 3 [(2, .int r1), (1, .int (0 : Int32)), (0, .ref (b + h))] := hl
  obtain ⟨N11, hp⟩ := hp
  exact L11 N11 h (0 : Int32) r1 ls _ _ k0 (lv_sub hl [2, 1, 0] rfl) hw hp
set_option maxHeartbeats 4000000 in
set_option maxRecDepth 100000 in
theorem c_Noted_init (l : Launch) (D : va_G) (dA : Nat → ClassId) (b n : Nat) (T : mT) (R : mR) (M : mM) (h : Nat) (Q : Nat → mT → mR → mM → Prop) : Met l y_Noted_init (Cond.code y_Noted_init b_Noted_init 1 none :: tW) ({ frames := 1, cells := 1, slots := 8, locals := 12 }) (Pm D dA b n T R M (b + n + 1) [.ref (b + h)] (w_Noted_init n T R M h Q)) (Qva D dA b  Q) 1 8 (Ab b) := by
  refine fm_body (Ab b) (by decide) (Nat.le_of_ble_eq_true rfl) (fun k h0 _ => show b < b + k by omega) (fun p e s m below meth c ls hC hr hlk hnm hl hw hp => ?_)
  have hx := hC.1.1
  have hb := hC.1.2.1
  have hl : lv_has ls 1 [(0, .ref (b + h))] := hl
  generalize hav : (List.toArray ([.ref (b + h)] : List Value)) = av at hC ⊢
  unfold w_Noted_init at hp
  obtain ⟨k0, hp⟩ := hp
  refine lv_aload_n (pc := 0) hx hb d_Noted_init_0 rfl (lv_at hl 0 rfl) ?_
  refine W.objInit hx hb hC.1.2.2.2.1 (hC.1.2.2.2.2 _ mw_10) (hC.1.2.2.2.2 _ mw_1) (hC.1.2.2.2.2 _ mw_2) rfl (hl.1.trans hC.1.2.2.1.symm) rfl d_Noted_init_1 (Nat.le_of_ble_eq_true rfl) (Nat.le_of_ble_eq_true rfl) ?_
  refine W.eq (g2 := F0 m 4 ls []) rfl ?_
  refine lv_aload_n (pc := 4) hx hb d_Noted_init_4 rfl (lv_at hl 0 rfl) ?_
  refine lv_bipush (v := 8) (pc := 5) hx hb d_Noted_init_5 (by decide) ?_
  refine fm_newi (pc := 7) (N' := 8) hC hw mw_3 (by decide) (by decide) (by decide) (Nat.le_of_ble_eq_true rfl) (Nat.le_of_ble_eq_true rfl) d_Noted_init_7 (fun T1 R2 M3 H eT1 eR2 eM3 hw => ?_)
  have hp := hp T1 R2 M3 eT1 eR2 eM3
  have k0 := (ok_push eT1 k0 : _)
  have k4 := ok_new eT1
  refine W.widen (k := 1) (n := 8) (Nat.le_of_ble_eq_true rfl) (Nat.le_of_ble_eq_true rfl) ?_
  refine pf_Noted_9 (pc := 9) hC hw k0 hnm (Nat.ne_of_gt k4.1) d_Noted_init_9 (fun R5 H locs eR5 hw => ?_)
  have hp := hp R5 eR5
  refine W.widen (k := 1) (n := 8) (by decide) (by decide) ?_
  exact ret_va hC hr hlk hw hp d_Noted_init_12
set_option maxHeartbeats 4000000 in
set_option maxRecDepth 100000 in
theorem c_Frag_init (l : Launch) (D : va_G) (dA : Nat → ClassId) (b n : Nat) (T : mT) (R : mR) (M : mM) (h : Nat) (Q : Nat → mT → mR → mM → Prop) : Met l y_Frag_init (Cond.code y_Frag_init b_Frag_init 1 none :: tW) ({ frames := 1, cells := 2, slots := 31, locals := 12 }) (Pm D dA b n T R M (b + n + 1) [.ref (b + h)] (w_Frag_init n T R M h Q)) (Qva D dA b  Q) 2 31 (Ab b) := by
  refine fm_body (Ab b) (by decide) (Nat.le_of_ble_eq_true rfl) (fun k h0 _ => show b < b + k by omega) (fun p e s m below meth c ls hC hr hlk hnm hl hw hp => ?_)
  have hx := hC.1.1
  have hb := hC.1.2.1
  have hl : lv_has ls 1 [(0, .ref (b + h))] := hl
  generalize hav : (List.toArray ([.ref (b + h)] : List Value)) = av at hC ⊢
  unfold w_Frag_init at hp
  obtain ⟨k0, hp⟩ := hp
  refine lv_aload_n (pc := 0) hx hb d_Frag_init_0 rfl (lv_at hl 0 rfl) ?_
  refine W.objInit hx hb hC.1.2.2.2.1 (hC.1.2.2.2.2 _ mw_11) (hC.1.2.2.2.2 _ mw_1) (hC.1.2.2.2.2 _ mw_2) rfl (hl.1.trans hC.1.2.2.1.symm) rfl d_Frag_init_1 (Nat.le_of_ble_eq_true rfl) (Nat.le_of_ble_eq_true rfl) ?_
  refine W.eq (g2 := F0 m 4 ls []) rfl ?_
  refine lv_aload_n (pc := 4) hx hb d_Frag_init_4 rfl (lv_at hl 0 rfl) ?_
  refine lv_bipush (v := 24) (pc := 5) hx hb d_Frag_init_5 (by decide) ?_
  refine fm_newi (pc := 7) (N' := 24) hC hw mw_3 (by decide) (by decide) (by decide) (Nat.le_of_ble_eq_true rfl) (Nat.le_of_ble_eq_true rfl) d_Frag_init_7 (fun T1 R2 M3 H eT1 eR2 eM3 hw => ?_)
  have hp := hp T1 R2 M3 eT1 eR2 eM3
  have k0 := (ok_push eT1 k0 : _)
  have k4 := ok_new eT1
  refine W.widen (k := 1) (n := 24) (Nat.le_of_ble_eq_true rfl) (Nat.le_of_ble_eq_true rfl) ?_
  refine pf_Frag_9 (pc := 9) hC hw k0 hnm (Nat.ne_of_gt k4.1) d_Frag_init_9 (fun R5 H locs eR5 hw => ?_)
  have hp := hp R5 eR5
  refine lv_aload_n (pc := 12) hx hb d_Frag_init_12 rfl (lv_at hl 0 rfl) ?_
  refine lv_bipush (v := 7) (pc := 13) hx hb d_Frag_init_13 (by decide) ?_
  refine fm_newi (pc := 15) (N' := 7) hC hw mw_3 (by decide) (by decide) (by decide) (Nat.le_of_ble_eq_true rfl) (Nat.le_of_ble_eq_true rfl) d_Frag_init_15 (fun T6 R7 M8 H eT6 eR7 eM8 hw => ?_)
  have hp := hp T6 R7 M8 eT6 eR7 eM8
  have k0 := (ok_push eT6 k0 : _)
  have k4 := (ok_push eT6 k4 : _)
  have k9 := ok_new eT6
  refine W.widen (k := 2) (n := 31) (Nat.le_of_ble_eq_true rfl) (Nat.le_of_ble_eq_true rfl) ?_
  refine pf_Frag_15 (pc := 17) hC hw k0 hnm (Nat.ne_of_gt k9.1) d_Frag_init_17 (fun R10 H locs eR10 hw => ?_)
  have hp := hp R10 eR10
  refine W.widen (k := 2) (n := 31) (by decide) (by decide) ?_
  exact ret_va hC hr hlk hw hp d_Frag_init_20
set_option maxHeartbeats 4000000 in
set_option maxRecDepth 100000 in
theorem c_Flight_init (l : Launch) (D : va_G) (dA : Nat → ClassId) (b n : Nat) (T : mT) (R : mR) (M : mM) (h : Nat) (x1 : Int32) (Q : Nat → mT → mR → mM → Prop) : Met l y_Flight_init (Cond.code y_Flight_init b_Flight_init 3 none :: tW) ({ frames := 2, cells := 28, slots := 360, locals := 32 }) (Pm D dA b n T R M (b + n + 1) [.ref (b + h), .int x1] (w_Flight_init n T R M h x1 Q)) (Qva D dA b  Q) 28 360 (Ab b) := by
  refine fm_body (Ab b) (by decide) (Nat.le_of_ble_eq_true rfl) (fun k h0 _ => show b < b + k by omega) (fun p e s m below meth c ls hC hr hlk hnm hl hw hp => ?_)
  have hx := hC.1.1
  have hb := hC.1.2.1
  have hl : lv_has ls 3 [(0, .ref (b + h)), (1, .int x1)] := hl
  generalize hav : (List.toArray ([.ref (b + h), .int x1] : List Value)) = av at hC ⊢
  unfold w_Flight_init at hp
  obtain ⟨k0, hp⟩ := hp
  have L14 : ∀ (N14 : Nat) (a0 : Nat) (a1 : Int32) (a2 : Int32) (n : Nat) (T : mT) (R : mR) (M : mM) (cs : Nat) (sl : Nat) (ls : Array Slot) (H : Heap) (locs : List Loc), ok T n a0 2 → cs ≤ 28 ∧ sl ≤ 360 → lv_has ls 3 [(0, .ref (b + a0)), (1, .int a1), (2, .int a2)] → St D dA (Ab b) b n T R M (b + n + 1) s.heap H locs → w_Flight_init_L14 Q a0 a1 N14 a2 n T R M cs sl → W p l e ({ frames := 2, cells := 28, slots := 360, locals := 32 }) s m av below meth c H locs cs sl (MQ below (Qva D dA b  Q) av s 28 360 (Ab b)) (F0 m 14 ls []) := by
    intro N14
    induction N14 with
    | zero => intro a0 a1 a2 n T R M cs sl ls H locs f7 hcs hl hw hp; exact False.elim hp
    | succ N14 ih14 =>
      intro a0 a1 a2 n T R M cs sl ls H locs f7 hcs hl hw hp
      unfold w_Flight_init_L14 at hp
      refine lv_iload_n (pc := 14) hx hb d_Flight_init_14 rfl (lv_at hl 2 rfl) ?_
      refine lv_iload_n (pc := 15) hx hb d_Flight_init_15 rfl (lv_at hl 1 rfl) ?_
      refine lv_icmp_ge (pc := 16) (tgt := 38) hx hb d_Flight_init_16 rfl (fun hc => ?_) (fun hc => ?_)
      · have hp := hp.1 hc
        refine W.widen (k := 28) (n := 360) hcs.1 hcs.2 ?_
        exact ret_va hC hr hlk hw hp d_Flight_init_38
      · have hp := hp.2 hc
        refine lv_aload_n (pc := 19) hx hb d_Flight_init_19 rfl (lv_at hl 0 rfl) ?_
        obtain ⟨k8, hp⟩ := hp
        refine gf_Flight_11 (pc := 20) hC hw f7 (Nat.ne_of_gt k8.1) d_Flight_init_20 ?_
        refine lv_iload_n (pc := 23) hx hb d_Flight_init_23 rfl (lv_at hl 2 rfl) ?_
        obtain ⟨k12, hp⟩ := hp
        obtain ⟨k13, hp⟩ := hp
        refine fm_new (pc := 24) hC hw hin_Frag t_Frag t_Frag_ok mw_13 mw_14 mw_15 (rfl : classes[1]? = _) (by decide) (by decide) df_Frag k12 k13 d_Flight_init_24 (fun T9 R10 M11 H eT9 eR10 eM11 hw => ?_)
        have hp := hp T9 R10 M11 eT9 eR10 eM11
        have f7 := (ok_push eT9 f7 : _)
        have k8 := (ok_push eT9 k8 : _)
        have k14 := ok_new eT9
        refine lv_dup (pc := 27) hx hb d_Flight_init_27 rfl ?_
        obtain ⟨k15, hp⟩ := hp
        obtain ⟨k16, hp⟩ := hp
        refine call_va (pc := 28) (fun _ h => h) hw (fm_runIN (As := []) (rest := [.ref (b + (n + 1)), .int a2, .ref (b + (R a0 0))]) hC hw (c_Frag_init l D dA b (n + 1) T9 R10 M11 (n + 1) _) cy_Frag_init hp rfl rfl nw_0 mw_16 rfl ⟨Nat.le_of_ble_eq_true rfl, Nat.le_of_ble_eq_true rfl⟩ rfl hl.1 rfl (Nat.le_of_ble_eq_true rfl) d_Flight_init_28 ⟨k15, k16⟩) (fun n17 T18 R19 M20 H locs hp hw => ?_)
        obtain ⟨k21, hp⟩ := hp
        obtain ⟨k22, hp⟩ := hp
        obtain ⟨k23, hp⟩ := hp
        refine fm_aast (pc := 31) hC hw 3 rfl (by decide) (rfl : classes[1]? = _) (by decide) k21 k22 rfl k23 d_Flight_init_31 (fun R24 H locs eR24 hw => ?_)
        have hp := hp R24 eR24
        obtain ⟨v25, ev25⟩ : ∃ z : Int32, z = a2 + (1 : Int32) := ⟨_, rfl⟩
        have hp := hp v25 ev25
        refine lv_iinc (pc := 32) (k := 2) (v := v25) hx hb d_Flight_init_32 hl rfl ev25.symm (by decide) rfl (fun ls hl => ?_)
        have hl : lv_has ls 3 [(2, .int v25), (0, .ref (b + a0)), (1, .int a1)] := hl
        refine lv_goto (pc := 35) (tgt := 14) hx hb d_Flight_init_35 rfl ?_
        obtain ⟨k26, hp⟩ := hp
        exact ih14  a0 a1 v25 n17 T18 R24 M20 (cs + 3) (sl + 39) ls _ _ k26 (by omega) (lv_sub hl [1, 2, 0] rfl) hw hp
  refine lv_aload_n (pc := 0) hx hb d_Flight_init_0 rfl (lv_at hl 0 rfl) ?_
  refine W.objInit hx hb hC.1.2.2.2.1 (hC.1.2.2.2.2 _ mw_12) (hC.1.2.2.2.2 _ mw_1) (hC.1.2.2.2.2 _ mw_2) rfl (hl.1.trans hC.1.2.2.1.symm) rfl d_Flight_init_1 (Nat.le_of_ble_eq_true rfl) (Nat.le_of_ble_eq_true rfl) ?_
  refine W.eq (g2 := F0 m 4 ls []) rfl ?_
  refine lv_aload_n (pc := 4) hx hb d_Flight_init_4 rfl (lv_at hl 0 rfl) ?_
  refine lv_iload_n (pc := 5) hx hb d_Flight_init_5 rfl (lv_at hl 1 rfl) ?_
  obtain ⟨k4, hp⟩ := hp
  refine fm_newq (pc := 6) (N' := x1.toNatClampNeg) hC hw 3 rfl (by decide) (by decide) mw_13 k4.1 rfl (by have := k4.2; omega) (Nat.le_of_ble_eq_true rfl) (Nat.le_trans (Nat.add_le_add_left k4.2 _) (Nat.le_of_ble_eq_true rfl)) d_Flight_init_6 (fun T1 R2 M3 H eT1 eR2 eM3 hw => ?_)
  have hp := hp T1 R2 M3 eT1 eR2 eM3
  have k0 := (ok_push eT1 k0 : _)
  have k5 := ok_new eT1
  refine W.widen (k := 1) (n := 9) (Nat.le_refl _) (by have := k4.2; omega) ?_
  refine pf_Flight_11 (pc := 9) hC hw k0 hnm (Nat.ne_of_gt k5.1) d_Flight_init_9 (fun R6 H locs eR6 hw => ?_)
  have hp := hp R6 eR6
  refine lv_iconst (v := 0) (pc := 12) hx hb d_Flight_init_12 (by decide) ?_
  refine lv_istore_n (pc := 13) hx hb d_Flight_init_13 rfl hl (by decide) rfl (fun ls hl => ?_)
  have hl : lv_has ls 3 [(2, .int (0 : Int32)), (0, .ref (b + h)), (1, .int x1)] := hl
  obtain ⟨N14, hp⟩ := hp
  exact L14 N14 h x1 (0 : Int32) (n + 1) T1 R6 M3 1 9 ls _ _ k0 (by decide) (lv_sub hl [1, 2, 0] rfl) hw hp
set_option maxHeartbeats 4000000 in
set_option maxRecDepth 100000 in
theorem c_Win_init (l : Launch) (D : va_G) (dA : Nat → ClassId) (b n : Nat) (T : mT) (R : mR) (M : mM) (sz : Nat) (h : Nat) (Q : mM → Prop) : Met l y_Win_init (Cond.code y_Win_init b_Win_init 1 none :: tW) ({ frames := 1, cells := 0, slots := 0, locals := 12 }) (Pm D dA b n T R M sz [.ref (b + h)] (w_Win_init n T R M h Q)) (Qvm D dA (An b n) b n T R sz Q) 0 0 (An b n) := by
  refine fm_body (An b n) (by decide) (Nat.le_of_ble_eq_true rfl) (fun k h0 h1 => ⟨by omega, by omega⟩) (fun p e s m below meth c ls hC hr hlk hnm hl hw hp => ?_)
  have hx := hC.1.1
  have hb := hC.1.2.1
  have hl : lv_has ls 1 [(0, .ref (b + h))] := hl
  generalize hav : (List.toArray ([.ref (b + h)] : List Value)) = av at hC ⊢
  unfold w_Win_init at hp
  obtain ⟨k0, hp⟩ := hp
  refine lv_aload_n (pc := 0) hx hb d_Win_init_0 rfl (lv_at hl 0 rfl) ?_
  refine W.objInit hx hb hC.1.2.2.2.1 (hC.1.2.2.2.2 _ mw_17) (hC.1.2.2.2.2 _ mw_1) (hC.1.2.2.2.2 _ mw_2) rfl (hl.1.trans hC.1.2.2.1.symm) rfl d_Win_init_1 (Nat.le_of_ble_eq_true rfl) (Nat.le_of_ble_eq_true rfl) ?_
  refine W.eq (g2 := F0 m 4 ls []) rfl ?_
  refine lv_aload_n (pc := 4) hx hb d_Win_init_4 rfl (lv_at hl 0 rfl) ?_
  refine lv_iconst (v := -1) (pc := 5) hx hb d_Win_init_5 (by decide) ?_
  refine pf_Win_9 (pc := 6) hC hw k0 d_Win_init_6 (fun M1 H locs eM1 hw => ?_)
  have hp := hp M1 eM1
  exact ret_vm hC hr hlk hw hp d_Win_init_9
set_option maxHeartbeats 4000000 in
set_option maxRecDepth 100000 in
theorem c_Side_init (l : Launch) (D : va_G) (dA : Nat → ClassId) (b n : Nat) (T : mT) (R : mR) (M : mM) (h : Nat) (x1 : Int32) (x2 : Int32) (x3 : Nat) (x4 : Int32) (Q : Nat → mT → mR → mM → Prop) : Met l y_Side_init (Cond.code y_Side_init b_Side_init 6 none :: tW) ({ frames := 3, cells := 38, slots := 451, locals := 54 }) (Pm D dA b n T R M (b + n + 1) [.ref (b + h), .int x1, .int x2, .ref (b + x3), .int x4] (w_Side_init n T R M h x1 x2 x3 x4 Q)) (Qva D dA b  Q) 38 451 (Ab b) := by
  refine fm_body (Ab b) (by decide) (Nat.le_of_ble_eq_true rfl) (fun k h0 _ => show b < b + k by omega) (fun p e s m below meth c ls hC hr hlk hnm hl hw hp => ?_)
  have hx := hC.1.1
  have hb := hC.1.2.1
  have hl : lv_has ls 6 [(0, .ref (b + h)), (1, .int x1), (2, .int x2), (3, .ref (b + x3)), (4, .int x4)] := hl
  generalize hav : (List.toArray ([.ref (b + h), .int x1, .int x2, .ref (b + x3), .int x4] : List Value)) = av at hC ⊢
  unfold w_Side_init at hp
  obtain ⟨k0, hp⟩ := hp
  have L79 : ∀ (N79 : Nat) (a0 : Nat) (a5 : Int32) (n : Nat) (T : mT) (R : mR) (M : mM) (cs : Nat) (sl : Nat) (ls : Array Slot) (H : Heap) (locs : List Loc), okS T n a0 → cs ≤ 38 ∧ sl ≤ 451 → lv_has ls 6 [(0, .ref (b + a0)), (5, .int a5)] → St D dA (Ab b) b n T R M (b + n + 1) s.heap H locs → w_Side_init_L79 Q a0 N79 a5 n T R M cs sl → W p l e ({ frames := 3, cells := 38, slots := 451, locals := 54 }) s m av below meth c H locs cs sl (MQ below (Qva D dA b  Q) av s 38 451 (Ab b)) (F0 m 79 ls []) := by
    intro N79
    induction N79 with
    | zero => intro a0 a5 n T R M cs sl ls H locs f44 hcs hl hw hp; exact False.elim hp
    | succ N79 ih79 =>
      intro a0 a5 n T R M cs sl ls H locs f44 hcs hl hw hp
      unfold w_Side_init_L79 at hp
      refine lv_iload (pc := 79) hx hb d_Side_init_79 (lv_at hl 1 rfl) ?_
      refine lv_aload_n (pc := 81) hx hb d_Side_init_81 rfl (lv_at hl 0 rfl) ?_
      obtain ⟨k45, hp⟩ := hp
      refine gf_Side_20 (pc := 82) hC hw f44 (Nat.ne_of_gt k45.1) d_Side_init_82 ?_
      refine fm_alen (pc := 85) (t0 := 4) hC hw k45 rfl (by decide) d_Side_init_85 ?_
      refine lv_icmp_ge (pc := 86) (tgt := 109) hx hb d_Side_init_86 rfl (fun hc => ?_) (fun hc => ?_)
      · have hp := hp.1 hc
        refine W.widen (k := 38) (n := 451) hcs.1 hcs.2 ?_
        exact ret_va hC hr hlk hw hp d_Side_init_109
      · have hp := hp.2 hc
        refine lv_aload_n (pc := 89) hx hb d_Side_init_89 rfl (lv_at hl 0 rfl) ?_
        refine gf_Side_20 (pc := 90) hC hw f44 (Nat.ne_of_gt k45.1) d_Side_init_90 ?_
        refine lv_iload (pc := 93) hx hb d_Side_init_93 (lv_at hl 1 rfl) ?_
        obtain ⟨k49, hp⟩ := hp
        obtain ⟨k50, hp⟩ := hp
        refine fm_new (pc := 95) hC hw hin_Win t_Win t_Win_ok mw_23 mw_29 mw_30 (rfl : classes[5]? = _) (by decide) (by decide) df_Win k49 k50 d_Side_init_95 (fun T46 R47 M48 H eT46 eR47 eM48 hw => ?_)
        have hp := hp T46 R47 M48 eT46 eR47 eM48
        have f44 := (okS_push eT46 f44 : _)
        have k45 := (ok_push eT46 k45 : _)
        have k51 := ok_new eT46
        refine lv_dup (pc := 98) hx hb d_Side_init_98 rfl ?_
        refine call_vm (pc := 99) (fun _ h => h.1) hw (fm_runIN (As := []) (rest := [.ref (b + (n + 1)), .int a5, .ref (b + (R a0 5))]) hC hw (c_Win_init l D dA b (n + 1) T46 R47 M48 (b + (n + 1) + 1) (n + 1) _) cy_Win_init hp rfl rfl nw_2 mw_31 rfl ⟨Nat.le_of_ble_eq_true rfl, Nat.le_of_ble_eq_true rfl⟩ rfl hl.1 rfl (Nat.le_of_ble_eq_true rfl) d_Side_init_99 ⟨(show cs + 1 + 0 ≤ 38 by omega), (show sl + 2 + 0 ≤ 451 by omega)⟩) (fun M52 H locs hp hw => ?_)
        obtain ⟨k53, hp⟩ := hp
        refine fm_aast (pc := 102) hC hw 4 rfl (by decide) (rfl : classes[5]? = _) (by decide) k45 k53 rfl k51 d_Side_init_102 (fun R54 H locs eR54 hw => ?_)
        have hp := hp R54 eR54
        obtain ⟨v55, ev55⟩ : ∃ z : Int32, z = a5 + (1 : Int32) := ⟨_, rfl⟩
        have hp := hp v55 ev55
        refine lv_iinc (pc := 103) (k := 1) (v := v55) hx hb d_Side_init_103 hl rfl ev55.symm (by decide) rfl (fun ls hl => ?_)
        have hl : lv_has ls 6 [(5, .int v55), (0, .ref (b + a0))] := hl
        refine lv_goto (pc := 106) (tgt := 79) hx hb d_Side_init_106 rfl ?_
        exact ih79  a0 v55 (n + 1) T46 R54 M52 (cs + 1) (sl + 2) ls _ _ f44 (by omega) (lv_sub hl [1, 0] rfl) hw hp
  refine lv_aload_n (pc := 0) hx hb d_Side_init_0 rfl (lv_at hl 0 rfl) ?_
  refine W.objInit hx hb hC.1.2.2.2.1 (hC.1.2.2.2.2 _ mw_18) (hC.1.2.2.2.2 _ mw_1) (hC.1.2.2.2.2 _ mw_2) rfl (hl.1.trans hC.1.2.2.1.symm) rfl d_Side_init_1 (Nat.le_of_ble_eq_true rfl) (Nat.le_of_ble_eq_true rfl) ?_
  refine W.eq (g2 := F0 m 4 ls []) rfl ?_
  refine lv_aload_n (pc := 4) hx hb d_Side_init_4 rfl (lv_at hl 0 rfl) ?_
  refine fm_new (pc := 5) hC hw hin_Noted t_Noted t_Noted_ok mw_19 mw_20 mw_21 (rfl : classes[6]? = _) (by decide) (by decide) df_Noted (Nat.le_of_ble_eq_true rfl) (Nat.le_of_ble_eq_true rfl) d_Side_init_5 (fun T1 R2 M3 H eT1 eR2 eM3 hw => ?_)
  have hp := hp T1 R2 M3 eT1 eR2 eM3
  have k0 := (okS_push eT1 k0 : _)
  have k4 := ok_new eT1
  refine W.widen (k := 1) (n := 2) (Nat.le_of_ble_eq_true rfl) (Nat.le_of_ble_eq_true rfl) ?_
  refine lv_dup (pc := 8) hx hb d_Side_init_8 rfl ?_
  refine call_va (pc := 9) (fun _ h => h) hw (fm_runIN (As := []) (rest := [.ref (b + (n + 1)), .ref (b + h)]) hC hw (c_Noted_init l D dA b (n + 1) T1 R2 M3 (n + 1) _) cy_Noted_init hp rfl rfl nw_1 mw_22 rfl ⟨Nat.le_of_ble_eq_true rfl, Nat.le_of_ble_eq_true rfl⟩ rfl hl.1 rfl (Nat.le_of_ble_eq_true rfl) d_Side_init_9 ⟨(Nat.le_of_ble_eq_true rfl), (Nat.le_of_ble_eq_true rfl)⟩) (fun n5 T6 R7 M8 H locs hp hw => ?_)
  refine W.widen (k := 2) (n := 10) (Nat.le_of_ble_eq_true rfl) (Nat.le_of_ble_eq_true rfl) ?_
  obtain ⟨k9, hp⟩ := hp
  obtain ⟨k10, hp⟩ := hp
  refine pf_Side_12 (pc := 12) hC hw k9 hnm (Nat.ne_of_gt k10.1) d_Side_init_12 (fun R11 H locs eR11 hw => ?_)
  have hp := hp R11 eR11
  refine lv_aload_n (pc := 15) hx hb d_Side_init_15 rfl (lv_at hl 0 rfl) ?_
  refine lv_iconst (v := 4) (pc := 16) hx hb d_Side_init_16 (by decide) ?_
  refine fm_newq (pc := 17) (N' := 4) hC hw 4 rfl (by decide) (by decide) mw_23 (by decide) (by decide) (by decide) (Nat.le_of_ble_eq_true rfl) (Nat.le_of_ble_eq_true rfl) d_Side_init_17 (fun T12 R13 M14 H eT12 eR13 eM14 hw => ?_)
  have hp := hp T12 R13 M14 eT12 eR13 eM14
  have k9 := (okS_push eT12 k9 : _)
  have k10 := (ok_push eT12 k10 : _)
  have k15 := ok_new eT12
  refine W.widen (k := 3) (n := 14) (Nat.le_of_ble_eq_true rfl) (Nat.le_of_ble_eq_true rfl) ?_
  refine pf_Side_20 (pc := 20) hC hw k9 hnm (Nat.ne_of_gt k15.1) d_Side_init_20 (fun R16 H locs eR16 hw => ?_)
  have hp := hp R16 eR16
  refine lv_aload_n (pc := 23) hx hb d_Side_init_23 rfl (lv_at hl 0 rfl) ?_
  refine lv_iconst (v := 4) (pc := 24) hx hb d_Side_init_24 (by decide) ?_
  refine fm_newi (pc := 25) (N' := 4) hC hw mw_3 (by decide) (by decide) (by decide) (Nat.le_of_ble_eq_true rfl) (Nat.le_of_ble_eq_true rfl) d_Side_init_25 (fun T17 R18 M19 H eT17 eR18 eM19 hw => ?_)
  have hp := hp T17 R18 M19 eT17 eR18 eM19
  have k9 := (okS_push eT17 k9 : _)
  have k10 := (ok_push eT17 k10 : _)
  have k15 := (ok_push eT17 k15 : _)
  have k20 := ok_new eT17
  refine W.widen (k := 4) (n := 18) (Nat.le_of_ble_eq_true rfl) (Nat.le_of_ble_eq_true rfl) ?_
  refine pf_Side_24 (pc := 27) hC hw k9 hnm (Nat.ne_of_gt k20.1) d_Side_init_27 (fun R21 H locs eR21 hw => ?_)
  have hp := hp R21 eR21
  refine lv_aload_n (pc := 30) hx hb d_Side_init_30 rfl (lv_at hl 0 rfl) ?_
  refine lv_bipush (v := 60) (pc := 31) hx hb d_Side_init_31 (by decide) ?_
  refine fm_newi (pc := 33) (N' := 60) hC hw mw_3 (by decide) (by decide) (by decide) (Nat.le_of_ble_eq_true rfl) (Nat.le_of_ble_eq_true rfl) d_Side_init_33 (fun T22 R23 M24 H eT22 eR23 eM24 hw => ?_)
  have hp := hp T22 R23 M24 eT22 eR23 eM24
  have k9 := (okS_push eT22 k9 : _)
  have k10 := (ok_push eT22 k10 : _)
  have k15 := (ok_push eT22 k15 : _)
  have k20 := (ok_push eT22 k20 : _)
  have k25 := ok_new eT22
  refine W.widen (k := 5) (n := 78) (Nat.le_of_ble_eq_true rfl) (Nat.le_of_ble_eq_true rfl) ?_
  refine pf_Side_28 (pc := 35) hC hw k9 hnm (Nat.ne_of_gt k25.1) d_Side_init_35 (fun R26 H locs eR26 hw => ?_)
  have hp := hp R26 eR26
  refine lv_aload_n (pc := 38) hx hb d_Side_init_38 rfl (lv_at hl 0 rfl) ?_
  refine lv_iconst (v := 0) (pc := 39) hx hb d_Side_init_39 (by decide) ?_
  refine pf_Side_31 (pc := 40) hC hw k9 d_Side_init_40 (fun M27 H locs eM27 hw => ?_)
  have hp := hp M27 eM27
  refine lv_aload_n (pc := 43) hx hb d_Side_init_43 rfl (lv_at hl 0 rfl) ?_
  refine lv_iconst (v := 0) (pc := 44) hx hb d_Side_init_44 (by decide) ?_
  refine pf_Side_35 (pc := 45) hC hw k9 d_Side_init_45 (fun M28 H locs eM28 hw => ?_)
  have hp := hp M28 eM28
  refine lv_aload_n (pc := 48) hx hb d_Side_init_48 rfl (lv_at hl 0 rfl) ?_
  refine lv_iload_n (pc := 49) hx hb d_Side_init_49 rfl (lv_at hl 1 rfl) ?_
  refine pf_Side_38 (pc := 50) hC hw k9 hnm d_Side_init_50 (fun M29 H locs eM29 hw => ?_)
  have hp := hp M29 eM29
  refine lv_aload_n (pc := 53) hx hb d_Side_init_53 rfl (lv_at hl 0 rfl) ?_
  refine lv_iload_n (pc := 54) hx hb d_Side_init_54 rfl (lv_at hl 2 rfl) ?_
  refine pf_Side_41 (pc := 55) hC hw k9 hnm d_Side_init_55 (fun M30 H locs eM30 hw => ?_)
  have hp := hp M30 eM30
  refine lv_aload_n (pc := 58) hx hb d_Side_init_58 rfl (lv_at hl 0 rfl) ?_
  refine lv_aload_n (pc := 59) hx hb d_Side_init_59 rfl (lv_at hl 3 rfl) ?_
  obtain ⟨k31, hp⟩ := hp
  refine pf_Side_44 (pc := 60) hC hw k9 hnm (Nat.ne_of_gt k31.1) d_Side_init_60 (fun R32 H locs eR32 hw => ?_)
  have hp := hp R32 eR32
  refine lv_aload_n (pc := 63) hx hb d_Side_init_63 rfl (lv_at hl 0 rfl) ?_
  refine fm_new (pc := 64) hC hw hin_Flight t_Flight t_Flight_ok mw_24 mw_25 mw_26 (rfl : classes[2]? = _) (by decide) (by decide) df_Flight (Nat.le_of_ble_eq_true rfl) (Nat.le_of_ble_eq_true rfl) d_Side_init_64 (fun T33 R34 M35 H eT33 eR34 eM35 hw => ?_)
  have hp := hp T33 R34 M35 eT33 eR34 eM35
  have k9 := (okS_push eT33 k9 : _)
  have k10 := (ok_push eT33 k10 : _)
  have k15 := (ok_push eT33 k15 : _)
  have k20 := (ok_push eT33 k20 : _)
  have k25 := (ok_push eT33 k25 : _)
  have k31 := (ok_push eT33 k31 : _)
  have k36 := ok_new eT33
  refine W.widen (k := 6) (n := 83) (Nat.le_of_ble_eq_true rfl) (Nat.le_of_ble_eq_true rfl) ?_
  refine lv_dup (pc := 67) hx hb d_Side_init_67 rfl ?_
  refine lv_iload (pc := 68) hx hb d_Side_init_68 (lv_at hl 4 rfl) ?_
  refine call_va (pc := 70) (fun _ h => h) hw (fm_runI (As := [.int x4]) (rest := [.ref (b + ((((n5 + 1) + 1) + 1) + 1)), .ref (b + h)]) hC hw (c_Flight_init l D dA b ((((n5 + 1) + 1) + 1) + 1) T33 R34 M35 ((((n5 + 1) + 1) + 1) + 1) x4 _) cy_Flight_init hp rfl rfl mw_27 mw_28 rfl ⟨Nat.le_of_ble_eq_true rfl, Nat.le_of_ble_eq_true rfl⟩ rfl hl.1 rfl (Nat.le_of_ble_eq_true rfl) d_Side_init_70 ⟨(Nat.le_of_ble_eq_true rfl), (Nat.le_of_ble_eq_true rfl)⟩) (fun n37 T38 R39 M40 H locs hp hw => ?_)
  refine W.widen (k := 34) (n := 443) (Nat.le_of_ble_eq_true rfl) (Nat.le_of_ble_eq_true rfl) ?_
  obtain ⟨k41, hp⟩ := hp
  obtain ⟨k42, hp⟩ := hp
  refine pf_Side_53 (pc := 73) hC hw k41 hnm (Nat.ne_of_gt k42.1) d_Side_init_73 (fun R43 H locs eR43 hw => ?_)
  have hp := hp R43 eR43
  refine lv_iconst (v := 0) (pc := 76) hx hb d_Side_init_76 (by decide) ?_
  refine lv_istore (pc := 77) hx hb d_Side_init_77 hl (by decide) rfl (fun ls hl => ?_)
  have hl : lv_has ls 6 [(5, .int (0 : Int32)), (0, .ref (b + h)), (1, .int x1), (2, .int x2), (3, .ref (b + x3)), (4, .int x4)] := hl
  obtain ⟨N79, hp⟩ := hp
  exact L79 N79 h (0 : Int32) n37 T38 R43 M40 34 443 ls _ _ k41 (by decide) (lv_sub hl [1, 0] rfl) hw hp
