set_option maxHeartbeats 4000000 in
set_option maxRecDepth 100000 in
theorem c_Rec_markAsPiece (l : Launch) (D : va_G) (dA : Nat → ClassId) (b n : Nat) (T : mT) (R : mR) (M : mM) (sz : Nat) (h : Nat) (x1 : Int32) (x2 : Int32) (Q : mM → Prop) : Met l y_Rec_markAsPiece (Cond.code y_Rec_markAsPiece b_Rec_markAsPiece 3 none :: tW) ({ frames := 0, cells := 0, slots := 0, locals := 0 }) (Pm D dA b n T R M sz [.ref (b + h), .int x1, .int x2] (w_Rec_markAsPiece n T R M h x1 x2 Q)) (Qvm D dA (An b n) b n T R sz Q) 0 0 (An b n) := by
  refine fm_body (An b n) (by decide) (Nat.le_of_ble_eq_true rfl) (fun k h0 h1 => ⟨by omega, by omega⟩) (fun p e s m below meth c ls hC hr hlk hnm hl hw hp => ?_)
  have hx := hC.1.1
  have hb := hC.1.2.1
  have hl : lv_has ls 3 [(0, .ref (b + h)), (1, .int x1), (2, .int x2)] := hl
  generalize hav : (List.toArray ([.ref (b + h), .int x1, .int x2] : List Value)) = av at hC ⊢
  unfold w_Rec_markAsPiece at hp
  obtain ⟨k0, hp⟩ := hp
  refine lv_aload_n (pc := 0) hx hb d_Rec_markAsPiece_0 rfl (lv_at hl 0 rfl) ?_
  refine lv_iload_n (pc := 1) hx hb d_Rec_markAsPiece_1 rfl (lv_at hl 1 rfl) ?_
  refine pf_Rec_28 (pc := 2) hC hw k0 d_Rec_markAsPiece_2 (fun M1 H locs eM1 hw => ?_)
  have hp := hp M1 eM1
  refine lv_aload_n (pc := 5) hx hb d_Rec_markAsPiece_5 rfl (lv_at hl 0 rfl) ?_
  refine lv_iload_n (pc := 6) hx hb d_Rec_markAsPiece_6 rfl (lv_at hl 2 rfl) ?_
  refine pf_Rec_31 (pc := 7) hC hw k0 d_Rec_markAsPiece_7 (fun M2 H locs eM2 hw => ?_)
  have hp := hp M2 eM2
  exact ret_vm hC hr hlk hw hp d_Rec_markAsPiece_10
set_option maxHeartbeats 4000000 in
set_option maxRecDepth 100000 in
theorem c_Rec_hold (l : Launch) (D : va_G) (dA : Nat → ClassId) (b n : Nat) (T : mT) (R : mR) (M : mM) (sz : Nat) (h : Nat) (x1 : Nat) (x2 : Int32) (Q : mM → Prop) : Met l y_Rec_hold (Cond.code y_Rec_hold b_Rec_hold 4 none :: tW) ({ frames := 1, cells := 0, slots := 0, locals := 14 }) (Pm D dA b n T R M sz [.ref (b + h), .ref (b + x1), .int x2] (w_Rec_hold n T R M h x1 x2 Q)) (Qvm D dA (An b n) b n T R sz Q) 0 0 (An b n) := by
  refine fm_body (An b n) (by decide) (Nat.le_of_ble_eq_true rfl) (fun k h0 h1 => ⟨by omega, by omega⟩) (fun p e s m below meth c ls hC hr hlk hnm hl hw hp => ?_)
  have hx := hC.1.1
  have hb := hC.1.2.1
  have hl : lv_has ls 4 [(0, .ref (b + h)), (1, .ref (b + x1)), (2, .int x2)] := hl
  generalize hav : (List.toArray ([.ref (b + h), .ref (b + x1), .int x2] : List Value)) = av at hC ⊢
  unfold w_Rec_hold at hp
  obtain ⟨k0, hp⟩ := hp
  have L20 : ∀ (N20 : Nat) (a0 : Nat) (a1 : Nat) (a3 : Int32) (M : mM)  (ls : Array Slot) (H : Heap) (locs : List Loc), ok T n a0 3 → ok T n a1 100 → lv_has ls 4 [(0, .ref (b + a0)), (1, .ref (b + a1)), (3, .int a3)] → St D dA (An b n) b n T R M sz s.heap H locs → w_Rec_hold_L20 n T R Q a0 a1 N20 a3 M → W p l e ({ frames := 1, cells := 0, slots := 0, locals := 14 }) s m av below meth c H locs 0 0 (MQ below (Qvm D dA (An b n) b n T R sz Q) av s 0 0 (An b n)) (F0 m 20 ls []) := by
    intro N20
    induction N20 with
    | zero => intro a0 a1 a3 M ls H locs f4 f5 hl hw hp; exact False.elim hp
    | succ N20 ih20 =>
      intro a0 a1 a3 M ls H locs f4 f5 hl hw hp
      unfold w_Rec_hold_L20 at hp
      refine lv_iload_n (pc := 20) hx hb d_Rec_hold_20 rfl (lv_at hl 2 rfl) ?_
      refine lv_aload_n (pc := 21) hx hb d_Rec_hold_21 rfl (lv_at hl 0 rfl) ?_
      refine gf_Rec_34 (pc := 22) hC hw f4 d_Rec_hold_22 ?_
      refine lv_icmp_ge (pc := 25) (tgt := 43) hx hb d_Rec_hold_25 rfl (fun hc => ?_) (fun hc => ?_)
      · have hp := hp.1 hc
        exact ret_vm hC hr hlk hw hp d_Rec_hold_43
      · have hp := hp.2 hc
        refine lv_aload_n (pc := 28) hx hb d_Rec_hold_28 rfl (lv_at hl 0 rfl) ?_
        obtain ⟨k6, hp⟩ := hp
        refine gf_Rec_9 (pc := 29) hC hw f4 (Nat.ne_of_gt k6.1) d_Rec_hold_29 ?_
        refine lv_iload_n (pc := 32) hx hb d_Rec_hold_32 rfl (lv_at hl 2 rfl) ?_
        refine lv_aload_n (pc := 33) hx hb d_Rec_hold_33 rfl (lv_at hl 1 rfl) ?_
        refine lv_iload_n (pc := 34) hx hb d_Rec_hold_34 rfl (lv_at hl 2 rfl) ?_
        obtain ⟨k7, hp⟩ := hp
        refine fm_iald (pc := 35) hC hw f5 k7 rfl d_Rec_hold_35 ?_
        obtain ⟨k8, hp⟩ := hp
        refine fm_iast (pc := 36) hC hw k6 k8 rfl d_Rec_hold_36 (fun M9 H locs eM9 hw => ?_)
        have hp := hp M9 eM9
        obtain ⟨v10, ev10⟩ : ∃ z : Int32, z = a3 + (1 : Int32) := ⟨_, rfl⟩
        have hp := hp v10 ev10
        refine lv_iinc (pc := 37) (k := 2) (v := v10) hx hb d_Rec_hold_37 hl rfl ev10.symm (by decide) rfl (fun ls hl => ?_)
        have hl : lv_has ls 4 [(3, .int v10), (0, .ref (b + a0)), (1, .ref (b + a1))] := hl
        refine lv_goto (pc := 40) (tgt := 20) hx hb d_Rec_hold_40 rfl ?_
        exact ih20  a0 a1 v10 M9 ls _ _ f4 f5 (lv_sub hl [1, 2, 0] rfl) hw hp
  refine lv_aload_n (pc := 0) hx hb d_Rec_hold_0 rfl (lv_at hl 0 rfl) ?_
  refine lv_iload_n (pc := 1) hx hb d_Rec_hold_1 rfl (lv_at hl 2 rfl) ?_
  refine lv_aload_n (pc := 2) hx hb d_Rec_hold_2 rfl (lv_at hl 1 rfl) ?_
  obtain ⟨k1, hp⟩ := hp
  refine fm_alen (pc := 3) (t0 := 0) hC hw k1 rfl (by decide) d_Rec_hold_3 ?_
  refine va_mmin (pc := 4) hx hb (hC.1.2.2.1.trans hl.1.symm) hC.1.2.2.2.1 (hC.1.2.2.2.2 _ mw_66) (hC.1.2.2.2.2 _ mw_56) (hC.1.2.2.2.2 _ mw_57) (hC.1.2.2.2.2 _ mw_58) (Nat.le_of_ble_eq_true rfl) (Nat.le_of_ble_eq_true rfl) (Nat.le_of_ble_eq_true rfl) (Nat.le_of_ble_eq_true rfl) d_Rec_hold_4 ?_
  refine lv_aload_n (pc := 7) hx hb d_Rec_hold_7 rfl (lv_at hl 0 rfl) ?_
  obtain ⟨k2, hp⟩ := hp
  refine gf_Rec_9 (pc := 8) hC hw k0 (Nat.ne_of_gt k2.1) d_Rec_hold_8 ?_
  refine fm_alen (pc := 11) (t0 := 0) hC hw k2 rfl (by decide) d_Rec_hold_11 ?_
  refine va_mmin (pc := 12) hx hb (hC.1.2.2.1.trans hl.1.symm) hC.1.2.2.2.1 (hC.1.2.2.2.2 _ mw_66) (hC.1.2.2.2.2 _ mw_56) (hC.1.2.2.2.2 _ mw_57) (hC.1.2.2.2.2 _ mw_58) (Nat.le_of_ble_eq_true rfl) (Nat.le_of_ble_eq_true rfl) (Nat.le_of_ble_eq_true rfl) (Nat.le_of_ble_eq_true rfl) d_Rec_hold_12 ?_
  refine pf_Rec_34 (pc := 15) hC hw k0 d_Rec_hold_15 (fun M3 H locs eM3 hw => ?_)
  have hp := hp M3 eM3
  refine lv_iconst (v := 0) (pc := 18) hx hb d_Rec_hold_18 (by decide) ?_
  refine lv_istore_n (pc := 19) hx hb d_Rec_hold_19 rfl hl (by decide) rfl (fun ls hl => ?_)
  have hl : lv_has ls 4 [(3, .int (0 : Int32)), (0, .ref (b + h)), (1, .ref (b + x1)), (2, .int x2)] := hl
  obtain ⟨N20, hp⟩ := hp
  exact L20 N20 h x1 (0 : Int32) M3 ls _ _ k0 k1 (lv_sub hl [1, 2, 0] rfl) hw hp
set_option maxHeartbeats 4000000 in
set_option maxRecDepth 100000 in
theorem c_Side_sendOpenFragments (l : Launch) (D : va_G) (dA : Nat → ClassId) (b n : Nat) (T : mT) (R : mR) (M : mM) (sz : Nat) (h : Nat) (Q : mM → Prop) : Met l y_Side_sendOpenFragments (Cond.code y_Side_sendOpenFragments b_Side_sendOpenFragments 5 none :: tW) ({ frames := 2, cells := 0, slots := 0, locals := 49 }) (Pm D dA b n T R M sz [.ref (b + h)] (w_Side_sendOpenFragments n T R M h Q)) (Qvm D dA (An b n) b n T R sz Q) 0 0 (An b n) := by
  refine fm_body (An b n) (by decide) (Nat.le_of_ble_eq_true rfl) (fun k h0 h1 => ⟨by omega, by omega⟩) (fun p e s m below meth c ls hC hr hlk hnm hl hw hp => ?_)
  have hx := hC.1.1
  have hb := hC.1.2.1
  have hl : lv_has ls 5 [(0, .ref (b + h))] := hl
  generalize hav : (List.toArray ([.ref (b + h)] : List Value)) = av at hC ⊢
  unfold w_Side_sendOpenFragments at hp
  obtain ⟨k0, hp⟩ := hp
  have L2 : ∀ (N2 : Nat) (a0 : Nat) (a1 : Int32) (M : mM)  (ls : Array Slot) (H : Heap) (locs : List Loc), okS T n a0 → lv_has ls 5 [(0, .ref (b + a0)), (1, .int a1)] → St D dA (An b n) b n T R M sz s.heap H locs → w_Side_sendOpenFragments_L2 n T R Q a0 N2 a1 M → W p l e ({ frames := 2, cells := 0, slots := 0, locals := 49 }) s m av below meth c H locs 0 0 (MQ below (Qvm D dA (An b n) b n T R sz Q) av s 0 0 (An b n)) (F0 m 2 ls []) := by
    intro N2
    induction N2 with
    | zero => intro a0 a1 M ls H locs f1 hl hw hp; exact False.elim hp
    | succ N2 ih2 =>
      intro a0 a1 M ls H locs f1 hl hw hp
      unfold w_Side_sendOpenFragments_L2 at hp
      refine lv_iload_n (pc := 2) hx hb d_Side_sendOpenFragments_2 rfl (lv_at hl 1 rfl) ?_
      refine lv_aload_n (pc := 3) hx hb d_Side_sendOpenFragments_3 rfl (lv_at hl 0 rfl) ?_
      obtain ⟨k2, hp⟩ := hp
      refine gf_Side_53 (pc := 4) hC hw f1 (Nat.ne_of_gt k2.1) d_Side_sendOpenFragments_4 ?_
      refine gf_Side_130 (pc := 7) hC hw k2 d_Side_sendOpenFragments_7 ?_
      refine lv_icmp_ge (pc := 10) (tgt := 95) hx hb d_Side_sendOpenFragments_10 rfl (fun hc => ?_) (fun hc => ?_)
      · have hp := hp.1 hc
        exact ret_vm hC hr hlk hw hp d_Side_sendOpenFragments_95
      · have hp := hp.2 hc
        refine lv_aload_n (pc := 13) hx hb d_Side_sendOpenFragments_13 rfl (lv_at hl 0 rfl) ?_
        refine gf_Side_53 (pc := 14) hC hw f1 (Nat.ne_of_gt k2.1) d_Side_sendOpenFragments_14 ?_
        obtain ⟨k3, hp⟩ := hp
        refine gf_Side_131 (pc := 17) hC hw k2 (Nat.ne_of_gt k3.1) d_Side_sendOpenFragments_17 ?_
        refine lv_iload_n (pc := 20) hx hb d_Side_sendOpenFragments_20 rfl (lv_at hl 1 rfl) ?_
        obtain ⟨k4, hp⟩ := hp
        obtain ⟨k5, hp⟩ := hp
        refine fm_aald (pc := 21) hC hw 3 rfl (by decide) k3 k4 rfl (Nat.ne_of_gt k5.1) d_Side_sendOpenFragments_21 ?_
        refine lv_astore_n (pc := 22) hx hb d_Side_sendOpenFragments_22 rfl hl (by decide) rfl (fun ls hl => ?_)
        have hl : lv_has ls 5 [(2, .ref (b + (R (R (R a0 3) 0) a1.toNatClampNeg))), (0, .ref (b + a0)), (1, .int a1)] := hl
        refine lv_aload_n (pc := 23) hx hb d_Side_sendOpenFragments_23 rfl (lv_at hl 0 rfl) ?_
        refine gf_Side_135 (pc := 24) hC hw k5 d_Side_sendOpenFragments_24 ?_
        refine lv_if_eq (pc := 27) (tgt := 89) hx hb d_Side_sendOpenFragments_27 rfl (fun hc => ?_) (fun hc => ?_)
        · have hp := hp.1 hc
          obtain ⟨v6, ev6⟩ : ∃ z : Int32, z = a1 + (1 : Int32) := ⟨_, rfl⟩
          have hp := hp v6 ev6
          refine lv_iinc (pc := 89) (k := 2) (v := v6) hx hb d_Side_sendOpenFragments_89 hl rfl ev6.symm (by decide) rfl (fun ls hl => ?_)
          have hl : lv_has ls 5 [(1, .int v6), (2, .ref (b + (R (R (R a0 3) 0) a1.toNatClampNeg))), (0, .ref (b + a0))] := hl
          refine lv_goto (pc := 92) (tgt := 2) hx hb d_Side_sendOpenFragments_92 rfl ?_
          exact ih2  a0 v6 M ls _ _ f1 (lv_sub hl [2, 0] rfl) hw hp
        · have hp := hp.2 hc
          refine lv_aload_n (pc := 30) hx hb d_Side_sendOpenFragments_30 rfl (lv_at hl 1 rfl) ?_
          refine lv_aload_n (pc := 31) hx hb d_Side_sendOpenFragments_31 rfl (lv_at hl 0 rfl) ?_
          refine gf_Side_140 (pc := 32) hC hw k5 d_Side_sendOpenFragments_32 ?_
          refine call_im (pc := 35) (fun _ h => h) hw (Or.elim f1 (fun kS => fm_runU (x := (⟨"LossyHandshake$Side", "takeNumber", "(I)I"⟩ : MethodName)) (As := [.int (M (R (R (R a0 3) 0) a1.toNatClampNeg) 3)]) (rest := []) hC hw (c_Side_takeNumber l D dA b n T R M sz a0 (M (R (R (R a0 3) 0) a1.toNatClampNeg) 3) _) cy_Side_takeNumber hp rfl rfl rfl mw_67 mw_68 mw_69 mw_70 (rfl : classes[8]? = _) (by decide) kS ⟨Nat.le_of_ble_eq_true rfl, Nat.le_of_ble_eq_true rfl⟩ rfl hl.1 rfl (Nat.le_of_ble_eq_true rfl) d_Side_sendOpenFragments_35 ⟨(Nat.le_of_ble_eq_true rfl), (Nat.le_of_ble_eq_true rfl)⟩) (fun kS => fm_runU (x := (⟨"LossyHandshake$Side", "takeNumber", "(I)I"⟩ : MethodName)) (As := [.int (M (R (R (R a0 3) 0) a1.toNatClampNeg) 3)]) (rest := []) hC hw (c_Side_takeNumber l D dA b n T R M sz a0 (M (R (R (R a0 3) 0) a1.toNatClampNeg) 3) _) cy_Side_takeNumber hp rfl rfl rfl mw_67 mw_68 mw_69 mw_71 (rfl : classes[9]? = _) (by decide) kS ⟨Nat.le_of_ble_eq_true rfl, Nat.le_of_ble_eq_true rfl⟩ rfl hl.1 rfl (Nat.le_of_ble_eq_true rfl) d_Side_sendOpenFragments_35 ⟨(Nat.le_of_ble_eq_true rfl), (Nat.le_of_ble_eq_true rfl)⟩)) (fun r7 M8 H locs hp hw => ?_)
          refine lv_istore_n (pc := 38) hx hb d_Side_sendOpenFragments_38 rfl hl (by decide) rfl (fun ls hl => ?_)
          have hl : lv_has ls 5 [(3, .int r7), (2, .ref (b + (R (R (R a0 3) 0) a1.toNatClampNeg))), (0, .ref (b + a0)), (1, .int a1)] := hl
          refine lv_aload_n (pc := 39) hx hb d_Side_sendOpenFragments_39 rfl (lv_at hl 1 rfl) ?_
          refine lv_iload_n (pc := 40) hx hb d_Side_sendOpenFragments_40 rfl (lv_at hl 0 rfl) ?_
          refine call_vm (pc := 41) (fun _ h => h) hw (fm_runV (As := [.int r7]) (rest := []) hC hw (c_Frag_rememberSending l D dA b n T R M8 sz (R (R (R a0 3) 0) a1.toNatClampNeg) r7 _) cy_Frag_rememberSending hp rfl rfl mw_72 mw_73 mw_74 (rfl : classes[1]? = _) (by decide) k5 ⟨Nat.le_of_ble_eq_true rfl, Nat.le_of_ble_eq_true rfl⟩ rfl hl.1 rfl (Nat.le_of_ble_eq_true rfl) d_Side_sendOpenFragments_41 ⟨(Nat.le_of_ble_eq_true rfl), (Nat.le_of_ble_eq_true rfl)⟩) (fun M9 H locs hp hw => ?_)
          refine lv_aload_n (pc := 44) hx hb d_Side_sendOpenFragments_44 rfl (lv_at hl 2 rfl) ?_
          obtain ⟨k10, hp⟩ := hp
          refine gf_Side_44 (pc := 45) hC hw f1 (Nat.ne_of_gt k10.1) d_Side_sendOpenFragments_45 ?_
          refine lv_aload_n (pc := 48) hx hb d_Side_sendOpenFragments_48 rfl (lv_at hl 2 rfl) ?_
          refine gf_Side_38 (pc := 49) hC hw f1 d_Side_sendOpenFragments_49 ?_
          refine lv_iconst (v := 0) (pc := 52) hx hb d_Side_sendOpenFragments_52 (by decide) ?_
          refine lv_aload_n (pc := 53) hx hb d_Side_sendOpenFragments_53 rfl (lv_at hl 1 rfl) ?_
          refine gf_Side_140 (pc := 54) hC hw k5 d_Side_sendOpenFragments_54 ?_
          refine lv_iload_n (pc := 57) hx hb d_Side_sendOpenFragments_57 rfl (lv_at hl 0 rfl) ?_
          refine call_rm (pc := 58) (fun _ h => h) hw (fm_runV (As := [.int (M9 a0 0), .int (0 : Int32), .int (M9 (R (R (R a0 3) 0) a1.toNatClampNeg) 3), .int r7]) (rest := []) hC hw (c_Net_append l D dA b n T R M9 sz (R a0 2) (M9 a0 0) (0 : Int32) (M9 (R (R (R a0 3) 0) a1.toNatClampNeg) 3) r7 _) cy_Net_append hp rfl rfl mw_75 mw_76 mw_77 (rfl : classes[4]? = _) (by decide) k10 ⟨Nat.le_of_ble_eq_true rfl, Nat.le_of_ble_eq_true rfl⟩ rfl hl.1 rfl (Nat.le_of_ble_eq_true rfl) d_Side_sendOpenFragments_58 ⟨(Nat.le_of_ble_eq_true rfl), (Nat.le_of_ble_eq_true rfl)⟩) (fun r11 M12 H locs hp z13 hw => ?_)
          refine lv_astore (pc := 61) hx hb d_Side_sendOpenFragments_61 hl (by decide) rfl (fun ls hl => ?_)
          have hl : lv_has ls 5 [(4, .ref (b + r11)), (3, .int r7), (2, .ref (b + (R (R (R a0 3) 0) a1.toNatClampNeg))), (0, .ref (b + a0)), (1, .int a1)] := hl
          refine lv_aload (pc := 63) hx hb d_Side_sendOpenFragments_63 (lv_at hl 0 rfl) ?_
          refine lv_aload_n (pc := 65) hx hb d_Side_sendOpenFragments_65 rfl (lv_at hl 2 rfl) ?_
          refine gf_Side_144 (pc := 66) hC hw k5 d_Side_sendOpenFragments_66 ?_
          refine lv_aload_n (pc := 69) hx hb d_Side_sendOpenFragments_69 rfl (lv_at hl 2 rfl) ?_
          refine gf_Side_147 (pc := 70) hC hw k5 d_Side_sendOpenFragments_70 ?_
          obtain ⟨k14, hp⟩ := hp
          refine call_vm (pc := 73) (fun _ h => h) hw (fm_runV (As := [.int (M12 (R (R (R a0 3) 0) a1.toNatClampNeg) 2), .int (M12 (R (R (R a0 3) 0) a1.toNatClampNeg) 4)]) (rest := []) hC hw (c_Rec_markAsPiece l D dA b n T R M12 sz r11 (M12 (R (R (R a0 3) 0) a1.toNatClampNeg) 2) (M12 (R (R (R a0 3) 0) a1.toNatClampNeg) 4) _) cy_Rec_markAsPiece hp rfl rfl mw_78 mw_79 mw_80 (rfl : classes[3]? = _) (by decide) k14 ⟨Nat.le_of_ble_eq_true rfl, Nat.le_of_ble_eq_true rfl⟩ rfl hl.1 rfl (Nat.le_of_ble_eq_true rfl) d_Side_sendOpenFragments_73 ⟨(Nat.le_of_ble_eq_true rfl), (Nat.le_of_ble_eq_true rfl)⟩) (fun M15 H locs hp hw => ?_)
          refine lv_aload (pc := 76) hx hb d_Side_sendOpenFragments_76 (lv_at hl 0 rfl) ?_
          refine lv_aload_n (pc := 78) hx hb d_Side_sendOpenFragments_78 rfl (lv_at hl 2 rfl) ?_
          obtain ⟨k16, hp⟩ := hp
          refine gf_Side_154 (pc := 79) hC hw k5 (Nat.ne_of_gt k16.1) d_Side_sendOpenFragments_79 ?_
          refine lv_aload_n (pc := 82) hx hb d_Side_sendOpenFragments_82 rfl (lv_at hl 2 rfl) ?_
          refine gf_Side_155 (pc := 83) hC hw k5 d_Side_sendOpenFragments_83 ?_
          refine call_vm (pc := 86) (fun _ h => h) hw (fm_runV (As := [.ref (b + (R (R (R (R a0 3) 0) a1.toNatClampNeg) 0)), .int (M15 (R (R (R a0 3) 0) a1.toNatClampNeg) 5)]) (rest := []) hC hw (c_Rec_hold l D dA b n T R M15 sz r11 (R (R (R (R a0 3) 0) a1.toNatClampNeg) 0) (M15 (R (R (R a0 3) 0) a1.toNatClampNeg) 5) _) cy_Rec_hold hp rfl rfl mw_81 mw_82 mw_83 (rfl : classes[3]? = _) (by decide) k14 ⟨Nat.le_of_ble_eq_true rfl, Nat.le_of_ble_eq_true rfl⟩ rfl hl.1 rfl (Nat.le_of_ble_eq_true rfl) d_Side_sendOpenFragments_86 ⟨(Nat.le_of_ble_eq_true rfl), (Nat.le_of_ble_eq_true rfl)⟩) (fun M17 H locs hp hw => ?_)
          obtain ⟨v18, ev18⟩ : ∃ z : Int32, z = a1 + (1 : Int32) := ⟨_, rfl⟩
          have hp := hp v18 ev18
          refine lv_iinc (pc := 89) (k := 4) (v := v18) hx hb d_Side_sendOpenFragments_89 hl rfl ev18.symm (by decide) rfl (fun ls hl => ?_)
          have hl : lv_has ls 5 [(1, .int v18), (4, .ref (b + r11)), (3, .int r7), (2, .ref (b + (R (R (R a0 3) 0) a1.toNatClampNeg))), (0, .ref (b + a0))] := hl
          refine lv_goto (pc := 92) (tgt := 2) hx hb d_Side_sendOpenFragments_92 rfl ?_
          exact ih2  a0 v18 M17 ls _ _ f1 (lv_sub hl [4, 0] rfl) hw hp
  refine lv_iconst (v := 0) (pc := 0) hx hb d_Side_sendOpenFragments_0 (by decide) ?_
  refine lv_istore_n (pc := 1) hx hb d_Side_sendOpenFragments_1 rfl hl (by decide) rfl (fun ls hl => ?_)
  have hl : lv_has ls 5 [(1, .int (0 : Int32)), (0, .ref (b + h))] := hl
  obtain ⟨N2, hp⟩ := hp
  exact L2 N2 h (0 : Int32) M ls _ _ k0 (lv_sub hl [1, 0] rfl) hw hp
set_option maxHeartbeats 4000000 in
set_option maxRecDepth 100000 in
theorem c_Client_sendFlight (l : Launch) (D : va_G) (dA : Nat → ClassId) (b n : Nat) (T : mT) (R : mR) (M : mM) (sz : Nat) (h : Nat) (x1 : Nat) (Q : mM → Prop) : Met l y_Client_sendFlight (Cond.code y_Client_sendFlight b_Client_sendFlight 2 none :: tW) ({ frames := 3, cells := 0, slots := 0, locals := 73 }) (Pm D dA b n T R M sz [.ref (b + h), .ref (b + x1)] (w_Client_sendFlight n T R M h x1 Q)) (Qvm D dA (An b n) b n T R sz Q) 0 0 (An b n) := by
  refine fm_body (An b n) (by decide) (Nat.le_of_ble_eq_true rfl) (fun k h0 h1 => ⟨by omega, by omega⟩) (fun p e s m below meth c ls hC hr hlk hnm hl hw hp => ?_)
  have hx := hC.1.1
  have hb := hC.1.2.1
  have hl : lv_has ls 2 [(0, .ref (b + h)), (1, .ref (b + x1))] := hl
  generalize hav : (List.toArray ([.ref (b + h), .ref (b + x1)] : List Value)) = av at hC ⊢
  unfold w_Client_sendFlight at hp
  obtain ⟨k0, hp⟩ := hp
  refine lv_aload_n (pc := 0) hx hb d_Client_sendFlight_0 rfl (lv_at hl 0 rfl) ?_
  refine lv_aload_n (pc := 1) hx hb d_Client_sendFlight_1 rfl (lv_at hl 1 rfl) ?_
  refine call_vm (pc := 2) (fun _ h => h) hw (fm_runU (x := (⟨"LossyHandshake$Client", "addToTranscript", "(LLossyHandshake$Message;)V"⟩ : MethodName)) (As := [.ref (b + x1)]) (rest := []) hC hw (c_Side_addToTranscript l D dA b n T R M sz h x1 _) cy_Side_addToTranscript hp rfl rfl rfl mw_84 mw_85 mw_86 mw_87 (rfl : classes[8]? = _) (by decide) k0 ⟨Nat.le_of_ble_eq_true rfl, Nat.le_of_ble_eq_true rfl⟩ rfl hl.1 rfl (Nat.le_of_ble_eq_true rfl) d_Client_sendFlight_2 ⟨(Nat.le_of_ble_eq_true rfl), (Nat.le_of_ble_eq_true rfl)⟩) (fun M1 H locs hp hw => ?_)
  refine lv_aload_n (pc := 5) hx hb d_Client_sendFlight_5 rfl (lv_at hl 0 rfl) ?_
  obtain ⟨k2, hp⟩ := hp
  refine gf_Client_60 (pc := 6) hC hw k0 (Nat.ne_of_gt k2.1) d_Client_sendFlight_6 ?_
  refine call_vm (pc := 9) (fun _ h => h) hw (fm_runV (As := []) (rest := []) hC hw (c_Flight_begin l D dA b n T R M1 sz (R h 3) _) cy_Flight_begin hp rfl rfl mw_88 mw_89 mw_90 (rfl : classes[2]? = _) (by decide) k2 ⟨Nat.le_of_ble_eq_true rfl, Nat.le_of_ble_eq_true rfl⟩ rfl hl.1 rfl (Nat.le_of_ble_eq_true rfl) d_Client_sendFlight_9 ⟨(Nat.le_of_ble_eq_true rfl), (Nat.le_of_ble_eq_true rfl)⟩) (fun M3 H locs hp hw => ?_)
  refine lv_aload_n (pc := 12) hx hb d_Client_sendFlight_12 rfl (lv_at hl 0 rfl) ?_
  refine gf_Client_60 (pc := 13) hC hw k0 (Nat.ne_of_gt k2.1) d_Client_sendFlight_13 ?_
  refine lv_aload_n (pc := 16) hx hb d_Client_sendFlight_16 rfl (lv_at hl 1 rfl) ?_
  refine lv_aload_n (pc := 17) hx hb d_Client_sendFlight_17 rfl (lv_at hl 0 rfl) ?_
  refine gf_Client_70 (pc := 18) hC hw k0 d_Client_sendFlight_18 ?_
  refine call_vm (pc := 21) (fun _ h => h) hw (fm_runV (As := [.ref (b + x1), .int (M3 h 1)]) (rest := []) hC hw (c_Flight_add l D dA b n T R M3 sz (R h 3) x1 (M3 h 1) _) cy_Flight_add hp rfl rfl mw_91 mw_92 mw_93 (rfl : classes[2]? = _) (by decide) k2 ⟨Nat.le_of_ble_eq_true rfl, Nat.le_of_ble_eq_true rfl⟩ rfl hl.1 rfl (Nat.le_of_ble_eq_true rfl) d_Client_sendFlight_21 ⟨(Nat.le_of_ble_eq_true rfl), (Nat.le_of_ble_eq_true rfl)⟩) (fun M4 H locs hp hw => ?_)
  refine lv_aload_n (pc := 24) hx hb d_Client_sendFlight_24 rfl (lv_at hl 0 rfl) ?_
  refine call_vm (pc := 25) (fun _ h => h) hw (fm_runU (x := (⟨"LossyHandshake$Client", "sendOpenFragments", "()V"⟩ : MethodName)) (As := []) (rest := []) hC hw (c_Side_sendOpenFragments l D dA b n T R M4 sz h _) cy_Side_sendOpenFragments hp rfl rfl rfl mw_94 mw_95 mw_96 mw_97 (rfl : classes[8]? = _) (by decide) k0 ⟨Nat.le_of_ble_eq_true rfl, Nat.le_of_ble_eq_true rfl⟩ rfl hl.1 rfl (Nat.le_of_ble_eq_true rfl) d_Client_sendFlight_25 ⟨(Nat.le_of_ble_eq_true rfl), (Nat.le_of_ble_eq_true rfl)⟩) (fun M5 H locs hp hw => ?_)
  exact ret_vm hC hr hlk hw hp d_Client_sendFlight_28
set_option maxHeartbeats 4000000 in
set_option maxRecDepth 100000 in
theorem c_Side_enter (l : Launch) (D : va_G) (dA : Nat → ClassId) (b n : Nat) (T : mT) (R : mR) (M : mM) (sz : Nat) (h : Nat) (x1 : Int32) (Q : mM → Prop) : Met l y_Side_enter (Cond.code y_Side_enter b_Side_enter 2 none :: tW) ({ frames := 0, cells := 0, slots := 0, locals := 0 }) (Pm D dA b n T R M sz [.ref (b + h), .int x1] (w_Side_enter n T R M h x1 Q)) (Qvm D dA (An b n) b n T R sz Q) 0 0 (An b n) := by
  refine fm_body (An b n) (by decide) (Nat.le_of_ble_eq_true rfl) (fun k h0 h1 => ⟨by omega, by omega⟩) (fun p e s m below meth c ls hC hr hlk hnm hl hw hp => ?_)
  have hx := hC.1.1
  have hb := hC.1.2.1
  have hl : lv_has ls 2 [(0, .ref (b + h)), (1, .int x1)] := hl
  generalize hav : (List.toArray ([.ref (b + h), .int x1] : List Value)) = av at hC ⊢
  unfold w_Side_enter at hp
  obtain ⟨k0, hp⟩ := hp
  refine lv_aload_n (pc := 0) hx hb d_Side_enter_0 rfl (lv_at hl 0 rfl) ?_
  refine lv_iload_n (pc := 1) hx hb d_Side_enter_1 rfl (lv_at hl 1 rfl) ?_
  refine pf_Side_58 (pc := 2) hC hw k0 d_Side_enter_2 (fun M1 H locs eM1 hw => ?_)
  have hp := hp M1 eM1
  refine lv_aload_n (pc := 5) hx hb d_Side_enter_5 rfl (lv_at hl 0 rfl) ?_
  refine lv_iconst (v := 0) (pc := 6) hx hb d_Side_enter_6 (by decide) ?_
  refine pf_Side_61 (pc := 7) hC hw k0 d_Side_enter_7 (fun M2 H locs eM2 hw => ?_)
  have hp := hp M2 eM2
  exact ret_vm hC hr hlk hw hp d_Side_enter_10
set_option maxHeartbeats 4000000 in
set_option maxRecDepth 100000 in
theorem c_Client_sendHello (l : Launch) (D : va_G) (dA : Nat → ClassId) (b n : Nat) (T : mT) (R : mR) (M : mM) (sz : Nat) (h : Nat) (Q : mM → Prop) : Met l y_Client_sendHello (Cond.code y_Client_sendHello b_Client_sendHello 1 none :: tW) ({ frames := 4, cells := 0, slots := 0, locals := 94 }) (Pm D dA b n T R M sz [.ref (b + h)] (w_Client_sendHello n T R M h Q)) (Qvm D dA (An b n) b n T R sz Q) 0 0 (An b n) := by
  refine fm_body (An b n) (by decide) (Nat.le_of_ble_eq_true rfl) (fun k h0 h1 => ⟨by omega, by omega⟩) (fun p e s m below meth c ls hC hr hlk hnm hl hw hp => ?_)
  have hx := hC.1.1
  have hb := hC.1.2.1
  have hl : lv_has ls 1 [(0, .ref (b + h))] := hl
  generalize hav : (List.toArray ([.ref (b + h)] : List Value)) = av at hC ⊢
  unfold w_Client_sendHello at hp
  obtain ⟨k0, hp⟩ := hp
  refine lv_aload_n (pc := 0) hx hb d_Client_sendHello_0 rfl (lv_at hl 0 rfl) ?_
  obtain ⟨k1, hp⟩ := hp
  refine gf_Client_14 (pc := 1) hC hw k0 (Nat.ne_of_gt k1.1) d_Client_sendHello_1 ?_
  refine lv_iconst (v := 0) (pc := 4) hx hb d_Client_sendHello_4 (by decide) ?_
  refine lv_aload_n (pc := 5) hx hb d_Client_sendHello_5 rfl (lv_at hl 0 rfl) ?_
  refine gf_Client_30 (pc := 6) hC hw k0 d_Client_sendHello_6 ?_
  refine call_vm (pc := 9) (fun _ h => h) hw (fm_runV (As := [.int (0 : Int32), .int (M h 14)]) (rest := []) hC hw (c_Msg_writeInt l D dA b n T R M sz (R h 15) (0 : Int32) (M h 14) _) cy_Msg_writeInt hp rfl rfl mw_98 mw_99 mw_100 (rfl : classes[0]? = _) (by decide) k1 ⟨Nat.le_of_ble_eq_true rfl, Nat.le_of_ble_eq_true rfl⟩ rfl hl.1 rfl (Nat.le_of_ble_eq_true rfl) d_Client_sendHello_9 ⟨(Nat.le_of_ble_eq_true rfl), (Nat.le_of_ble_eq_true rfl)⟩) (fun M2 H locs hp hw => ?_)
  refine lv_aload_n (pc := 12) hx hb d_Client_sendHello_12 rfl (lv_at hl 0 rfl) ?_
  refine lv_aload_n (pc := 13) hx hb d_Client_sendHello_13 rfl (lv_at hl 0 rfl) ?_
  refine gf_Client_14 (pc := 14) hC hw k0 (Nat.ne_of_gt k1.1) d_Client_sendHello_14 ?_
  refine call_vm (pc := 17) (fun _ h => h) hw (fm_runV (As := [.ref (b + (R h 15))]) (rest := []) hC hw (c_Client_sendFlight l D dA b n T R M2 sz h (R h 15) _) cy_Client_sendFlight hp rfl rfl mw_101 mw_102 mw_103 (rfl : classes[8]? = _) (by decide) k0 ⟨Nat.le_of_ble_eq_true rfl, Nat.le_of_ble_eq_true rfl⟩ rfl hl.1 rfl (Nat.le_of_ble_eq_true rfl) d_Client_sendHello_17 ⟨(Nat.le_of_ble_eq_true rfl), (Nat.le_of_ble_eq_true rfl)⟩) (fun M3 H locs hp hw => ?_)
  refine lv_aload_n (pc := 20) hx hb d_Client_sendHello_20 rfl (lv_at hl 0 rfl) ?_
  refine lv_iconst (v := 1) (pc := 21) hx hb d_Client_sendHello_21 (by decide) ?_
  refine call_vm (pc := 22) (fun _ h => h) hw (fm_runU (x := (⟨"LossyHandshake$Client", "enter", "(I)V"⟩ : MethodName)) (As := [.int (1 : Int32)]) (rest := []) hC hw (c_Side_enter l D dA b n T R M3 sz h (1 : Int32) _) cy_Side_enter hp rfl rfl rfl mw_104 mw_105 mw_106 mw_107 (rfl : classes[8]? = _) (by decide) k0 ⟨Nat.le_of_ble_eq_true rfl, Nat.le_of_ble_eq_true rfl⟩ rfl hl.1 rfl (Nat.le_of_ble_eq_true rfl) d_Client_sendHello_22 ⟨(Nat.le_of_ble_eq_true rfl), (Nat.le_of_ble_eq_true rfl)⟩) (fun M4 H locs hp hw => ?_)
  exact ret_vm hC hr hlk hw hp d_Client_sendHello_25
set_option maxHeartbeats 4000000 in
set_option maxRecDepth 100000 in
theorem c_Win_isOld (l : Launch) (D : va_G) (dA : Nat → ClassId) (b n : Nat) (T : mT) (R : mR) (M : mM) (sz : Nat) (h : Nat) (x1 : Int32) (Q : Int32 → Prop) : Met l y_Win_isOld (Cond.code y_Win_isOld b_Win_isOld 3 (some .boolean) :: tW) ({ frames := 0, cells := 0, slots := 0, locals := 0 }) (Pm D dA b n T R M sz [.ref (b + h), .int x1] (w_Win_isOld n T R M h x1 Q)) (Qzp D dA (An b n) b n T R M sz Q) 0 0 (An b n) := by
  refine fm_body (An b n) (by decide) (Nat.le_of_ble_eq_true rfl) (fun k h0 h1 => ⟨by omega, by omega⟩) (fun p e s m below meth c ls hC hr hlk hnm hl hw hp => ?_)
  have hx := hC.1.1
  have hb := hC.1.2.1
  have hl : lv_has ls 3 [(0, .ref (b + h)), (1, .int x1)] := hl
  generalize hav : (List.toArray ([.ref (b + h), .int x1] : List Value)) = av at hC ⊢
  unfold w_Win_isOld at hp
  obtain ⟨k0, hp⟩ := hp
  refine lv_aload_n (pc := 0) hx hb d_Win_isOld_0 rfl (lv_at hl 0 rfl) ?_
  refine gf_Win_9 (pc := 1) hC hw k0 d_Win_isOld_1 ?_
  refine lv_iload_n (pc := 4) hx hb d_Win_isOld_4 rfl (lv_at hl 1 rfl) ?_
  refine lv_isub (pc := 5) hx hb d_Win_isOld_5 ?_
  refine lv_topi (fun v1 ev1 => ?_)
  have hp := hp v1 ev1
  refine lv_istore_n (pc := 6) hx hb d_Win_isOld_6 rfl hl (by decide) rfl (fun ls hl => ?_)
  have hl : lv_has ls 3 [(2, .int v1), (0, .ref (b + h)), (1, .int x1)] := hl
  refine lv_iload_n (pc := 7) hx hb d_Win_isOld_7 rfl (lv_at hl 0 rfl) ?_
  refine lv_if_lt (pc := 8) (tgt := 33) hx hb d_Win_isOld_8 rfl (fun hc => ?_) (fun hc => ?_)
  · have hp := hp.1 hc
    refine lv_iconst (v := 0) (pc := 33) hx hb d_Win_isOld_33 (by decide) ?_
    exact ret_zp hC hr hlk hw (Or.inl rfl) hp d_Win_isOld_34
  · have hp := hp.2 hc
    refine lv_iload_n (pc := 11) hx hb d_Win_isOld_11 rfl (lv_at hl 0 rfl) ?_
    refine lv_bipush (v := 16) (pc := 12) hx hb d_Win_isOld_12 (by decide) ?_
    refine lv_icmp_ge (pc := 14) (tgt := 29) hx hb d_Win_isOld_14 rfl (fun hc => ?_) (fun hc => ?_)
    · have hp := hp.1 hc
      refine lv_iconst (v := 1) (pc := 29) hx hb d_Win_isOld_29 (by decide) ?_
      refine lv_goto (pc := 30) (tgt := 34) hx hb d_Win_isOld_30 rfl ?_
      exact ret_zp hC hr hlk hw (Or.inr rfl) hp d_Win_isOld_34
    · have hp := hp.2 hc
      refine lv_aload_n (pc := 17) hx hb d_Win_isOld_17 rfl (lv_at hl 1 rfl) ?_
      refine gf_Win_15 (pc := 18) hC hw k0 d_Win_isOld_18 ?_
      refine lv_iload_n (pc := 21) hx hb d_Win_isOld_21 rfl (lv_at hl 0 rfl) ?_
      refine lv_iushr (v := jushr (M h 1) v1) (pc := 22) hx hb d_Win_isOld_22 rfl ?_
      refine lv_iconst (v := 1) (pc := 23) hx hb d_Win_isOld_23 (by decide) ?_
      refine lv_iand (pc := 24) hx hb d_Win_isOld_24 ?_
      refine lv_iconst (v := 1) (pc := 25) hx hb d_Win_isOld_25 (by decide) ?_
      refine lv_icmp_ne (pc := 26) (tgt := 33) hx hb d_Win_isOld_26 rfl (fun hc => ?_) (fun hc => ?_)
      · have hp := hp.2 hc
        refine lv_iconst (v := 0) (pc := 33) hx hb d_Win_isOld_33 (by decide) ?_
        exact ret_zp hC hr hlk hw (Or.inl rfl) hp d_Win_isOld_34
      · have hp := hp.1 hc
        refine lv_iconst (v := 1) (pc := 29) hx hb d_Win_isOld_29 (by decide) ?_
        refine lv_goto (pc := 30) (tgt := 34) hx hb d_Win_isOld_30 rfl ?_
        exact ret_zp hC hr hlk hw (Or.inr rfl) hp d_Win_isOld_34
set_option maxHeartbeats 4000000 in
set_option maxRecDepth 100000 in
theorem c_Side_throwsAway (l : Launch) (D : va_G) (dA : Nat → ClassId) (b n : Nat) (T : mT) (R : mR) (M : mM) (sz : Nat) (h : Nat) (x1 : Nat) (Q : Int32 → Prop) : Met l y_Side_throwsAway (Cond.code y_Side_throwsAway b_Side_throwsAway 2 (some .boolean) :: tW) ({ frames := 1, cells := 0, slots := 0, locals := 22 }) (Pm D dA b n T R M sz [.ref (b + h), .ref (b + x1)] (w_Side_throwsAway n T R M h x1 Q)) (Qzp D dA (An b n) b n T R M sz Q) 0 0 (An b n) := by
  refine fm_body (An b n) (by decide) (Nat.le_of_ble_eq_true rfl) (fun k h0 h1 => ⟨by omega, by omega⟩) (fun p e s m below meth c ls hC hr hlk hnm hl hw hp => ?_)
  have hx := hC.1.1
  have hb := hC.1.2.1
  have hl : lv_has ls 2 [(0, .ref (b + h)), (1, .ref (b + x1))] := hl
  generalize hav : (List.toArray ([.ref (b + h), .ref (b + x1)] : List Value)) = av at hC ⊢
  unfold w_Side_throwsAway at hp
  obtain ⟨k0, hp⟩ := hp
  refine lv_aload_n (pc := 0) hx hb d_Side_throwsAway_0 rfl (lv_at hl 1 rfl) ?_
  obtain ⟨k1, hp⟩ := hp
  refine gf_Side_76 (pc := 1) hC hw k1 d_Side_throwsAway_1 ?_
  refine lv_if_ne (pc := 4) (tgt := 45) hx hb d_Side_throwsAway_4 rfl (fun hc => ?_) (fun hc => ?_)
  · have hp := hp.2 hc
    refine lv_iconst (v := 1) (pc := 45) hx hb d_Side_throwsAway_45 (by decide) ?_
    refine lv_goto (pc := 46) (tgt := 50) hx hb d_Side_throwsAway_46 rfl ?_
    exact ret_zp hC hr hlk hw (Or.inr rfl) hp d_Side_throwsAway_50
  · have hp := hp.1 hc
    refine lv_aload_n (pc := 7) hx hb d_Side_throwsAway_7 rfl (lv_at hl 0 rfl) ?_
    refine gf_Side_58 (pc := 8) hC hw k0 d_Side_throwsAway_8 ?_
    refine lv_iconst (v := 5) (pc := 11) hx hb d_Side_throwsAway_11 (by decide) ?_
    refine lv_icmp_eq (pc := 12) (tgt := 45) hx hb d_Side_throwsAway_12 rfl (fun hc => ?_) (fun hc => ?_)
    · have hp := hp.1 hc
      refine lv_iconst (v := 1) (pc := 45) hx hb d_Side_throwsAway_45 (by decide) ?_
      refine lv_goto (pc := 46) (tgt := 50) hx hb d_Side_throwsAway_46 rfl ?_
      exact ret_zp hC hr hlk hw (Or.inr rfl) hp d_Side_throwsAway_50
    · have hp := hp.2 hc
      refine lv_aload_n (pc := 15) hx hb d_Side_throwsAway_15 rfl (lv_at hl 1 rfl) ?_
      refine gf_Side_82 (pc := 16) hC hw k1 d_Side_throwsAway_16 ?_
      refine lv_aload_n (pc := 19) hx hb d_Side_throwsAway_19 rfl (lv_at hl 0 rfl) ?_
      refine gf_Side_35 (pc := 20) hC hw k0 d_Side_throwsAway_20 ?_
      refine lv_icmp_gt (pc := 23) (tgt := 45) hx hb d_Side_throwsAway_23 rfl (fun hc => ?_) (fun hc => ?_)
      · have hp := hp.1 hc
        refine lv_iconst (v := 1) (pc := 45) hx hb d_Side_throwsAway_45 (by decide) ?_
        refine lv_goto (pc := 46) (tgt := 50) hx hb d_Side_throwsAway_46 rfl ?_
        exact ret_zp hC hr hlk hw (Or.inr rfl) hp d_Side_throwsAway_50
      · have hp := hp.2 hc
        refine lv_aload_n (pc := 26) hx hb d_Side_throwsAway_26 rfl (lv_at hl 0 rfl) ?_
        obtain ⟨k2, hp⟩ := hp
        refine gf_Side_20 (pc := 27) hC hw k0 (Nat.ne_of_gt k2.1) d_Side_throwsAway_27 ?_
        refine lv_aload_n (pc := 30) hx hb d_Side_throwsAway_30 rfl (lv_at hl 1 rfl) ?_
        refine gf_Side_82 (pc := 31) hC hw k1 d_Side_throwsAway_31 ?_
        obtain ⟨k3, hp⟩ := hp
        obtain ⟨k4, hp⟩ := hp
        refine fm_aald (pc := 34) hC hw 4 rfl (by decide) k2 k3 rfl (Nat.ne_of_gt k4.1) d_Side_throwsAway_34 ?_
        refine lv_aload_n (pc := 35) hx hb d_Side_throwsAway_35 rfl (lv_at hl 1 rfl) ?_
        refine gf_Side_85 (pc := 36) hC hw k1 d_Side_throwsAway_36 ?_
        refine call_zp (pc := 39) (fun _ h => h) hw (fm_runV (As := [.int (M x1 5)]) (rest := []) hC hw (c_Win_isOld l D dA b n T R M sz (R (R h 5) (M x1 4).toNatClampNeg) (M x1 5) _) cy_Win_isOld hp rfl rfl mw_108 mw_109 mw_110 (rfl : classes[5]? = _) (by decide) k4 ⟨Nat.le_of_ble_eq_true rfl, Nat.le_of_ble_eq_true rfl⟩ rfl hl.1 rfl (Nat.le_of_ble_eq_true rfl) d_Side_throwsAway_39 ⟨(Nat.le_of_ble_eq_true rfl), (Nat.le_of_ble_eq_true rfl)⟩) (fun r5 H locs hp z6 hw => ?_)
        refine lv_if_eq (pc := 42) (tgt := 49) hx hb d_Side_throwsAway_42 rfl (fun hc => ?_) (fun hc => ?_)
        · have hp := hp.1 hc
          refine lv_iconst (v := 0) (pc := 49) hx hb d_Side_throwsAway_49 (by decide) ?_
          exact ret_zp hC hr hlk hw (Or.inl rfl) hp d_Side_throwsAway_50
        · have hp := hp.2 hc
          refine lv_iconst (v := 1) (pc := 45) hx hb d_Side_throwsAway_45 (by decide) ?_
          refine lv_goto (pc := 46) (tgt := 50) hx hb d_Side_throwsAway_46 rfl ?_
          exact ret_zp hC hr hlk hw (Or.inr rfl) hp d_Side_throwsAway_50
set_option maxHeartbeats 4000000 in
set_option maxRecDepth 100000 in
theorem c_Win_letIn (l : Launch) (D : va_G) (dA : Nat → ClassId) (b n : Nat) (T : mT) (R : mR) (M : mM) (sz : Nat) (h : Nat) (x1 : Int32) (Q : mM → Prop) : Met l y_Win_letIn (Cond.code y_Win_letIn b_Win_letIn 3 none :: tW) ({ frames := 0, cells := 0, slots := 0, locals := 0 }) (Pm D dA b n T R M sz [.ref (b + h), .int x1] (w_Win_letIn n T R M h x1 Q)) (Qvm D dA (An b n) b n T R sz Q) 0 0 (An b n) := by
  refine fm_body (An b n) (by decide) (Nat.le_of_ble_eq_true rfl) (fun k h0 h1 => ⟨by omega, by omega⟩) (fun p e s m below meth c ls hC hr hlk hnm hl hw hp => ?_)
  have hx := hC.1.1
  have hb := hC.1.2.1
  have hl : lv_has ls 3 [(0, .ref (b + h)), (1, .int x1)] := hl
  generalize hav : (List.toArray ([.ref (b + h), .int x1] : List Value)) = av at hC ⊢
  unfold w_Win_letIn at hp
  obtain ⟨k0, hp⟩ := hp
  refine lv_iload_n (pc := 0) hx hb d_Win_letIn_0 rfl (lv_at hl 1 rfl) ?_
  refine lv_aload_n (pc := 1) hx hb d_Win_letIn_1 rfl (lv_at hl 0 rfl) ?_
  refine gf_Win_9 (pc := 2) hC hw k0 d_Win_letIn_2 ?_
  refine lv_isub (pc := 5) hx hb d_Win_letIn_5 ?_
  refine lv_topi (fun v1 ev1 => ?_)
  have hp := hp v1 ev1
  refine lv_istore_n (pc := 6) hx hb d_Win_letIn_6 rfl hl (by decide) rfl (fun ls hl => ?_)
  have hl : lv_has ls 3 [(2, .int v1), (0, .ref (b + h)), (1, .int x1)] := hl
  refine lv_iload_n (pc := 7) hx hb d_Win_letIn_7 rfl (lv_at hl 0 rfl) ?_
  refine lv_if_gt (pc := 8) (tgt := 27) hx hb d_Win_letIn_8 rfl (fun hc => ?_) (fun hc => ?_)
  · have hp := hp.1 hc
    refine lv_aload_n (pc := 27) hx hb d_Win_letIn_27 rfl (lv_at hl 1 rfl) ?_
    refine lv_iload_n (pc := 28) hx hb d_Win_letIn_28 rfl (lv_at hl 0 rfl) ?_
    refine lv_bipush (v := 16) (pc := 29) hx hb d_Win_letIn_29 (by decide) ?_
    refine lv_icmp_lt (pc := 31) (tgt := 38) hx hb d_Win_letIn_31 rfl (fun hc => ?_) (fun hc => ?_)
    · have hp := hp.1 hc
      refine lv_aload_n (pc := 38) hx hb d_Win_letIn_38 rfl (lv_at hl 1 rfl) ?_
      refine gf_Win_15 (pc := 39) hC hw k0 d_Win_letIn_39 ?_
      refine lv_iload_n (pc := 42) hx hb d_Win_letIn_42 rfl (lv_at hl 0 rfl) ?_
      refine lv_ishl (pc := 43) hx hb d_Win_letIn_43 ?_
      refine lv_iconst (v := 1) (pc := 44) hx hb d_Win_letIn_44 (by decide) ?_
      refine lv_ior (pc := 45) hx hb d_Win_letIn_45 ?_
      refine pf_Win_15 (pc := 46) hC hw k0 d_Win_letIn_46 (fun M2 H locs eM2 hw => ?_)
      have hp := hp M2 eM2
      refine lv_aload_n (pc := 49) hx hb d_Win_letIn_49 rfl (lv_at hl 1 rfl) ?_
      refine lv_iload_n (pc := 50) hx hb d_Win_letIn_50 rfl (lv_at hl 2 rfl) ?_
      refine pf_Win_9 (pc := 51) hC hw k0 d_Win_letIn_51 (fun M3 H locs eM3 hw => ?_)
      have hp := hp M3 eM3
      exact ret_vm hC hr hlk hw hp d_Win_letIn_54
    · have hp := hp.2 hc
      refine lv_iconst (v := 1) (pc := 34) hx hb d_Win_letIn_34 (by decide) ?_
      refine lv_goto (pc := 35) (tgt := 46) hx hb d_Win_letIn_35 rfl ?_
      refine pf_Win_15 (pc := 46) hC hw k0 d_Win_letIn_46 (fun M4 H locs eM4 hw => ?_)
      have hp := hp M4 eM4
      refine lv_aload_n (pc := 49) hx hb d_Win_letIn_49 rfl (lv_at hl 1 rfl) ?_
      refine lv_iload_n (pc := 50) hx hb d_Win_letIn_50 rfl (lv_at hl 2 rfl) ?_
      refine pf_Win_9 (pc := 51) hC hw k0 d_Win_letIn_51 (fun M5 H locs eM5 hw => ?_)
      have hp := hp M5 eM5
      exact ret_vm hC hr hlk hw hp d_Win_letIn_54
  · have hp := hp.2 hc
    refine lv_aload_n (pc := 11) hx hb d_Win_letIn_11 rfl (lv_at hl 1 rfl) ?_
    refine lv_dup (pc := 12) hx hb d_Win_letIn_12 rfl ?_
    refine gf_Win_15 (pc := 13) hC hw k0 d_Win_letIn_13 ?_
    refine lv_iconst (v := 1) (pc := 16) hx hb d_Win_letIn_16 (by decide) ?_
    refine lv_iload_n (pc := 17) hx hb d_Win_letIn_17 rfl (lv_at hl 0 rfl) ?_
    refine lv_ineg (pc := 18) hx hb d_Win_letIn_18 ?_
    refine lv_ishl (pc := 19) hx hb d_Win_letIn_19 ?_
    refine lv_ior (pc := 20) hx hb d_Win_letIn_20 ?_
    refine pf_Win_15 (pc := 21) hC hw k0 d_Win_letIn_21 (fun M6 H locs eM6 hw => ?_)
    have hp := hp M6 eM6
    refine lv_goto (pc := 24) (tgt := 54) hx hb d_Win_letIn_24 rfl ?_
    exact ret_vm hC hr hlk hw hp d_Win_letIn_54
set_option maxHeartbeats 4000000 in
set_option maxRecDepth 100000 in
theorem c_Side_letIn (l : Launch) (D : va_G) (dA : Nat → ClassId) (b n : Nat) (T : mT) (R : mR) (M : mM) (sz : Nat) (h : Nat) (x1 : Nat) (Q : mM → Prop) : Met l y_Side_letIn (Cond.code y_Side_letIn b_Side_letIn 2 none :: tW) ({ frames := 1, cells := 0, slots := 0, locals := 22 }) (Pm D dA b n T R M sz [.ref (b + h), .ref (b + x1)] (w_Side_letIn n T R M h x1 Q)) (Qvm D dA (An b n) b n T R sz Q) 0 0 (An b n) := by
  refine fm_body (An b n) (by decide) (Nat.le_of_ble_eq_true rfl) (fun k h0 h1 => ⟨by omega, by omega⟩) (fun p e s m below meth c ls hC hr hlk hnm hl hw hp => ?_)
  have hx := hC.1.1
  have hb := hC.1.2.1
  have hl : lv_has ls 2 [(0, .ref (b + h)), (1, .ref (b + x1))] := hl
  generalize hav : (List.toArray ([.ref (b + h), .ref (b + x1)] : List Value)) = av at hC ⊢
  unfold w_Side_letIn at hp
  obtain ⟨k0, hp⟩ := hp
  refine lv_aload_n (pc := 0) hx hb d_Side_letIn_0 rfl (lv_at hl 0 rfl) ?_
  obtain ⟨k1, hp⟩ := hp
  refine gf_Side_20 (pc := 1) hC hw k0 (Nat.ne_of_gt k1.1) d_Side_letIn_1 ?_
  refine lv_aload_n (pc := 4) hx hb d_Side_letIn_4 rfl (lv_at hl 1 rfl) ?_
  obtain ⟨k2, hp⟩ := hp
  refine gf_Side_82 (pc := 5) hC hw k2 d_Side_letIn_5 ?_
  obtain ⟨k3, hp⟩ := hp
  obtain ⟨k4, hp⟩ := hp
  refine fm_aald (pc := 8) hC hw 4 rfl (by decide) k1 k3 rfl (Nat.ne_of_gt k4.1) d_Side_letIn_8 ?_
  refine lv_aload_n (pc := 9) hx hb d_Side_letIn_9 rfl (lv_at hl 1 rfl) ?_
  refine gf_Side_85 (pc := 10) hC hw k2 d_Side_letIn_10 ?_
  refine call_vm (pc := 13) (fun _ h => h) hw (fm_runV (As := [.int (M x1 5)]) (rest := []) hC hw (c_Win_letIn l D dA b n T R M sz (R (R h 5) (M x1 4).toNatClampNeg) (M x1 5) _) cy_Win_letIn hp rfl rfl mw_111 mw_112 mw_113 (rfl : classes[5]? = _) (by decide) k4 ⟨Nat.le_of_ble_eq_true rfl, Nat.le_of_ble_eq_true rfl⟩ rfl hl.1 rfl (Nat.le_of_ble_eq_true rfl) d_Side_letIn_13 ⟨(Nat.le_of_ble_eq_true rfl), (Nat.le_of_ble_eq_true rfl)⟩) (fun M5 H locs hp hw => ?_)
  exact ret_vm hC hr hlk hw hp d_Side_letIn_16
set_option maxHeartbeats 4000000 in
set_option maxRecDepth 100000 in
theorem c_Frag_wasSentIn (l : Launch) (D : va_G) (dA : Nat → ClassId) (b n : Nat) (T : mT) (R : mR) (M : mM) (sz : Nat) (h : Nat) (x1 : Int32) (Q : Int32 → Prop) : Met l y_Frag_wasSentIn (Cond.code y_Frag_wasSentIn b_Frag_wasSentIn 3 (some .boolean) :: tW) ({ frames := 0, cells := 0, slots := 0, locals := 0 }) (Pm D dA b n T R M sz [.ref (b + h), .int x1] (w_Frag_wasSentIn n T R M h x1 Q)) (Qzp D dA (An b n) b n T R M sz Q) 0 0 (An b n) := by
  refine fm_body (An b n) (by decide) (Nat.le_of_ble_eq_true rfl) (fun k h0 h1 => ⟨by omega, by omega⟩) (fun p e s m below meth c ls hC hr hlk hnm hl hw hp => ?_)
  have hx := hC.1.1
  have hb := hC.1.2.1
  have hl : lv_has ls 3 [(0, .ref (b + h)), (1, .int x1)] := hl
  generalize hav : (List.toArray ([.ref (b + h), .int x1] : List Value)) = av at hC ⊢
  unfold w_Frag_wasSentIn at hp
  obtain ⟨k0, hp⟩ := hp
  have L2 : ∀ (N2 : Nat) (a0 : Nat) (a1 : Int32) (a2 : Int32)   (ls : Array Slot) (H : Heap) (locs : List Loc), ok T n a0 1 → lv_has ls 3 [(0, .ref (b + a0)), (1, .int a1), (2, .int a2)] → St D dA (An b n) b n T R M sz s.heap H locs → w_Frag_wasSentIn_L2 n T R M Q a0 a1 N2 a2 → W p l e ({ frames := 0, cells := 0, slots := 0, locals := 0 }) s m av below meth c H locs 0 0 (MQ below (Qzp D dA (An b n) b n T R M sz Q) av s 0 0 (An b n)) (F0 m 2 ls []) := by
    intro N2
    induction N2 with
    | zero => intro a0 a1 a2 ls H locs f1 hl hw hp; exact False.elim hp
    | succ N2 ih2 =>
      intro a0 a1 a2 ls H locs f1 hl hw hp
      unfold w_Frag_wasSentIn_L2 at hp
      refine lv_iload_n (pc := 2) hx hb d_Frag_wasSentIn_2 rfl (lv_at hl 2 rfl) ?_
      refine lv_aload_n (pc := 3) hx hb d_Frag_wasSentIn_3 rfl (lv_at hl 0 rfl) ?_
      refine gf_Frag_44 (pc := 4) hC hw f1 d_Frag_wasSentIn_4 ?_
      refine lv_icmp_ge (pc := 7) (tgt := 28) hx hb d_Frag_wasSentIn_7 rfl (fun hc => ?_) (fun hc => ?_)
      · have hp := hp.1 hc
        refine lv_iconst (v := 0) (pc := 28) hx hb d_Frag_wasSentIn_28 (by decide) ?_
        exact ret_zp hC hr hlk hw (Or.inl rfl) hp d_Frag_wasSentIn_29
      · have hp := hp.2 hc
        refine lv_aload_n (pc := 10) hx hb d_Frag_wasSentIn_10 rfl (lv_at hl 0 rfl) ?_
        obtain ⟨k2, hp⟩ := hp
        refine gf_Frag_15 (pc := 11) hC hw f1 (Nat.ne_of_gt k2.1) d_Frag_wasSentIn_11 ?_
        refine lv_iload_n (pc := 14) hx hb d_Frag_wasSentIn_14 rfl (lv_at hl 2 rfl) ?_
        obtain ⟨k3, hp⟩ := hp
        refine fm_iald (pc := 15) hC hw k2 k3 rfl d_Frag_wasSentIn_15 ?_
        refine lv_iload_n (pc := 16) hx hb d_Frag_wasSentIn_16 rfl (lv_at hl 1 rfl) ?_
        refine lv_icmp_ne (pc := 17) (tgt := 22) hx hb d_Frag_wasSentIn_17 rfl (fun hc => ?_) (fun hc => ?_)
        · have hp := hp.2 hc
          obtain ⟨v4, ev4⟩ : ∃ z : Int32, z = a2 + (1 : Int32) := ⟨_, rfl⟩
          have hp := hp v4 ev4
          refine lv_iinc (pc := 22) (k := 2) (v := v4) hx hb d_Frag_wasSentIn_22 hl rfl ev4.symm (by decide) rfl (fun ls hl => ?_)
          have hl : lv_has ls 3 [(2, .int v4), (0, .ref (b + a0)), (1, .int a1)] := hl
          refine lv_goto (pc := 25) (tgt := 2) hx hb d_Frag_wasSentIn_25 rfl ?_
          exact ih2  a0 a1 v4 ls _ _ f1 (lv_sub hl [1, 2, 0] rfl) hw hp
        · have hp := hp.1 hc
          refine lv_iconst (v := 1) (pc := 20) hx hb d_Frag_wasSentIn_20 (by decide) ?_
          exact ret_zp hC hr hlk hw (Or.inr rfl) hp d_Frag_wasSentIn_21
  refine lv_iconst (v := 0) (pc := 0) hx hb d_Frag_wasSentIn_0 (by decide) ?_
  refine lv_istore_n (pc := 1) hx hb d_Frag_wasSentIn_1 rfl hl (by decide) rfl (fun ls hl => ?_)
  have hl : lv_has ls 3 [(2, .int (0 : Int32)), (0, .ref (b + h)), (1, .int x1)] := hl
  obtain ⟨N2, hp⟩ := hp
  exact L2 N2 h x1 (0 : Int32) ls _ _ k0 (lv_sub hl [1, 2, 0] rfl) hw hp
set_option maxHeartbeats 4000000 in
set_option maxRecDepth 100000 in
theorem c_Flight_closeSentIn (l : Launch) (D : va_G) (dA : Nat → ClassId) (b n : Nat) (T : mT) (R : mR) (M : mM) (sz : Nat) (h : Nat) (x1 : Int32) (Q : mM → Prop) : Met l y_Flight_closeSentIn (Cond.code y_Flight_closeSentIn b_Flight_closeSentIn 3 none :: tW) ({ frames := 1, cells := 0, slots := 0, locals := 22 }) (Pm D dA b n T R M sz [.ref (b + h), .int x1] (w_Flight_closeSentIn n T R M h x1 Q)) (Qvm D dA (An b n) b n T R sz Q) 0 0 (An b n) := by
  refine fm_body (An b n) (by decide) (Nat.le_of_ble_eq_true rfl) (fun k h0 h1 => ⟨by omega, by omega⟩) (fun p e s m below meth c ls hC hr hlk hnm hl hw hp => ?_)
  have hx := hC.1.1
  have hb := hC.1.2.1
  have hl : lv_has ls 3 [(0, .ref (b + h)), (1, .int x1)] := hl
  generalize hav : (List.toArray ([.ref (b + h), .int x1] : List Value)) = av at hC ⊢
  unfold w_Flight_closeSentIn at hp
  obtain ⟨k0, hp⟩ := hp
  have L2 : ∀ (N2 : Nat) (a0 : Nat) (a1 : Int32) (a2 : Int32) (M : mM)  (ls : Array Slot) (H : Heap) (locs : List Loc), ok T n a0 2 → lv_has ls 3 [(0, .ref (b + a0)), (1, .int a1), (2, .int a2)] → St D dA (An b n) b n T R M sz s.heap H locs → w_Flight_closeSentIn_L2 n T R Q a0 a1 N2 a2 M → W p l e ({ frames := 1, cells := 0, slots := 0, locals := 22 }) s m av below meth c H locs 0 0 (MQ below (Qvm D dA (An b n) b n T R sz Q) av s 0 0 (An b n)) (F0 m 2 ls []) := by
    intro N2
    induction N2 with
    | zero => intro a0 a1 a2 M ls H locs f1 hl hw hp; exact False.elim hp
    | succ N2 ih2 =>
      intro a0 a1 a2 M ls H locs f1 hl hw hp
      unfold w_Flight_closeSentIn_L2 at hp
      refine lv_iload_n (pc := 2) hx hb d_Flight_closeSentIn_2 rfl (lv_at hl 2 rfl) ?_
      refine lv_aload_n (pc := 3) hx hb d_Flight_closeSentIn_3 rfl (lv_at hl 0 rfl) ?_
      refine gf_Flight_18 (pc := 4) hC hw f1 d_Flight_closeSentIn_4 ?_
      refine lv_icmp_ge (pc := 7) (tgt := 39) hx hb d_Flight_closeSentIn_7 rfl (fun hc => ?_) (fun hc => ?_)
      · have hp := hp.1 hc
        exact ret_vm hC hr hlk hw hp d_Flight_closeSentIn_39
      · have hp := hp.2 hc
        refine lv_aload_n (pc := 10) hx hb d_Flight_closeSentIn_10 rfl (lv_at hl 0 rfl) ?_
        obtain ⟨k2, hp⟩ := hp
        refine gf_Flight_11 (pc := 11) hC hw f1 (Nat.ne_of_gt k2.1) d_Flight_closeSentIn_11 ?_
        refine lv_iload_n (pc := 14) hx hb d_Flight_closeSentIn_14 rfl (lv_at hl 2 rfl) ?_
        obtain ⟨k3, hp⟩ := hp
        obtain ⟨k4, hp⟩ := hp
        refine fm_aald (pc := 15) hC hw 3 rfl (by decide) k2 k3 rfl (Nat.ne_of_gt k4.1) d_Flight_closeSentIn_15 ?_
        refine lv_iload_n (pc := 16) hx hb d_Flight_closeSentIn_16 rfl (lv_at hl 1 rfl) ?_
        refine call_zp (pc := 17) (fun _ h => h) hw (fm_runV (As := [.int a1]) (rest := []) hC hw (c_Frag_wasSentIn l D dA b n T R M sz (R (R a0 0) a2.toNatClampNeg) a1 _) cy_Frag_wasSentIn hp rfl rfl mw_114 mw_115 mw_116 (rfl : classes[1]? = _) (by decide) k4 ⟨Nat.le_of_ble_eq_true rfl, Nat.le_of_ble_eq_true rfl⟩ rfl hl.1 rfl (Nat.le_of_ble_eq_true rfl) d_Flight_closeSentIn_17 ⟨(Nat.le_of_ble_eq_true rfl), (Nat.le_of_ble_eq_true rfl)⟩) (fun r5 H locs hp z6 hw => ?_)
        refine lv_if_eq (pc := 20) (tgt := 33) hx hb d_Flight_closeSentIn_20 rfl (fun hc => ?_) (fun hc => ?_)
        · have hp := hp.1 hc
          obtain ⟨v7, ev7⟩ : ∃ z : Int32, z = a2 + (1 : Int32) := ⟨_, rfl⟩
          have hp := hp v7 ev7
          refine lv_iinc (pc := 33) (k := 2) (v := v7) hx hb d_Flight_closeSentIn_33 hl rfl ev7.symm (by decide) rfl (fun ls hl => ?_)
          have hl : lv_has ls 3 [(2, .int v7), (0, .ref (b + a0)), (1, .int a1)] := hl
          refine lv_goto (pc := 36) (tgt := 2) hx hb d_Flight_closeSentIn_36 rfl ?_
          exact ih2  a0 a1 v7 M ls _ _ f1 (lv_sub hl [1, 2, 0] rfl) hw hp
        · have hp := hp.2 hc
          refine lv_aload_n (pc := 23) hx hb d_Flight_closeSentIn_23 rfl (lv_at hl 0 rfl) ?_
          refine gf_Flight_11 (pc := 24) hC hw f1 (Nat.ne_of_gt k2.1) d_Flight_closeSentIn_24 ?_
          refine lv_iload_n (pc := 27) hx hb d_Flight_closeSentIn_27 rfl (lv_at hl 2 rfl) ?_
          obtain ⟨k8, hp⟩ := hp
          refine fm_aald (pc := 28) hC hw 3 rfl (by decide) k2 k8 rfl (Nat.ne_of_gt k4.1) d_Flight_closeSentIn_28 ?_
          refine lv_iconst (v := 0) (pc := 29) hx hb d_Flight_closeSentIn_29 (by decide) ?_
          refine pf_Flight_51 (pc := 30) hC hw k4 (Or.inl rfl) d_Flight_closeSentIn_30 (fun M9 H locs eM9 hw => ?_)
          have hp := hp M9 eM9
          obtain ⟨v10, ev10⟩ : ∃ z : Int32, z = a2 + (1 : Int32) := ⟨_, rfl⟩
          have hp := hp v10 ev10
          refine lv_iinc (pc := 33) (k := 2) (v := v10) hx hb d_Flight_closeSentIn_33 hl rfl ev10.symm (by decide) rfl (fun ls hl => ?_)
          have hl : lv_has ls 3 [(2, .int v10), (0, .ref (b + a0)), (1, .int a1)] := hl
          refine lv_goto (pc := 36) (tgt := 2) hx hb d_Flight_closeSentIn_36 rfl ?_
          exact ih2  a0 a1 v10 M9 ls _ _ f1 (lv_sub hl [1, 2, 0] rfl) hw hp
  refine lv_iconst (v := 0) (pc := 0) hx hb d_Flight_closeSentIn_0 (by decide) ?_
  refine lv_istore_n (pc := 1) hx hb d_Flight_closeSentIn_1 rfl hl (by decide) rfl (fun ls hl => ?_)
  have hl : lv_has ls 3 [(2, .int (0 : Int32)), (0, .ref (b + h)), (1, .int x1)] := hl
  obtain ⟨N2, hp⟩ := hp
  exact L2 N2 h x1 (0 : Int32) M ls _ _ k0 (lv_sub hl [1, 2, 0] rfl) hw hp
set_option maxHeartbeats 4000000 in
set_option maxRecDepth 100000 in
theorem c_Side_closeNamed (l : Launch) (D : va_G) (dA : Nat → ClassId) (b n : Nat) (T : mT) (R : mR) (M : mM) (sz : Nat) (h : Nat) (x1 : Nat) (Q : mM → Prop) : Met l y_Side_closeNamed (Cond.code y_Side_closeNamed b_Side_closeNamed 3 none :: tW) ({ frames := 2, cells := 0, slots := 0, locals := 44 }) (Pm D dA b n T R M sz [.ref (b + h), .ref (b + x1)] (w_Side_closeNamed n T R M h x1 Q)) (Qvm D dA (An b n) b n T R sz Q) 0 0 (An b n) := by
  refine fm_body (An b n) (by decide) (Nat.le_of_ble_eq_true rfl) (fun k h0 h1 => ⟨by omega, by omega⟩) (fun p e s m below meth c ls hC hr hlk hnm hl hw hp => ?_)
  have hx := hC.1.1
  have hb := hC.1.2.1
  have hl : lv_has ls 3 [(0, .ref (b + h)), (1, .ref (b + x1))] := hl
  generalize hav : (List.toArray ([.ref (b + h), .ref (b + x1)] : List Value)) = av at hC ⊢
  unfold w_Side_closeNamed at hp
  obtain ⟨k0, hp⟩ := hp
  have L2 : ∀ (N2 : Nat) (a0 : Nat) (a1 : Nat) (a2 : Int32) (M : mM)  (ls : Array Slot) (H : Heap) (locs : List Loc), okS T n a0 → lv_has ls 3 [(0, .ref (b + a0)), (1, .ref (b + a1)), (2, .int a2)] → St D dA (An b n) b n T R M sz s.heap H locs → w_Side_closeNamed_L2 n T R Q a0 a1 N2 a2 M → W p l e ({ frames := 2, cells := 0, slots := 0, locals := 44 }) s m av below meth c H locs 0 0 (MQ below (Qvm D dA (An b n) b n T R sz Q) av s 0 0 (An b n)) (F0 m 2 ls []) := by
    intro N2
    induction N2 with
    | zero => intro a0 a1 a2 M ls H locs f1 hl hw hp; exact False.elim hp
    | succ N2 ih2 =>
      intro a0 a1 a2 M ls H locs f1 hl hw hp
      unfold w_Side_closeNamed_L2 at hp
      refine lv_iload_n (pc := 2) hx hb d_Side_closeNamed_2 rfl (lv_at hl 2 rfl) ?_
      refine lv_aload_n (pc := 3) hx hb d_Side_closeNamed_3 rfl (lv_at hl 1 rfl) ?_
      obtain ⟨k2, hp⟩ := hp
      refine gf_Side_121 (pc := 4) hC hw k2 d_Side_closeNamed_4 ?_
      refine lv_icmp_ge (pc := 7) (tgt := 29) hx hb d_Side_closeNamed_7 rfl (fun hc => ?_) (fun hc => ?_)
      · have hp := hp.1 hc
        exact ret_vm hC hr hlk hw hp d_Side_closeNamed_29
      · have hp := hp.2 hc
        refine lv_aload_n (pc := 10) hx hb d_Side_closeNamed_10 rfl (lv_at hl 0 rfl) ?_
        obtain ⟨k3, hp⟩ := hp
        refine gf_Side_53 (pc := 11) hC hw f1 (Nat.ne_of_gt k3.1) d_Side_closeNamed_11 ?_
        refine lv_aload_n (pc := 14) hx hb d_Side_closeNamed_14 rfl (lv_at hl 1 rfl) ?_
        obtain ⟨k4, hp⟩ := hp
        refine gf_Side_124 (pc := 15) hC hw k2 (Nat.ne_of_gt k4.1) d_Side_closeNamed_15 ?_
        refine lv_iload_n (pc := 18) hx hb d_Side_closeNamed_18 rfl (lv_at hl 2 rfl) ?_
        obtain ⟨k5, hp⟩ := hp
        refine fm_iald (pc := 19) hC hw k4 k5 rfl d_Side_closeNamed_19 ?_
        refine call_vm (pc := 20) (fun _ h => h) hw (fm_runV (As := [.int (M (R a1 0) a2.toNatClampNeg)]) (rest := []) hC hw (c_Flight_closeSentIn l D dA b n T R M sz (R a0 3) (M (R a1 0) a2.toNatClampNeg) _) cy_Flight_closeSentIn hp rfl rfl mw_117 mw_118 mw_119 (rfl : classes[2]? = _) (by decide) k3 ⟨Nat.le_of_ble_eq_true rfl, Nat.le_of_ble_eq_true rfl⟩ rfl hl.1 rfl (Nat.le_of_ble_eq_true rfl) d_Side_closeNamed_20 ⟨(Nat.le_of_ble_eq_true rfl), (Nat.le_of_ble_eq_true rfl)⟩) (fun M6 H locs hp hw => ?_)
        obtain ⟨v7, ev7⟩ : ∃ z : Int32, z = a2 + (1 : Int32) := ⟨_, rfl⟩
        have hp := hp v7 ev7
        refine lv_iinc (pc := 23) (k := 2) (v := v7) hx hb d_Side_closeNamed_23 hl rfl ev7.symm (by decide) rfl (fun ls hl => ?_)
        have hl : lv_has ls 3 [(2, .int v7), (0, .ref (b + a0)), (1, .ref (b + a1))] := hl
        refine lv_goto (pc := 26) (tgt := 2) hx hb d_Side_closeNamed_26 rfl ?_
        exact ih2  a0 a1 v7 M6 ls _ _ f1 (lv_sub hl [1, 2, 0] rfl) hw hp
  refine lv_iconst (v := 0) (pc := 0) hx hb d_Side_closeNamed_0 (by decide) ?_
  refine lv_istore_n (pc := 1) hx hb d_Side_closeNamed_1 rfl hl (by decide) rfl (fun ls hl => ?_)
  have hl : lv_has ls 3 [(2, .int (0 : Int32)), (0, .ref (b + h)), (1, .ref (b + x1))] := hl
  obtain ⟨N2, hp⟩ := hp
  exact L2 N2 h x1 (0 : Int32) M ls _ _ k0 (lv_sub hl [1, 2, 0] rfl) hw hp
set_option maxHeartbeats 4000000 in
set_option maxRecDepth 100000 in
theorem c_Flight_countOpen (l : Launch) (D : va_G) (dA : Nat → ClassId) (b n : Nat) (T : mT) (R : mR) (M : mM) (sz : Nat) (h : Nat) (Q : Int32 → Prop) : Met l y_Flight_countOpen (Cond.code y_Flight_countOpen b_Flight_countOpen 3 (some .int) :: tW) ({ frames := 0, cells := 0, slots := 0, locals := 0 }) (Pm D dA b n T R M sz [.ref (b + h)] (w_Flight_countOpen n T R M h Q)) (Qip D dA (An b n) b n T R M sz Q) 0 0 (An b n) := by
  refine fm_body (An b n) (by decide) (Nat.le_of_ble_eq_true rfl) (fun k h0 h1 => ⟨by omega, by omega⟩) (fun p e s m below meth c ls hC hr hlk hnm hl hw hp => ?_)
  have hx := hC.1.1
  have hb := hC.1.2.1
  have hl : lv_has ls 3 [(0, .ref (b + h))] := hl
  generalize hav : (List.toArray ([.ref (b + h)] : List Value)) = av at hC ⊢
  unfold w_Flight_countOpen at hp
  obtain ⟨k0, hp⟩ := hp
  have L4 : ∀ (N4 : Nat) (a0 : Nat) (a1 : Int32) (a2 : Int32)   (ls : Array Slot) (H : Heap) (locs : List Loc), ok T n a0 2 → lv_has ls 3 [(0, .ref (b + a0)), (1, .int a1), (2, .int a2)] → St D dA (An b n) b n T R M sz s.heap H locs → w_Flight_countOpen_L4 n T R M Q a0 N4 a1 a2 → W p l e ({ frames := 0, cells := 0, slots := 0, locals := 0 }) s m av below meth c H locs 0 0 (MQ below (Qip D dA (An b n) b n T R M sz Q) av s 0 0 (An b n)) (F0 m 4 ls []) := by
    intro N4
    induction N4 with
    | zero => intro a0 a1 a2 ls H locs f1 hl hw hp; exact False.elim hp
    | succ N4 ih4 =>
      intro a0 a1 a2 ls H locs f1 hl hw hp
      unfold w_Flight_countOpen_L4 at hp
      refine lv_iload_n (pc := 4) hx hb d_Flight_countOpen_4 rfl (lv_at hl 2 rfl) ?_
      refine lv_aload_n (pc := 5) hx hb d_Flight_countOpen_5 rfl (lv_at hl 0 rfl) ?_
      refine gf_Flight_18 (pc := 6) hC hw f1 d_Flight_countOpen_6 ?_
      refine lv_icmp_ge (pc := 9) (tgt := 33) hx hb d_Flight_countOpen_9 rfl (fun hc => ?_) (fun hc => ?_)
      · have hp := hp.1 hc
        refine lv_iload_n (pc := 33) hx hb d_Flight_countOpen_33 rfl (lv_at hl 1 rfl) ?_
        exact ret_ip hC hr hlk hw hp d_Flight_countOpen_34
      · have hp := hp.2 hc
        refine lv_aload_n (pc := 12) hx hb d_Flight_countOpen_12 rfl (lv_at hl 0 rfl) ?_
        obtain ⟨k2, hp⟩ := hp
        refine gf_Flight_11 (pc := 13) hC hw f1 (Nat.ne_of_gt k2.1) d_Flight_countOpen_13 ?_
        refine lv_iload_n (pc := 16) hx hb d_Flight_countOpen_16 rfl (lv_at hl 2 rfl) ?_
        obtain ⟨k3, hp⟩ := hp
        obtain ⟨k4, hp⟩ := hp
        refine fm_aald (pc := 17) hC hw 3 rfl (by decide) k2 k3 rfl (Nat.ne_of_gt k4.1) d_Flight_countOpen_17 ?_
        refine gf_Flight_51 (pc := 18) hC hw k4 d_Flight_countOpen_18 ?_
        refine lv_if_eq (pc := 21) (tgt := 27) hx hb d_Flight_countOpen_21 rfl (fun hc => ?_) (fun hc => ?_)
        · have hp := hp.1 hc
          obtain ⟨v5, ev5⟩ : ∃ z : Int32, z = a2 + (1 : Int32) := ⟨_, rfl⟩
          have hp := hp v5 ev5
          refine lv_iinc (pc := 27) (k := 2) (v := v5) hx hb d_Flight_countOpen_27 hl rfl ev5.symm (by decide) rfl (fun ls hl => ?_)
          have hl : lv_has ls 3 [(2, .int v5), (0, .ref (b + a0)), (1, .int a1)] := hl
          refine lv_goto (pc := 30) (tgt := 4) hx hb d_Flight_countOpen_30 rfl ?_
          exact ih4  a0 a1 v5 ls _ _ f1 (lv_sub hl [1, 2, 0] rfl) hw hp
        · have hp := hp.2 hc
          obtain ⟨v6, ev6⟩ : ∃ z : Int32, z = a1 + (1 : Int32) := ⟨_, rfl⟩
          have hp := hp v6 ev6
          refine lv_iinc (pc := 24) (k := 1) (v := v6) hx hb d_Flight_countOpen_24 hl rfl ev6.symm (by decide) rfl (fun ls hl => ?_)
          have hl : lv_has ls 3 [(1, .int v6), (0, .ref (b + a0)), (2, .int a2)] := hl
          obtain ⟨v7, ev7⟩ : ∃ z : Int32, z = a2 + (1 : Int32) := ⟨_, rfl⟩
          have hp := hp v7 ev7
          refine lv_iinc (pc := 27) (k := 2) (v := v7) hx hb d_Flight_countOpen_27 hl rfl ev7.symm (by decide) rfl (fun ls hl => ?_)
          have hl : lv_has ls 3 [(2, .int v7), (1, .int v6), (0, .ref (b + a0))] := hl
          refine lv_goto (pc := 30) (tgt := 4) hx hb d_Flight_countOpen_30 rfl ?_
          exact ih4  a0 v6 v7 ls _ _ f1 (lv_sub hl [2, 1, 0] rfl) hw hp
  refine lv_iconst (v := 0) (pc := 0) hx hb d_Flight_countOpen_0 (by decide) ?_
  refine lv_istore_n (pc := 1) hx hb d_Flight_countOpen_1 rfl hl (by decide) rfl (fun ls hl => ?_)
  have hl : lv_has ls 3 [(1, .int (0 : Int32)), (0, .ref (b + h))] := hl
  refine lv_iconst (v := 0) (pc := 2) hx hb d_Flight_countOpen_2 (by decide) ?_
  refine lv_istore_n (pc := 3) hx hb d_Flight_countOpen_3 rfl hl (by decide) rfl (fun ls hl => ?_)
  have hl : lv_has ls 3 [(2, .int (0 : Int32)), (1, .int (0 : Int32)), (0, .ref (b + h))] := hl
  obtain ⟨N4, hp⟩ := hp
  exact L4 N4 h (0 : Int32) (0 : Int32) ls _ _ k0 (lv_sub hl [2, 1, 0] rfl) hw hp
