set_option maxHeartbeats 4000000 in
set_option maxRecDepth 100000 in
theorem c_Rec_init (l : Launch) (D : va_G) (dA : Nat → ClassId) (b n : Nat) (T : mT) (R : mR) (M : mM) (h : Nat) (Q : Nat → mT → mR → mM → Prop) : Met l y_Rec_init (Cond.code y_Rec_init b_Rec_init 1 none :: tW) ({ frames := 1, cells := 1, slots := 24, locals := 12 }) (Pm D dA b n T R M (b + n + 1) [.ref (b + h)] (w_Rec_init n T R M h Q)) (Qva D dA b  Q) 1 24 (Ab b) := by
  refine fm_body (Ab b) (by decide) (Nat.le_of_ble_eq_true rfl) (fun k h0 _ => show b < b + k by omega) (fun p e s m below meth c ls hC hr hlk hnm hl hw hp => ?_)
  have hx := hC.1.1
  have hb := hC.1.2.1
  have hl : lv_has ls 1 [(0, .ref (b + h))] := hl
  generalize hav : (List.toArray ([.ref (b + h)] : List Value)) = av at hC ⊢
  unfold w_Rec_init at hp
  obtain ⟨k0, hp⟩ := hp
  refine lv_aload_n (pc := 0) hx hb d_Rec_init_0 rfl (lv_at hl 0 rfl) ?_
  refine W.objInit hx hb hC.1.2.2.2.1 (hC.1.2.2.2.2 _ mw_179) (hC.1.2.2.2.2 _ mw_1) (hC.1.2.2.2.2 _ mw_2) rfl (hl.1.trans hC.1.2.2.1.symm) rfl d_Rec_init_1 (Nat.le_of_ble_eq_true rfl) (Nat.le_of_ble_eq_true rfl) ?_
  refine W.eq (g2 := F0 m 4 ls []) rfl ?_
  refine lv_aload_n (pc := 4) hx hb d_Rec_init_4 rfl (lv_at hl 0 rfl) ?_
  refine lv_bipush (v := 24) (pc := 5) hx hb d_Rec_init_5 (by decide) ?_
  refine fm_newi (pc := 7) (N' := 24) hC hw mw_3 (by decide) (by decide) (by decide) (Nat.le_of_ble_eq_true rfl) (Nat.le_of_ble_eq_true rfl) d_Rec_init_7 (fun T1 R2 M3 H eT1 eR2 eM3 hw => ?_)
  have hp := hp T1 R2 M3 eT1 eR2 eM3
  have k0 := (ok_push eT1 k0 : _)
  have k4 := ok_new eT1
  refine W.widen (k := 1) (n := 24) (Nat.le_of_ble_eq_true rfl) (Nat.le_of_ble_eq_true rfl) ?_
  refine pf_Rec_9 (pc := 9) hC hw k0 hnm (Nat.ne_of_gt k4.1) d_Rec_init_9 (fun R5 H locs eR5 hw => ?_)
  have hp := hp R5 eR5
  refine W.widen (k := 1) (n := 24) (by decide) (by decide) ?_
  exact ret_va hC hr hlk hw hp d_Rec_init_12
set_option maxHeartbeats 4000000 in
set_option maxRecDepth 100000 in
theorem c_Net_init (l : Launch) (D : va_G) (dA : Nat → ClassId) (b n : Nat) (T : mT) (R : mR) (M : mM) (h : Nat) (Q : Nat → mT → mR → mM → Prop) : Met l y_Net_init (Cond.code y_Net_init b_Net_init 2 none :: tW) ({ frames := 2, cells := 125, slots := 2106, locals := 32 }) (Pm D dA b n T R M (b + n + 1) [.ref (b + h)] (w_Net_init n T R M h Q)) (Qva D dA b  Q) 125 2106 (Ab b) := by
  refine fm_body (Ab b) (by decide) (Nat.le_of_ble_eq_true rfl) (fun k h0 _ => show b < b + k by omega) (fun p e s m below meth c ls hC hr hlk hnm hl hw hp => ?_)
  have hx := hC.1.1
  have hb := hC.1.2.1
  have hl : lv_has ls 2 [(0, .ref (b + h))] := hl
  generalize hav : (List.toArray ([.ref (b + h)] : List Value)) = av at hC ⊢
  unfold w_Net_init at hp
  obtain ⟨k0, hp⟩ := hp
  have L37 : ∀ (N37 : Nat) (a0 : Nat) (a1 : Int32) (n : Nat) (T : mT) (R : mR) (M : mM) (cs : Nat) (sl : Nat) (ls : Array Slot) (H : Heap) (locs : List Loc), ok T n a0 4 → cs ≤ 125 ∧ sl ≤ 2106 → lv_has ls 2 [(0, .ref (b + a0)), (1, .int a1)] → St D dA (Ab b) b n T R M (b + n + 1) s.heap H locs → w_Net_init_L37 Q a0 N37 a1 n T R M cs sl → W p l e ({ frames := 2, cells := 125, slots := 2106, locals := 32 }) s m av below meth c H locs cs sl (MQ below (Qva D dA b  Q) av s 125 2106 (Ab b)) (F0 m 37 ls []) := by
    intro N37
    induction N37 with
    | zero => intro a0 a1 n T R M cs sl ls H locs f28 hcs hl hw hp; exact False.elim hp
    | succ N37 ih37 =>
      intro a0 a1 n T R M cs sl ls H locs f28 hcs hl hw hp
      unfold w_Net_init_L37 at hp
      refine lv_iload_n (pc := 37) hx hb d_Net_init_37 rfl (lv_at hl 1 rfl) ?_
      refine lv_aload_n (pc := 38) hx hb d_Net_init_38 rfl (lv_at hl 0 rfl) ?_
      obtain ⟨k29, hp⟩ := hp
      refine gf_Net_11 (pc := 39) hC hw f28 (Nat.ne_of_gt k29.1) d_Net_init_39 ?_
      refine fm_alen (pc := 42) (t0 := 2) hC hw k29 rfl (by decide) d_Net_init_42 ?_
      refine lv_icmp_ge (pc := 43) (tgt := 65) hx hb d_Net_init_43 rfl (fun hc => ?_) (fun hc => ?_)
      · have hp := hp.1 hc
        refine W.widen (k := 125) (n := 2106) hcs.1 hcs.2 ?_
        exact ret_va hC hr hlk hw hp d_Net_init_65
      · have hp := hp.2 hc
        refine lv_aload_n (pc := 46) hx hb d_Net_init_46 rfl (lv_at hl 0 rfl) ?_
        refine gf_Net_11 (pc := 47) hC hw f28 (Nat.ne_of_gt k29.1) d_Net_init_47 ?_
        refine lv_iload_n (pc := 50) hx hb d_Net_init_50 rfl (lv_at hl 1 rfl) ?_
        obtain ⟨k33, hp⟩ := hp
        obtain ⟨k34, hp⟩ := hp
        refine fm_new (pc := 51) hC hw hin_Rec t_Rec t_Rec_ok mw_181 mw_182 mw_183 (rfl : classes[3]? = _) (by decide) (by decide) df_Rec k33 k34 d_Net_init_51 (fun T30 R31 M32 H eT30 eR31 eM32 hw => ?_)
        have hp := hp T30 R31 M32 eT30 eR31 eM32
        have f28 := (ok_push eT30 f28 : _)
        have k29 := (ok_push eT30 k29 : _)
        have k35 := ok_new eT30
        refine lv_dup (pc := 54) hx hb d_Net_init_54 rfl ?_
        obtain ⟨k36, hp⟩ := hp
        obtain ⟨k37, hp⟩ := hp
        refine call_va (pc := 55) (fun _ h => h) hw (fm_runIN (As := []) (rest := [.ref (b + (n + 1)), .int a1, .ref (b + (R a0 0))]) hC hw (c_Rec_init l D dA b (n + 1) T30 R31 M32 (n + 1) _) cy_Rec_init hp rfl rfl nw_9 mw_184 rfl ⟨Nat.le_of_ble_eq_true rfl, Nat.le_of_ble_eq_true rfl⟩ rfl hl.1 rfl (Nat.le_of_ble_eq_true rfl) d_Net_init_55 ⟨k36, k37⟩) (fun n38 T39 R40 M41 H locs hp hw => ?_)
        obtain ⟨k42, hp⟩ := hp
        obtain ⟨k43, hp⟩ := hp
        obtain ⟨k44, hp⟩ := hp
        refine fm_aast (pc := 58) hC hw 2 rfl (by decide) (rfl : classes[3]? = _) (by decide) k42 k43 rfl k44 d_Net_init_58 (fun R45 H locs eR45 hw => ?_)
        have hp := hp R45 eR45
        obtain ⟨v46, ev46⟩ : ∃ z : Int32, z = a1 + (1 : Int32) := ⟨_, rfl⟩
        have hp := hp v46 ev46
        refine lv_iinc (pc := 59) (k := 1) (v := v46) hx hb d_Net_init_59 hl rfl ev46.symm (by decide) rfl (fun ls hl => ?_)
        have hl : lv_has ls 2 [(1, .int v46), (0, .ref (b + a0))] := hl
        refine lv_goto (pc := 62) (tgt := 37) hx hb d_Net_init_62 rfl ?_
        obtain ⟨k47, hp⟩ := hp
        exact ih37  a0 v46 n38 T39 R45 M41 (cs + 2) (sl + 33) ls _ _ k47 (by omega) (lv_sub hl [1, 0] rfl) hw hp
  refine lv_aload_n (pc := 0) hx hb d_Net_init_0 rfl (lv_at hl 0 rfl) ?_
  refine W.objInit hx hb hC.1.2.2.2.1 (hC.1.2.2.2.2 _ mw_180) (hC.1.2.2.2.2 _ mw_1) (hC.1.2.2.2.2 _ mw_2) rfl (hl.1.trans hC.1.2.2.1.symm) rfl d_Net_init_1 (Nat.le_of_ble_eq_true rfl) (Nat.le_of_ble_eq_true rfl) ?_
  refine W.eq (g2 := F0 m 4 ls []) rfl ?_
  refine lv_aload_n (pc := 4) hx hb d_Net_init_4 rfl (lv_at hl 0 rfl) ?_
  refine lv_bipush (v := 60) (pc := 5) hx hb d_Net_init_5 (by decide) ?_
  refine fm_newq (pc := 7) (N' := 60) hC hw 2 rfl (by decide) (by decide) mw_181 (by decide) (by decide) (by decide) (Nat.le_of_ble_eq_true rfl) (Nat.le_of_ble_eq_true rfl) d_Net_init_7 (fun T1 R2 M3 H eT1 eR2 eM3 hw => ?_)
  have hp := hp T1 R2 M3 eT1 eR2 eM3
  have k0 := (ok_push eT1 k0 : _)
  have k4 := ok_new eT1
  refine W.widen (k := 1) (n := 60) (Nat.le_of_ble_eq_true rfl) (Nat.le_of_ble_eq_true rfl) ?_
  refine pf_Net_11 (pc := 10) hC hw k0 hnm (Nat.ne_of_gt k4.1) d_Net_init_10 (fun R5 H locs eR5 hw => ?_)
  have hp := hp R5 eR5
  refine lv_aload_n (pc := 13) hx hb d_Net_init_13 rfl (lv_at hl 0 rfl) ?_
  refine fm_new (pc := 14) hC hw hin_Rec t_Rec t_Rec_ok mw_181 mw_182 mw_183 (rfl : classes[3]? = _) (by decide) (by decide) df_Rec (Nat.le_of_ble_eq_true rfl) (Nat.le_of_ble_eq_true rfl) d_Net_init_14 (fun T6 R7 M8 H eT6 eR7 eM8 hw => ?_)
  have hp := hp T6 R7 M8 eT6 eR7 eM8
  have k0 := (ok_push eT6 k0 : _)
  have k4 := (ok_push eT6 k4 : _)
  have k9 := ok_new eT6
  refine W.widen (k := 2) (n := 69) (Nat.le_of_ble_eq_true rfl) (Nat.le_of_ble_eq_true rfl) ?_
  refine lv_dup (pc := 17) hx hb d_Net_init_17 rfl ?_
  refine call_va (pc := 18) (fun _ h => h) hw (fm_runIN (As := []) (rest := [.ref (b + ((n + 1) + 1)), .ref (b + h)]) hC hw (c_Rec_init l D dA b ((n + 1) + 1) T6 R7 M8 ((n + 1) + 1) _) cy_Rec_init hp rfl rfl nw_9 mw_184 rfl ⟨Nat.le_of_ble_eq_true rfl, Nat.le_of_ble_eq_true rfl⟩ rfl hl.1 rfl (Nat.le_of_ble_eq_true rfl) d_Net_init_18 ⟨(Nat.le_of_ble_eq_true rfl), (Nat.le_of_ble_eq_true rfl)⟩) (fun n10 T11 R12 M13 H locs hp hw => ?_)
  refine W.widen (k := 3) (n := 93) (Nat.le_of_ble_eq_true rfl) (Nat.le_of_ble_eq_true rfl) ?_
  obtain ⟨k14, hp⟩ := hp
  obtain ⟨k15, hp⟩ := hp
  refine pf_Net_18 (pc := 21) hC hw k14 (Nat.ne_of_gt k15.1) d_Net_init_21 (fun R16 H locs eR16 hw => ?_)
  have hp := hp R16 eR16
  refine lv_aload_n (pc := 24) hx hb d_Net_init_24 rfl (lv_at hl 0 rfl) ?_
  refine fm_new (pc := 25) hC hw hin_Rec t_Rec t_Rec_ok mw_181 mw_182 mw_183 (rfl : classes[3]? = _) (by decide) (by decide) df_Rec (Nat.le_of_ble_eq_true rfl) (Nat.le_of_ble_eq_true rfl) d_Net_init_25 (fun T17 R18 M19 H eT17 eR18 eM19 hw => ?_)
  have hp := hp T17 R18 M19 eT17 eR18 eM19
  have k14 := (ok_push eT17 k14 : _)
  have k15 := (ok_push eT17 k15 : _)
  have k20 := ok_new eT17
  refine W.widen (k := 4) (n := 102) (Nat.le_of_ble_eq_true rfl) (Nat.le_of_ble_eq_true rfl) ?_
  refine lv_dup (pc := 28) hx hb d_Net_init_28 rfl ?_
  refine call_va (pc := 29) (fun _ h => h) hw (fm_runIN (As := []) (rest := [.ref (b + (n10 + 1)), .ref (b + h)]) hC hw (c_Rec_init l D dA b (n10 + 1) T17 R18 M19 (n10 + 1) _) cy_Rec_init hp rfl rfl nw_9 mw_184 rfl ⟨Nat.le_of_ble_eq_true rfl, Nat.le_of_ble_eq_true rfl⟩ rfl hl.1 rfl (Nat.le_of_ble_eq_true rfl) d_Net_init_29 ⟨(Nat.le_of_ble_eq_true rfl), (Nat.le_of_ble_eq_true rfl)⟩) (fun n21 T22 R23 M24 H locs hp hw => ?_)
  refine W.widen (k := 5) (n := 126) (Nat.le_of_ble_eq_true rfl) (Nat.le_of_ble_eq_true rfl) ?_
  obtain ⟨k25, hp⟩ := hp
  obtain ⟨k26, hp⟩ := hp
  refine pf_Net_22 (pc := 32) hC hw k25 hnm (Nat.ne_of_gt k26.1) d_Net_init_32 (fun R27 H locs eR27 hw => ?_)
  have hp := hp R27 eR27
  refine lv_iconst (v := 0) (pc := 35) hx hb d_Net_init_35 (by decide) ?_
  refine lv_istore_n (pc := 36) hx hb d_Net_init_36 rfl hl (by decide) rfl (fun ls hl => ?_)
  have hl : lv_has ls 2 [(1, .int (0 : Int32)), (0, .ref (b + h))] := hl
  obtain ⟨N37, hp⟩ := hp
  exact L37 N37 h (0 : Int32) n21 T22 R27 M24 5 126 ls _ _ k25 (by decide) (lv_sub hl [1, 0] rfl) hw hp
set_option maxHeartbeats 4000000 in
set_option maxRecDepth 100000 in
theorem c_Net_has (l : Launch) (D : va_G) (dA : Nat → ClassId) (b n : Nat) (T : mT) (R : mR) (M : mM) (sz : Nat) (h : Nat) (x1 : Int32) (Q : Int32 → Prop) : Met l y_Net_has (Cond.code y_Net_has b_Net_has 2 (some .boolean) :: tW) ({ frames := 0, cells := 0, slots := 0, locals := 0 }) (Pm D dA b n T R M sz [.ref (b + h), .int x1] (w_Net_has n T R M h x1 Q)) (Qzp D dA (An b n) b n T R M sz Q) 0 0 (An b n) := by
  refine fm_body (An b n) (by decide) (Nat.le_of_ble_eq_true rfl) (fun k h0 h1 => ⟨by omega, by omega⟩) (fun p e s m below meth c ls hC hr hlk hnm hl hw hp => ?_)
  have hx := hC.1.1
  have hb := hC.1.2.1
  have hl : lv_has ls 2 [(0, .ref (b + h)), (1, .int x1)] := hl
  generalize hav : (List.toArray ([.ref (b + h), .int x1] : List Value)) = av at hC ⊢
  unfold w_Net_has at hp
  obtain ⟨k0, hp⟩ := hp
  refine lv_iload_n (pc := 0) hx hb d_Net_has_0 rfl (lv_at hl 1 rfl) ?_
  refine lv_if_lt (pc := 1) (tgt := 16) hx hb d_Net_has_1 rfl (fun hc => ?_) (fun hc => ?_)
  · have hp := hp.1 hc
    refine lv_iconst (v := 0) (pc := 16) hx hb d_Net_has_16 (by decide) ?_
    exact ret_zp hC hr hlk hw (Or.inl rfl) hp d_Net_has_17
  · have hp := hp.2 hc
    refine lv_iload_n (pc := 4) hx hb d_Net_has_4 rfl (lv_at hl 1 rfl) ?_
    refine lv_aload_n (pc := 5) hx hb d_Net_has_5 rfl (lv_at hl 0 rfl) ?_
    refine gf_Net_25 (pc := 6) hC hw k0 d_Net_has_6 ?_
    refine lv_icmp_ge (pc := 9) (tgt := 16) hx hb d_Net_has_9 rfl (fun hc => ?_) (fun hc => ?_)
    · have hp := hp.1 hc
      refine lv_iconst (v := 0) (pc := 16) hx hb d_Net_has_16 (by decide) ?_
      exact ret_zp hC hr hlk hw (Or.inl rfl) hp d_Net_has_17
    · have hp := hp.2 hc
      refine lv_iconst (v := 1) (pc := 12) hx hb d_Net_has_12 (by decide) ?_
      refine lv_goto (pc := 13) (tgt := 17) hx hb d_Net_has_13 rfl ?_
      exact ret_zp hC hr hlk hw (Or.inr rfl) hp d_Net_has_17
set_option maxHeartbeats 4000000 in
set_option maxRecDepth 100000 in
theorem c_Rec_becomeLike (l : Launch) (D : va_G) (dA : Nat → ClassId) (b n : Nat) (T : mT) (R : mR) (M : mM) (sz : Nat) (h : Nat) (x1 : Nat) (Q : mM → Prop) : Met l y_Rec_becomeLike (Cond.code y_Rec_becomeLike b_Rec_becomeLike 2 none :: tW) ({ frames := 2, cells := 0, slots := 0, locals := 37 }) (Pm D dA b n T R M sz [.ref (b + h), .ref (b + x1)] (w_Rec_becomeLike n T R M h x1 Q)) (Qvm D dA (An b n) b n T R sz Q) 0 0 (An b n) := by
  refine fm_body (An b n) (by decide) (Nat.le_of_ble_eq_true rfl) (fun k h0 h1 => ⟨by omega, by omega⟩) (fun p e s m below meth c ls hC hr hlk hnm hl hw hp => ?_)
  have hx := hC.1.1
  have hb := hC.1.2.1
  have hl : lv_has ls 2 [(0, .ref (b + h)), (1, .ref (b + x1))] := hl
  generalize hav : (List.toArray ([.ref (b + h), .ref (b + x1)] : List Value)) = av at hC ⊢
  unfold w_Rec_becomeLike at hp
  obtain ⟨k0, hp⟩ := hp
  refine lv_aload_n (pc := 0) hx hb d_Rec_becomeLike_0 rfl (lv_at hl 0 rfl) ?_
  refine lv_aload_n (pc := 1) hx hb d_Rec_becomeLike_1 rfl (lv_at hl 1 rfl) ?_
  obtain ⟨k1, hp⟩ := hp
  refine gf_Rec_15 (pc := 2) hC hw k1 d_Rec_becomeLike_2 ?_
  refine lv_aload_n (pc := 5) hx hb d_Rec_becomeLike_5 rfl (lv_at hl 1 rfl) ?_
  refine gf_Rec_19 (pc := 6) hC hw k1 d_Rec_becomeLike_6 ?_
  refine lv_aload_n (pc := 9) hx hb d_Rec_becomeLike_9 rfl (lv_at hl 1 rfl) ?_
  refine gf_Rec_22 (pc := 10) hC hw k1 d_Rec_becomeLike_10 ?_
  refine lv_aload_n (pc := 13) hx hb d_Rec_becomeLike_13 rfl (lv_at hl 1 rfl) ?_
  refine gf_Rec_25 (pc := 14) hC hw k1 d_Rec_becomeLike_14 ?_
  refine call_vm (pc := 17) (fun _ h => h) hw (fm_runV (As := [.int (M x1 2), .int (M x1 3), .int (M x1 4), .int (M x1 5)]) (rest := []) hC hw (c_Rec_address l D dA b n T R M sz h (M x1 2) (M x1 3) (M x1 4) (M x1 5) _) cy_Rec_address hp rfl rfl mw_185 mw_64 mw_65 (rfl : classes[3]? = _) (by decide) k0 ⟨Nat.le_of_ble_eq_true rfl, Nat.le_of_ble_eq_true rfl⟩ rfl hl.1 rfl (Nat.le_of_ble_eq_true rfl) d_Rec_becomeLike_17 ⟨(Nat.le_of_ble_eq_true rfl), (Nat.le_of_ble_eq_true rfl)⟩) (fun M2 H locs hp hw => ?_)
  refine lv_aload_n (pc := 20) hx hb d_Rec_becomeLike_20 rfl (lv_at hl 0 rfl) ?_
  refine lv_aload_n (pc := 21) hx hb d_Rec_becomeLike_21 rfl (lv_at hl 1 rfl) ?_
  refine gf_Rec_28 (pc := 22) hC hw k1 d_Rec_becomeLike_22 ?_
  refine lv_aload_n (pc := 25) hx hb d_Rec_becomeLike_25 rfl (lv_at hl 1 rfl) ?_
  refine gf_Rec_31 (pc := 26) hC hw k1 d_Rec_becomeLike_26 ?_
  refine call_vm (pc := 29) (fun _ h => h) hw (fm_runV (As := [.int (M2 x1 6), .int (M2 x1 7)]) (rest := []) hC hw (c_Rec_markAsPiece l D dA b n T R M2 sz h (M2 x1 6) (M2 x1 7) _) cy_Rec_markAsPiece hp rfl rfl mw_186 mw_79 mw_80 (rfl : classes[3]? = _) (by decide) k0 ⟨Nat.le_of_ble_eq_true rfl, Nat.le_of_ble_eq_true rfl⟩ rfl hl.1 rfl (Nat.le_of_ble_eq_true rfl) d_Rec_becomeLike_29 ⟨(Nat.le_of_ble_eq_true rfl), (Nat.le_of_ble_eq_true rfl)⟩) (fun M3 H locs hp hw => ?_)
  refine lv_aload_n (pc := 32) hx hb d_Rec_becomeLike_32 rfl (lv_at hl 0 rfl) ?_
  refine lv_aload_n (pc := 33) hx hb d_Rec_becomeLike_33 rfl (lv_at hl 1 rfl) ?_
  obtain ⟨k4, hp⟩ := hp
  refine gf_Rec_9 (pc := 34) hC hw k1 (Nat.ne_of_gt k4.1) d_Rec_becomeLike_34 ?_
  refine lv_aload_n (pc := 37) hx hb d_Rec_becomeLike_37 rfl (lv_at hl 1 rfl) ?_
  refine gf_Rec_34 (pc := 38) hC hw k1 d_Rec_becomeLike_38 ?_
  refine call_vm (pc := 41) (fun _ h => h) hw (fm_runV (As := [.ref (b + (R x1 0)), .int (M3 x1 1)]) (rest := []) hC hw (c_Rec_hold l D dA b n T R M3 sz h (R x1 0) (M3 x1 1) _) cy_Rec_hold hp rfl rfl mw_187 mw_82 mw_83 (rfl : classes[3]? = _) (by decide) k0 ⟨Nat.le_of_ble_eq_true rfl, Nat.le_of_ble_eq_true rfl⟩ rfl hl.1 rfl (Nat.le_of_ble_eq_true rfl) d_Rec_becomeLike_41 ⟨(Nat.le_of_ble_eq_true rfl), (Nat.le_of_ble_eq_true rfl)⟩) (fun M5 H locs hp hw => ?_)
  refine lv_aload_n (pc := 44) hx hb d_Rec_becomeLike_44 rfl (lv_at hl 0 rfl) ?_
  refine lv_aload_n (pc := 45) hx hb d_Rec_becomeLike_45 rfl (lv_at hl 1 rfl) ?_
  refine gf_Rec_37 (pc := 46) hC hw k1 d_Rec_becomeLike_46 ?_
  obtain ⟨k6, hp⟩ := hp
  refine pf_Rec_37 (pc := 49) hC hw k0 k6 d_Rec_becomeLike_49 (fun M7 H locs eM7 hw => ?_)
  have hp := hp M7 eM7
  exact ret_vm hC hr hlk hw hp d_Rec_becomeLike_52
set_option maxHeartbeats 4000000 in
set_option maxRecDepth 100000 in
theorem c_Net_appendLike (l : Launch) (D : va_G) (dA : Nat → ClassId) (b n : Nat) (T : mT) (R : mR) (M : mM) (sz : Nat) (h : Nat) (x1 : Int32) (Q : Int32 → mM → Prop) : Met l y_Net_appendLike (Cond.code y_Net_appendLike b_Net_appendLike 2 (some .boolean) :: tW) ({ frames := 3, cells := 0, slots := 0, locals := 58 }) (Pm D dA b n T R M sz [.ref (b + h), .int x1] (w_Net_appendLike n T R M h x1 Q)) (Qzm D dA (An b n) b n T R sz Q) 0 0 (An b n) := by
  refine fm_body (An b n) (by decide) (Nat.le_of_ble_eq_true rfl) (fun k h0 h1 => ⟨by omega, by omega⟩) (fun p e s m below meth c ls hC hr hlk hnm hl hw hp => ?_)
  have hx := hC.1.1
  have hb := hC.1.2.1
  have hl : lv_has ls 2 [(0, .ref (b + h)), (1, .int x1)] := hl
  generalize hav : (List.toArray ([.ref (b + h), .int x1] : List Value)) = av at hC ⊢
  unfold w_Net_appendLike at hp
  obtain ⟨k0, hp⟩ := hp
  refine lv_aload_n (pc := 0) hx hb d_Net_appendLike_0 rfl (lv_at hl 0 rfl) ?_
  refine gf_Net_25 (pc := 1) hC hw k0 d_Net_appendLike_1 ?_
  refine lv_aload_n (pc := 4) hx hb d_Net_appendLike_4 rfl (lv_at hl 0 rfl) ?_
  obtain ⟨k1, hp⟩ := hp
  refine gf_Net_11 (pc := 5) hC hw k0 (Nat.ne_of_gt k1.1) d_Net_appendLike_5 ?_
  refine fm_alen (pc := 8) (t0 := 2) hC hw k1 rfl (by decide) d_Net_appendLike_8 ?_
  refine lv_icmp_lt (pc := 9) (tgt := 14) hx hb d_Net_appendLike_9 rfl (fun hc => ?_) (fun hc => ?_)
  · have hp := hp.1 hc
    refine lv_aload_n (pc := 14) hx hb d_Net_appendLike_14 rfl (lv_at hl 0 rfl) ?_
    refine gf_Net_11 (pc := 15) hC hw k0 (Nat.ne_of_gt k1.1) d_Net_appendLike_15 ?_
    refine lv_aload_n (pc := 18) hx hb d_Net_appendLike_18 rfl (lv_at hl 0 rfl) ?_
    refine gf_Net_25 (pc := 19) hC hw k0 d_Net_appendLike_19 ?_
    obtain ⟨k2, hp⟩ := hp
    obtain ⟨k3, hp⟩ := hp
    refine fm_aald (pc := 22) hC hw 2 rfl (by decide) k1 k2 rfl (Nat.ne_of_gt k3.1) d_Net_appendLike_22 ?_
    refine lv_aload_n (pc := 23) hx hb d_Net_appendLike_23 rfl (lv_at hl 0 rfl) ?_
    refine gf_Net_11 (pc := 24) hC hw k0 (Nat.ne_of_gt k1.1) d_Net_appendLike_24 ?_
    refine lv_iload_n (pc := 27) hx hb d_Net_appendLike_27 rfl (lv_at hl 1 rfl) ?_
    obtain ⟨k4, hp⟩ := hp
    obtain ⟨k5, hp⟩ := hp
    refine fm_aald (pc := 28) hC hw 2 rfl (by decide) k1 k4 rfl (Nat.ne_of_gt k5.1) d_Net_appendLike_28 ?_
    refine call_vm (pc := 29) (fun _ h => h) hw (fm_runV (As := [.ref (b + (R (R h 0) x1.toNatClampNeg))]) (rest := []) hC hw (c_Rec_becomeLike l D dA b n T R M sz (R (R h 0) (M h 3).toNatClampNeg) (R (R h 0) x1.toNatClampNeg) _) cy_Rec_becomeLike hp rfl rfl mw_188 mw_189 mw_190 (rfl : classes[3]? = _) (by decide) k3 ⟨Nat.le_of_ble_eq_true rfl, Nat.le_of_ble_eq_true rfl⟩ rfl hl.1 rfl (Nat.le_of_ble_eq_true rfl) d_Net_appendLike_29 ⟨(Nat.le_of_ble_eq_true rfl), (Nat.le_of_ble_eq_true rfl)⟩) (fun M6 H locs hp hw => ?_)
    refine lv_aload_n (pc := 32) hx hb d_Net_appendLike_32 rfl (lv_at hl 0 rfl) ?_
    refine lv_dup (pc := 33) hx hb d_Net_appendLike_33 rfl ?_
    refine gf_Net_25 (pc := 34) hC hw k0 d_Net_appendLike_34 ?_
    refine lv_iconst (v := 1) (pc := 37) hx hb d_Net_appendLike_37 (by decide) ?_
    refine lv_iadd (pc := 38) hx hb d_Net_appendLike_38 ?_
    refine pf_Net_25 (pc := 39) hC hw k0 d_Net_appendLike_39 (fun M7 H locs eM7 hw => ?_)
    have hp := hp M7 eM7
    refine lv_iconst (v := 1) (pc := 42) hx hb d_Net_appendLike_42 (by decide) ?_
    exact ret_zm hC hr hlk hw (Or.inr rfl) hp d_Net_appendLike_43
  · have hp := hp.2 hc
    refine lv_iconst (v := 0) (pc := 12) hx hb d_Net_appendLike_12 (by decide) ?_
    exact ret_zm hC hr hlk hw (Or.inl rfl) hp d_Net_appendLike_13
set_option maxHeartbeats 4000000 in
set_option maxRecDepth 100000 in
theorem c_Net_takeOut (l : Launch) (D : va_G) (dA : Nat → ClassId) (b n : Nat) (T : mT) (R : mR) (M : mM) (sz : Nat) (h : Nat) (x1 : Int32) (Q : Nat → mR → mM → Prop) : Met l y_Net_takeOut (Cond.code y_Net_takeOut b_Net_takeOut 4 (some (.object "LossyHandshake$NetRecord")) :: tW) ({ frames := 0, cells := 0, slots := 0, locals := 0 }) (Pm D dA b n T R M sz [.ref (b + h), .int x1] (w_Net_takeOut n T R M h x1 Q)) (Qrr D dA (An b n) b n T sz Q) 0 0 (An b n) := by
  refine fm_body (An b n) (by decide) (Nat.le_of_ble_eq_true rfl) (fun k h0 h1 => ⟨by omega, by omega⟩) (fun p e s m below meth c ls hC hr hlk hnm hl hw hp => ?_)
  have hx := hC.1.1
  have hb := hC.1.2.1
  have hl : lv_has ls 4 [(0, .ref (b + h)), (1, .int x1)] := hl
  generalize hav : (List.toArray ([.ref (b + h), .int x1] : List Value)) = av at hC ⊢
  unfold w_Net_takeOut at hp
  obtain ⟨k0, hp⟩ := hp
  have L19 : ∀ (N19 : Nat) (a0 : Nat) (a2 : Nat) (a3 : Int32) (R : mR) (M : mM)  (ls : Array Slot) (H : Heap) (locs : List Loc), ok T n a0 4 → ok T n a2 3 → lv_has ls 4 [(0, .ref (b + a0)), (2, .ref (b + a2)), (3, .int a3)] → St D dA (An b n) b n T R M sz s.heap H locs → w_Net_takeOut_L19 n T Q a0 a2 N19 a3 R M → W p l e ({ frames := 0, cells := 0, slots := 0, locals := 0 }) s m av below meth c H locs 0 0 (MQ below (Qrr D dA (An b n) b n T sz Q) av s 0 0 (An b n)) (F0 m 19 ls []) := by
    intro N19
    induction N19 with
    | zero => intro a0 a2 a3 R M ls H locs f5 f6 hl hw hp; exact False.elim hp
    | succ N19 ih19 =>
      intro a0 a2 a3 R M ls H locs f5 f6 hl hw hp
      unfold w_Net_takeOut_L19 at hp
      refine lv_iload_n (pc := 19) hx hb d_Net_takeOut_19 rfl (lv_at hl 2 rfl) ?_
      refine lv_aload_n (pc := 20) hx hb d_Net_takeOut_20 rfl (lv_at hl 0 rfl) ?_
      refine gf_Net_25 (pc := 21) hC hw f5 d_Net_takeOut_21 ?_
      refine lv_icmp_ge (pc := 24) (tgt := 47) hx hb d_Net_takeOut_24 rfl (fun hc => ?_) (fun hc => ?_)
      · have hp := hp.1 hc
        refine lv_aload_n (pc := 47) hx hb d_Net_takeOut_47 rfl (lv_at hl 0 rfl) ?_
        obtain ⟨k7, hp⟩ := hp
        refine gf_Net_11 (pc := 48) hC hw f5 (Nat.ne_of_gt k7.1) d_Net_takeOut_48 ?_
        refine lv_aload_n (pc := 51) hx hb d_Net_takeOut_51 rfl (lv_at hl 0 rfl) ?_
        refine gf_Net_25 (pc := 52) hC hw f5 d_Net_takeOut_52 ?_
        refine lv_aload_n (pc := 55) hx hb d_Net_takeOut_55 rfl (lv_at hl 0 rfl) ?_
        obtain ⟨k8, hp⟩ := hp
        refine gf_Net_18 (pc := 56) hC hw f5 (Nat.ne_of_gt k8.1) d_Net_takeOut_56 ?_
        obtain ⟨k9, hp⟩ := hp
        refine fm_aast (pc := 59) hC hw 2 rfl (by decide) (rfl : classes[3]? = _) (by decide) k7 k9 rfl k8 d_Net_takeOut_59 (fun R10 H locs eR10 hw => ?_)
        have hp := hp R10 eR10
        refine lv_aload_n (pc := 60) hx hb d_Net_takeOut_60 rfl (lv_at hl 0 rfl) ?_
        refine lv_aload_n (pc := 61) hx hb d_Net_takeOut_61 rfl (lv_at hl 1 rfl) ?_
        refine pf_Net_18 (pc := 62) hC hw f5 (Nat.ne_of_gt f6.1) d_Net_takeOut_62 (fun R11 H locs eR11 hw => ?_)
        have hp := hp R11 eR11
        refine lv_aload_n (pc := 65) hx hb d_Net_takeOut_65 rfl (lv_at hl 1 rfl) ?_
        exact ret_rr hC hr hlk hw (Nat.ne_of_gt f6.1) hp d_Net_takeOut_66
      · have hp := hp.2 hc
        refine lv_aload_n (pc := 27) hx hb d_Net_takeOut_27 rfl (lv_at hl 0 rfl) ?_
        obtain ⟨k12, hp⟩ := hp
        refine gf_Net_11 (pc := 28) hC hw f5 (Nat.ne_of_gt k12.1) d_Net_takeOut_28 ?_
        refine lv_iload_n (pc := 31) hx hb d_Net_takeOut_31 rfl (lv_at hl 2 rfl) ?_
        refine lv_aload_n (pc := 32) hx hb d_Net_takeOut_32 rfl (lv_at hl 0 rfl) ?_
        refine gf_Net_11 (pc := 33) hC hw f5 (Nat.ne_of_gt k12.1) d_Net_takeOut_33 ?_
        refine lv_iload_n (pc := 36) hx hb d_Net_takeOut_36 rfl (lv_at hl 2 rfl) ?_
        refine lv_iconst (v := 1) (pc := 37) hx hb d_Net_takeOut_37 (by decide) ?_
        refine lv_iadd (pc := 38) hx hb d_Net_takeOut_38 ?_
        obtain ⟨k13, hp⟩ := hp
        obtain ⟨k14, hp⟩ := hp
        refine fm_aald (pc := 39) hC hw 2 rfl (by decide) k12 k13 rfl (Nat.ne_of_gt k14.1) d_Net_takeOut_39 ?_
        obtain ⟨k15, hp⟩ := hp
        refine fm_aast (pc := 40) hC hw 2 rfl (by decide) (rfl : classes[3]? = _) (by decide) k12 k15 rfl k14 d_Net_takeOut_40 (fun R16 H locs eR16 hw => ?_)
        have hp := hp R16 eR16
        obtain ⟨v17, ev17⟩ : ∃ z : Int32, z = a3 + (1 : Int32) := ⟨_, rfl⟩
        have hp := hp v17 ev17
        refine lv_iinc (pc := 41) (k := 2) (v := v17) hx hb d_Net_takeOut_41 hl rfl ev17.symm (by decide) rfl (fun ls hl => ?_)
        have hl : lv_has ls 4 [(3, .int v17), (0, .ref (b + a0)), (2, .ref (b + a2))] := hl
        refine lv_goto (pc := 44) (tgt := 19) hx hb d_Net_takeOut_44 rfl ?_
        exact ih19  a0 a2 v17 R16 M ls _ _ f5 f6 (lv_sub hl [1, 2, 0] rfl) hw hp
  refine lv_aload_n (pc := 0) hx hb d_Net_takeOut_0 rfl (lv_at hl 0 rfl) ?_
  obtain ⟨k1, hp⟩ := hp
  refine gf_Net_11 (pc := 1) hC hw k0 (Nat.ne_of_gt k1.1) d_Net_takeOut_1 ?_
  refine lv_iload_n (pc := 4) hx hb d_Net_takeOut_4 rfl (lv_at hl 1 rfl) ?_
  obtain ⟨k2, hp⟩ := hp
  obtain ⟨k3, hp⟩ := hp
  refine fm_aald (pc := 5) hC hw 2 rfl (by decide) k1 k2 rfl (Nat.ne_of_gt k3.1) d_Net_takeOut_5 ?_
  refine lv_astore_n (pc := 6) hx hb d_Net_takeOut_6 rfl hl (by decide) rfl (fun ls hl => ?_)
  have hl : lv_has ls 4 [(2, .ref (b + (R (R h 0) x1.toNatClampNeg))), (0, .ref (b + h)), (1, .int x1)] := hl
  refine lv_aload_n (pc := 7) hx hb d_Net_takeOut_7 rfl (lv_at hl 1 rfl) ?_
  refine lv_dup (pc := 8) hx hb d_Net_takeOut_8 rfl ?_
  refine gf_Net_25 (pc := 9) hC hw k0 d_Net_takeOut_9 ?_
  refine lv_iconst (v := 1) (pc := 12) hx hb d_Net_takeOut_12 (by decide) ?_
  refine lv_isub (pc := 13) hx hb d_Net_takeOut_13 ?_
  refine pf_Net_25 (pc := 14) hC hw k0 d_Net_takeOut_14 (fun M4 H locs eM4 hw => ?_)
  have hp := hp M4 eM4
  refine lv_iload_n (pc := 17) hx hb d_Net_takeOut_17 rfl (lv_at hl 2 rfl) ?_
  refine lv_istore_n (pc := 18) hx hb d_Net_takeOut_18 rfl hl (by decide) rfl (fun ls hl => ?_)
  have hl : lv_has ls 4 [(3, .int x1), (2, .ref (b + (R (R h 0) x1.toNatClampNeg))), (0, .ref (b + h)), (1, .int x1)] := hl
  obtain ⟨N19, hp⟩ := hp
  exact L19 N19 h (R (R h 0) x1.toNatClampNeg) x1 R M4 ls _ _ k0 k3 (lv_sub hl [2, 1, 0] rfl) hw hp
set_option maxHeartbeats 4000000 in
set_option maxRecDepth 100000 in
theorem c_Rec_holdValue (l : Launch) (D : va_G) (dA : Nat → ClassId) (b n : Nat) (T : mT) (R : mR) (M : mM) (sz : Nat) (h : Nat) (x1 : Int32) (Q : mM → Prop) : Met l y_Rec_holdValue (Cond.code y_Rec_holdValue b_Rec_holdValue 2 none :: tW) ({ frames := 0, cells := 0, slots := 0, locals := 0 }) (Pm D dA b n T R M sz [.ref (b + h), .int x1] (w_Rec_holdValue n T R M h x1 Q)) (Qvm D dA (An b n) b n T R sz Q) 0 0 (An b n) := by
  refine fm_body (An b n) (by decide) (Nat.le_of_ble_eq_true rfl) (fun k h0 h1 => ⟨by omega, by omega⟩) (fun p e s m below meth c ls hC hr hlk hnm hl hw hp => ?_)
  have hx := hC.1.1
  have hb := hC.1.2.1
  have hl : lv_has ls 2 [(0, .ref (b + h)), (1, .int x1)] := hl
  generalize hav : (List.toArray ([.ref (b + h), .int x1] : List Value)) = av at hC ⊢
  unfold w_Rec_holdValue at hp
  obtain ⟨k0, hp⟩ := hp
  refine lv_aload_n (pc := 0) hx hb d_Rec_holdValue_0 rfl (lv_at hl 0 rfl) ?_
  obtain ⟨k1, hp⟩ := hp
  refine gf_Rec_9 (pc := 1) hC hw k0 (Nat.ne_of_gt k1.1) d_Rec_holdValue_1 ?_
  refine lv_iconst (v := 0) (pc := 4) hx hb d_Rec_holdValue_4 (by decide) ?_
  refine lv_iload_n (pc := 5) hx hb d_Rec_holdValue_5 rfl (lv_at hl 1 rfl) ?_
  obtain ⟨k2, hp⟩ := hp
  refine fm_iast (pc := 6) hC hw k1 k2 (show Int32.toNatClampNeg (0 : Int32) = 0 by decide) d_Rec_holdValue_6 (fun M3 H locs eM3 hw => ?_)
  have hp := hp M3 eM3
  refine lv_aload_n (pc := 7) hx hb d_Rec_holdValue_7 rfl (lv_at hl 0 rfl) ?_
  refine lv_iconst (v := 1) (pc := 8) hx hb d_Rec_holdValue_8 (by decide) ?_
  refine pf_Rec_34 (pc := 9) hC hw k0 d_Rec_holdValue_9 (fun M4 H locs eM4 hw => ?_)
  have hp := hp M4 eM4
  exact ret_vm hC hr hlk hw hp d_Rec_holdValue_12
set_option maxHeartbeats 4000000 in
set_option maxRecDepth 100000 in
theorem c_Rec_isPieceOf (l : Launch) (D : va_G) (dA : Nat → ClassId) (b n : Nat) (T : mT) (R : mR) (M : mM) (sz : Nat) (h : Nat) (x1 : Int32) (Q : Int32 → Prop) : Met l y_Rec_isPieceOf (Cond.code y_Rec_isPieceOf b_Rec_isPieceOf 2 (some .boolean) :: tW) ({ frames := 0, cells := 0, slots := 0, locals := 0 }) (Pm D dA b n T R M sz [.ref (b + h), .int x1] (w_Rec_isPieceOf n T R M h x1 Q)) (Qzp D dA (An b n) b n T R M sz Q) 0 0 (An b n) := by
  refine fm_body (An b n) (by decide) (Nat.le_of_ble_eq_true rfl) (fun k h0 h1 => ⟨by omega, by omega⟩) (fun p e s m below meth c ls hC hr hlk hnm hl hw hp => ?_)
  have hx := hC.1.1
  have hb := hC.1.2.1
  have hl : lv_has ls 2 [(0, .ref (b + h)), (1, .int x1)] := hl
  generalize hav : (List.toArray ([.ref (b + h), .int x1] : List Value)) = av at hC ⊢
  unfold w_Rec_isPieceOf at hp
  obtain ⟨k0, hp⟩ := hp
  refine lv_aload_n (pc := 0) hx hb d_Rec_isPieceOf_0 rfl (lv_at hl 0 rfl) ?_
  refine gf_Rec_19 (pc := 1) hC hw k0 d_Rec_isPieceOf_1 ?_
  refine lv_if_ne (pc := 4) (tgt := 19) hx hb d_Rec_isPieceOf_4 rfl (fun hc => ?_) (fun hc => ?_)
  · have hp := hp.2 hc
    refine lv_iconst (v := 0) (pc := 19) hx hb d_Rec_isPieceOf_19 (by decide) ?_
    exact ret_zp hC hr hlk hw (Or.inl rfl) hp d_Rec_isPieceOf_20
  · have hp := hp.1 hc
    refine lv_aload_n (pc := 7) hx hb d_Rec_isPieceOf_7 rfl (lv_at hl 0 rfl) ?_
    refine gf_Rec_28 (pc := 8) hC hw k0 d_Rec_isPieceOf_8 ?_
    refine lv_iload_n (pc := 11) hx hb d_Rec_isPieceOf_11 rfl (lv_at hl 1 rfl) ?_
    refine lv_icmp_ne (pc := 12) (tgt := 19) hx hb d_Rec_isPieceOf_12 rfl (fun hc => ?_) (fun hc => ?_)
    · have hp := hp.2 hc
      refine lv_iconst (v := 0) (pc := 19) hx hb d_Rec_isPieceOf_19 (by decide) ?_
      exact ret_zp hC hr hlk hw (Or.inl rfl) hp d_Rec_isPieceOf_20
    · have hp := hp.1 hc
      refine lv_iconst (v := 1) (pc := 15) hx hb d_Rec_isPieceOf_15 (by decide) ?_
      refine lv_goto (pc := 16) (tgt := 20) hx hb d_Rec_isPieceOf_16 rfl ?_
      exact ret_zp hC hr hlk hw (Or.inr rfl) hp d_Rec_isPieceOf_20
set_option maxHeartbeats 4000000 in
set_option maxRecDepth 100000 in
theorem c_Rec_headline (l : Launch) (D : va_G) (dA : Nat → ClassId) (b n : Nat) (T : mT) (R : mR) (M : mM) (sz : Nat) (h : Nat) (Q : Int32 → Prop) : Met l y_Rec_headline (Cond.code y_Rec_headline b_Rec_headline 1 (some .int) :: tW) ({ frames := 0, cells := 0, slots := 0, locals := 0 }) (Pm D dA b n T R M sz [.ref (b + h)] (w_Rec_headline n T R M h Q)) (Qip D dA (An b n) b n T R M sz Q) 0 0 (An b n) := by
  refine fm_body (An b n) (by decide) (Nat.le_of_ble_eq_true rfl) (fun k h0 h1 => ⟨by omega, by omega⟩) (fun p e s m below meth c ls hC hr hlk hnm hl hw hp => ?_)
  have hx := hC.1.1
  have hb := hC.1.2.1
  have hl : lv_has ls 1 [(0, .ref (b + h))] := hl
  generalize hav : (List.toArray ([.ref (b + h)] : List Value)) = av at hC ⊢
  unfold w_Rec_headline at hp
  obtain ⟨k0, hp⟩ := hp
  refine lv_ldc (v := 1000000) (pc := 0) hx hb hC.1.2.2.2.1 (hC.1.2.2.2.2 _ mw_191) d_Rec_headline_0 ?_
  refine lv_aload_n (pc := 2) hx hb d_Rec_headline_2 rfl (lv_at hl 0 rfl) ?_
  refine gf_Rec_15 (pc := 3) hC hw k0 d_Rec_headline_3 ?_
  refine lv_imul (pc := 6) hx hb d_Rec_headline_6 ?_
  refine lv_ldc (v := 100000) (pc := 7) hx hb hC.1.2.2.2.1 (hC.1.2.2.2.2 _ mw_192) d_Rec_headline_7 ?_
  refine lv_aload_n (pc := 9) hx hb d_Rec_headline_9 rfl (lv_at hl 0 rfl) ?_
  refine gf_Rec_19 (pc := 10) hC hw k0 d_Rec_headline_10 ?_
  refine lv_imul (pc := 13) hx hb d_Rec_headline_13 ?_
  refine lv_iadd (pc := 14) hx hb d_Rec_headline_14 ?_
  refine lv_sipush (v := 10000) (pc := 15) hx hb d_Rec_headline_15 (by decide) ?_
  refine lv_aload_n (pc := 18) hx hb d_Rec_headline_18 rfl (lv_at hl 0 rfl) ?_
  refine gf_Rec_22 (pc := 19) hC hw k0 d_Rec_headline_19 ?_
  refine lv_imul (pc := 22) hx hb d_Rec_headline_22 ?_
  refine lv_iadd (pc := 23) hx hb d_Rec_headline_23 ?_
  refine lv_aload_n (pc := 24) hx hb d_Rec_headline_24 rfl (lv_at hl 0 rfl) ?_
  refine gf_Rec_25 (pc := 25) hC hw k0 d_Rec_headline_25 ?_
  refine lv_sipush (v := 10000) (pc := 28) hx hb d_Rec_headline_28 (by decide) ?_
  refine lv_irem (pc := 31) hx hb d_Rec_headline_31 (by decide) ?_
  refine lv_iadd (pc := 32) hx hb d_Rec_headline_32 ?_
  exact ret_ip hC hr hlk hw hp d_Rec_headline_33
set_option maxHeartbeats 4000000 in
set_option maxRecDepth 100000 in
theorem c_Rec_summary (l : Launch) (D : va_G) (dA : Nat → ClassId) (b n : Nat) (T : mT) (R : mR) (M : mM) (sz : Nat) (h : Nat) (Q : Int32 → Prop) : Met l y_Rec_summary (Cond.code y_Rec_summary b_Rec_summary 1 (some .int) :: tW) ({ frames := 0, cells := 0, slots := 0, locals := 0 }) (Pm D dA b n T R M sz [.ref (b + h)] (w_Rec_summary n T R M h Q)) (Qip D dA (An b n) b n T R M sz Q) 0 0 (An b n) := by
  refine fm_body (An b n) (by decide) (Nat.le_of_ble_eq_true rfl) (fun k h0 h1 => ⟨by omega, by omega⟩) (fun p e s m below meth c ls hC hr hlk hnm hl hw hp => ?_)
  have hx := hC.1.1
  have hb := hC.1.2.1
  have hl : lv_has ls 1 [(0, .ref (b + h))] := hl
  generalize hav : (List.toArray ([.ref (b + h)] : List Value)) = av at hC ⊢
  unfold w_Rec_summary at hp
  obtain ⟨k0, hp⟩ := hp
  refine lv_aload_n (pc := 0) hx hb d_Rec_summary_0 rfl (lv_at hl 0 rfl) ?_
  refine gf_Rec_19 (pc := 1) hC hw k0 d_Rec_summary_1 ?_
  by_cases hs4_0 : (M h 3) = (0 : Int32)
  · have hp := hp.1 hs4_0
    refine lv_lookup (pc := 4) (tgt := 32) hx hb d_Rec_summary_4 (by decide) (by rw [hs4_0]) rfl ?_
    refine lv_sipush (v := 10000) (pc := 32) hx hb d_Rec_summary_32 (by decide) ?_
    refine lv_aload_n (pc := 35) hx hb d_Rec_summary_35 rfl (lv_at hl 0 rfl) ?_
    refine gf_Rec_28 (pc := 36) hC hw k0 d_Rec_summary_36 ?_
    refine lv_imul (pc := 39) hx hb d_Rec_summary_39 ?_
    refine lv_bipush (v := 100) (pc := 40) hx hb d_Rec_summary_40 (by decide) ?_
    refine lv_aload_n (pc := 42) hx hb d_Rec_summary_42 rfl (lv_at hl 0 rfl) ?_
    refine gf_Rec_31 (pc := 43) hC hw k0 d_Rec_summary_43 ?_
    refine lv_imul (pc := 46) hx hb d_Rec_summary_46 ?_
    refine lv_iadd (pc := 47) hx hb d_Rec_summary_47 ?_
    refine lv_aload_n (pc := 48) hx hb d_Rec_summary_48 rfl (lv_at hl 0 rfl) ?_
    refine gf_Rec_34 (pc := 49) hC hw k0 d_Rec_summary_49 ?_
    refine lv_iadd (pc := 52) hx hb d_Rec_summary_52 ?_
    exact ret_ip hC hr hlk hw hp d_Rec_summary_53
  by_cases hs4_1 : (M h 3) = (1 : Int32)
  · have hp := hp.2.1 hs4_1
    refine lv_lookup (pc := 4) (tgt := 54) hx hb d_Rec_summary_4 (by decide) (by rw [hs4_1]) rfl ?_
    refine lv_aload_n (pc := 54) hx hb d_Rec_summary_54 rfl (lv_at hl 0 rfl) ?_
    refine gf_Rec_34 (pc := 55) hC hw k0 d_Rec_summary_55 ?_
    exact ret_ip hC hr hlk hw hp d_Rec_summary_58
  have hp := hp.2.2 hs4_0 hs4_1
  refine lv_lookup (pc := 4) (tgt := 59) hx hb d_Rec_summary_4 (by decide) (by rw [lv_osw hs4_0 (by decide), lv_osw hs4_1 (by decide)]) rfl ?_
  refine lv_iconst (v := 0) (pc := 59) hx hb d_Rec_summary_59 (by decide) ?_
  exact ret_ip hC hr hlk hw hp d_Rec_summary_60
set_option maxHeartbeats 4000000 in
set_option maxRecDepth 100000 in
theorem c_Rec_fragmentByte (l : Launch) (D : va_G) (dA : Nat → ClassId) (b n : Nat) (T : mT) (R : mR) (M : mM) (sz : Nat) (h : Nat) (x1 : Int32) (Q : Int32 → Prop) : Met l y_Rec_fragmentByte (Cond.code y_Rec_fragmentByte b_Rec_fragmentByte 2 (some .int) :: tW) ({ frames := 0, cells := 0, slots := 0, locals := 0 }) (Pm D dA b n T R M sz [.ref (b + h), .int x1] (w_Rec_fragmentByte n T R M h x1 Q)) (Qip D dA (An b n) b n T R M sz Q) 0 0 (An b n) := by
  refine fm_body (An b n) (by decide) (Nat.le_of_ble_eq_true rfl) (fun k h0 h1 => ⟨by omega, by omega⟩) (fun p e s m below meth c ls hC hr hlk hnm hl hw hp => ?_)
  have hx := hC.1.1
  have hb := hC.1.2.1
  have hl : lv_has ls 2 [(0, .ref (b + h)), (1, .int x1)] := hl
  generalize hav : (List.toArray ([.ref (b + h), .int x1] : List Value)) = av at hC ⊢
  unfold w_Rec_fragmentByte at hp
  obtain ⟨k0, hp⟩ := hp
  refine lv_aload_n (pc := 0) hx hb d_Rec_fragmentByte_0 rfl (lv_at hl 0 rfl) ?_
  refine gf_Rec_19 (pc := 1) hC hw k0 d_Rec_fragmentByte_1 ?_
  refine lv_if_ne (pc := 4) (tgt := 28) hx hb d_Rec_fragmentByte_4 rfl (fun hc => ?_) (fun hc => ?_)
  · have hp := hp.2 hc
    refine lv_iconst (v := -1) (pc := 28) hx hb d_Rec_fragmentByte_28 (by decide) ?_
    exact ret_ip hC hr hlk hw hp d_Rec_fragmentByte_29
  · have hp := hp.1 hc
    refine lv_iload_n (pc := 7) hx hb d_Rec_fragmentByte_7 rfl (lv_at hl 1 rfl) ?_
    refine lv_if_lt (pc := 8) (tgt := 28) hx hb d_Rec_fragmentByte_8 rfl (fun hc => ?_) (fun hc => ?_)
    · have hp := hp.1 hc
      refine lv_iconst (v := -1) (pc := 28) hx hb d_Rec_fragmentByte_28 (by decide) ?_
      exact ret_ip hC hr hlk hw hp d_Rec_fragmentByte_29
    · have hp := hp.2 hc
      refine lv_iload_n (pc := 11) hx hb d_Rec_fragmentByte_11 rfl (lv_at hl 1 rfl) ?_
      refine lv_aload_n (pc := 12) hx hb d_Rec_fragmentByte_12 rfl (lv_at hl 0 rfl) ?_
      refine gf_Rec_34 (pc := 13) hC hw k0 d_Rec_fragmentByte_13 ?_
      refine lv_icmp_ge (pc := 16) (tgt := 28) hx hb d_Rec_fragmentByte_16 rfl (fun hc => ?_) (fun hc => ?_)
      · have hp := hp.1 hc
        refine lv_iconst (v := -1) (pc := 28) hx hb d_Rec_fragmentByte_28 (by decide) ?_
        exact ret_ip hC hr hlk hw hp d_Rec_fragmentByte_29
      · have hp := hp.2 hc
        refine lv_aload_n (pc := 19) hx hb d_Rec_fragmentByte_19 rfl (lv_at hl 0 rfl) ?_
        obtain ⟨k1, hp⟩ := hp
        refine gf_Rec_9 (pc := 20) hC hw k0 (Nat.ne_of_gt k1.1) d_Rec_fragmentByte_20 ?_
        refine lv_iload_n (pc := 23) hx hb d_Rec_fragmentByte_23 rfl (lv_at hl 1 rfl) ?_
        obtain ⟨k2, hp⟩ := hp
        refine fm_iald (pc := 24) hC hw k1 k2 rfl d_Rec_fragmentByte_24 ?_
        refine lv_goto (pc := 25) (tgt := 29) hx hb d_Rec_fragmentByte_25 rfl ?_
        exact ret_ip hC hr hlk hw hp d_Rec_fragmentByte_29
set_option maxHeartbeats 4000000 in
set_option maxRecDepth 100000 in
theorem c_X_serverSecret (l : Launch) (D : va_G) (dA : Nat → ClassId) (b n : Nat) (T : mT) (R : mR) (M : mM) (sz : Nat) (x1 : Int32) (Q : Int32 → Prop) : Met l y_X_serverSecret (Cond.code y_X_serverSecret b_X_serverSecret 1 (some .int) :: tW) ({ frames := 1, cells := 0, slots := 0, locals := 22 }) (Pm D dA b n T R M sz [.int x1] (w_X_serverSecret n T R M x1 Q)) (Qip D dA (An b n) b n T R M sz Q) 0 0 (An b n) := by
  refine fm_body (An b n) (by decide) (Nat.le_of_ble_eq_true rfl) (fun k h0 h1 => ⟨by omega, by omega⟩) (fun p e s m below meth c ls hC hr hlk hnm hl hw hp => ?_)
  have hx := hC.1.1
  have hb := hC.1.2.1
  have hl : lv_has ls 1 [(0, .int x1)] := hl
  generalize hav : (List.toArray ([.int x1] : List Value)) = av at hC ⊢
  unfold w_X_serverSecret at hp
  refine lv_iload_n (pc := 0) hx hb d_X_serverSecret_0 rfl (lv_at hl 0 rfl) ?_
  refine lv_iconst (v := 2) (pc := 1) hx hb d_X_serverSecret_1 (by decide) ?_
  refine call_ip (pc := 2) (fun _ h => h) hw (fm_runS (As := [.int x1, .int (2 : Int32)]) (rest := []) hC hw (c_X_mix l D dA b n T R M sz x1 (2 : Int32) _) cy_X_mix hp rfl rfl mw_34 mw_35 ⟨Nat.le_of_ble_eq_true rfl, Nat.le_of_ble_eq_true rfl⟩ rfl hl.1 rfl (Nat.le_of_ble_eq_true rfl) d_X_serverSecret_2 ⟨(Nat.le_of_ble_eq_true rfl), (Nat.le_of_ble_eq_true rfl)⟩) (fun r1 H locs hp hw => ?_)
  exact ret_ip hC hr hlk hw hp d_X_serverSecret_5
set_option maxHeartbeats 4000000 in
set_option maxRecDepth 100000 in
theorem c_Server_init (l : Launch) (D : va_G) (dA : Nat → ClassId) (b n : Nat) (T : mT) (R : mR) (M : mM) (h : Nat) (x1 : Int32) (x2 : Int32) (x3 : Nat) (Q : Nat → mT → mR → mM → Prop) : Met l y_Server_init (Cond.code y_Server_init b_Server_init 4 none :: tW) ({ frames := 4, cells := 48, slots := 786, locals := 79 }) (Pm D dA b n T R M (b + n + 1) [.ref (b + h), .int x1, .int x2, .ref (b + x3)] (w_Server_init n T R M h x1 x2 x3 Q)) (Qva D dA b  Q) 48 786 (Ab b) := by
  refine fm_body (Ab b) (by decide) (Nat.le_of_ble_eq_true rfl) (fun k h0 _ => show b < b + k by omega) (fun p e s m below meth c ls hC hr hlk hnm hl hw hp => ?_)
  have hx := hC.1.1
  have hb := hC.1.2.1
  have hl : lv_has ls 4 [(0, .ref (b + h)), (1, .int x1), (2, .int x2), (3, .ref (b + x3))] := hl
  generalize hav : (List.toArray ([.ref (b + h), .int x1, .int x2, .ref (b + x3)] : List Value)) = av at hC ⊢
  unfold w_Server_init at hp
  obtain ⟨k0, hp⟩ := hp
  refine lv_aload_n (pc := 0) hx hb d_Server_init_0 rfl (lv_at hl 0 rfl) ?_
  refine lv_iconst (v := 1) (pc := 1) hx hb d_Server_init_1 (by decide) ?_
  refine lv_iload_n (pc := 2) hx hb d_Server_init_2 rfl (lv_at hl 2 rfl) ?_
  refine lv_aload_n (pc := 3) hx hb d_Server_init_3 rfl (lv_at hl 3 rfl) ?_
  refine lv_bipush (v := 9) (pc := 4) hx hb d_Server_init_4 (by decide) ?_
  refine call_va (pc := 6) (fun _ h => h) hw (fm_runI (As := [.int (1 : Int32), .int x2, .ref (b + x3), .int (9 : Int32)]) (rest := []) hC hw (c_Side_init l D dA b n T R M h (1 : Int32) x2 x3 (9 : Int32) _) cy_Side_init hp rfl rfl mw_193 mw_37 rfl ⟨Nat.le_of_ble_eq_true rfl, Nat.le_of_ble_eq_true rfl⟩ rfl hl.1 rfl (Nat.le_of_ble_eq_true rfl) d_Server_init_6 ⟨(Nat.le_of_ble_eq_true rfl), (Nat.le_of_ble_eq_true rfl)⟩) (fun n1 T2 R3 M4 H locs hp hw => ?_)
  refine W.widen (k := 38) (n := 451) (Nat.le_of_ble_eq_true rfl) (Nat.le_of_ble_eq_true rfl) ?_
  refine lv_aload_n (pc := 9) hx hb d_Server_init_9 rfl (lv_at hl 0 rfl) ?_
  refine fm_new (pc := 10) hC hw hin_Msg t_Msg t_Msg_ok mw_194 mw_39 mw_40 (rfl : classes[0]? = _) (by decide) (by decide) df_Msg (Nat.le_of_ble_eq_true rfl) (Nat.le_of_ble_eq_true rfl) d_Server_init_10 (fun T5 R6 M7 H eT5 eR6 eM7 hw => ?_)
  have hp := hp T5 R6 M7 eT5 eR6 eM7
  have k8 := ok_new eT5
  refine W.widen (k := 39) (n := 454) (Nat.le_of_ble_eq_true rfl) (Nat.le_of_ble_eq_true rfl) ?_
  refine lv_dup (pc := 13) hx hb d_Server_init_13 rfl ?_
  refine lv_iconst (v := 0) (pc := 14) hx hb d_Server_init_14 (by decide) ?_
  refine lv_iconst (v := 0) (pc := 15) hx hb d_Server_init_15 (by decide) ?_
  refine lv_iconst (v := 4) (pc := 16) hx hb d_Server_init_16 (by decide) ?_
  refine call_va (pc := 17) (fun _ h => h) hw (fm_runI (As := [.int (0 : Int32), .int (0 : Int32), .int (4 : Int32)]) (rest := [.ref (b + (n1 + 1)), .ref (b + h)]) hC hw (c_Msg_init l D dA b (n1 + 1) T5 R6 M7 (n1 + 1) (0 : Int32) (0 : Int32) (4 : Int32) _) cy_Msg_init hp rfl rfl mw_195 mw_42 rfl ⟨Nat.le_of_ble_eq_true rfl, Nat.le_of_ble_eq_true rfl⟩ rfl hl.1 rfl (Nat.le_of_ble_eq_true rfl) d_Server_init_17 ⟨(Nat.le_of_ble_eq_true rfl), (Nat.le_of_ble_eq_true rfl)⟩) (fun n9 T10 R11 M12 H locs hp hw => ?_)
  refine W.widen (k := 40) (n := 518) (Nat.le_of_ble_eq_true rfl) (Nat.le_of_ble_eq_true rfl) ?_
  obtain ⟨k13, hp⟩ := hp
  obtain ⟨k14, hp⟩ := hp
  refine pf_Server_14 (pc := 20) hC hw k13 hnm (Nat.ne_of_gt k14.1) d_Server_init_20 (fun R15 H locs eR15 hw => ?_)
  have hp := hp R15 eR15
  refine lv_aload_n (pc := 23) hx hb d_Server_init_23 rfl (lv_at hl 0 rfl) ?_
  refine fm_new (pc := 24) hC hw hin_Msg t_Msg t_Msg_ok mw_194 mw_39 mw_40 (rfl : classes[0]? = _) (by decide) (by decide) df_Msg (Nat.le_of_ble_eq_true rfl) (Nat.le_of_ble_eq_true rfl) d_Server_init_24 (fun T16 R17 M18 H eT16 eR17 eM18 hw => ?_)
  have hp := hp T16 R17 M18 eT16 eR17 eM18
  have k13 := (ok_push eT16 k13 : _)
  have k14 := (ok_push eT16 k14 : _)
  have k19 := ok_new eT16
  refine W.widen (k := 41) (n := 521) (Nat.le_of_ble_eq_true rfl) (Nat.le_of_ble_eq_true rfl) ?_
  refine lv_dup (pc := 27) hx hb d_Server_init_27 rfl ?_
  refine lv_iconst (v := 1) (pc := 28) hx hb d_Server_init_28 (by decide) ?_
  refine lv_iconst (v := 0) (pc := 29) hx hb d_Server_init_29 (by decide) ?_
  refine lv_iconst (v := 4) (pc := 30) hx hb d_Server_init_30 (by decide) ?_
  refine call_va (pc := 31) (fun _ h => h) hw (fm_runI (As := [.int (1 : Int32), .int (0 : Int32), .int (4 : Int32)]) (rest := [.ref (b + (n9 + 1)), .ref (b + h)]) hC hw (c_Msg_init l D dA b (n9 + 1) T16 R17 M18 (n9 + 1) (1 : Int32) (0 : Int32) (4 : Int32) _) cy_Msg_init hp rfl rfl mw_195 mw_42 rfl ⟨Nat.le_of_ble_eq_true rfl, Nat.le_of_ble_eq_true rfl⟩ rfl hl.1 rfl (Nat.le_of_ble_eq_true rfl) d_Server_init_31 ⟨(Nat.le_of_ble_eq_true rfl), (Nat.le_of_ble_eq_true rfl)⟩) (fun n20 T21 R22 M23 H locs hp hw => ?_)
  refine W.widen (k := 42) (n := 585) (Nat.le_of_ble_eq_true rfl) (Nat.le_of_ble_eq_true rfl) ?_
  obtain ⟨k24, hp⟩ := hp
  obtain ⟨k25, hp⟩ := hp
  refine pf_Server_20 (pc := 34) hC hw k24 hnm (Nat.ne_of_gt k25.1) d_Server_init_34 (fun R26 H locs eR26 hw => ?_)
  have hp := hp R26 eR26
  refine lv_aload_n (pc := 37) hx hb d_Server_init_37 rfl (lv_at hl 0 rfl) ?_
  refine fm_new (pc := 38) hC hw hin_Msg t_Msg t_Msg_ok mw_194 mw_39 mw_40 (rfl : classes[0]? = _) (by decide) (by decide) df_Msg (Nat.le_of_ble_eq_true rfl) (Nat.le_of_ble_eq_true rfl) d_Server_init_38 (fun T27 R28 M29 H eT27 eR28 eM29 hw => ?_)
  have hp := hp T27 R28 M29 eT27 eR28 eM29
  have k24 := (ok_push eT27 k24 : _)
  have k25 := (ok_push eT27 k25 : _)
  have k30 := ok_new eT27
  refine W.widen (k := 43) (n := 588) (Nat.le_of_ble_eq_true rfl) (Nat.le_of_ble_eq_true rfl) ?_
  refine lv_dup (pc := 41) hx hb d_Server_init_41 rfl ?_
  refine lv_iconst (v := 2) (pc := 42) hx hb d_Server_init_42 (by decide) ?_
  refine lv_iconst (v := 2) (pc := 43) hx hb d_Server_init_43 (by decide) ?_
  refine lv_bipush (v := 6) (pc := 44) hx hb d_Server_init_44 (by decide) ?_
  refine call_va (pc := 46) (fun _ h => h) hw (fm_runI (As := [.int (2 : Int32), .int (2 : Int32), .int (6 : Int32)]) (rest := [.ref (b + (n20 + 1)), .ref (b + h)]) hC hw (c_Msg_init l D dA b (n20 + 1) T27 R28 M29 (n20 + 1) (2 : Int32) (2 : Int32) (6 : Int32) _) cy_Msg_init hp rfl rfl mw_195 mw_42 rfl ⟨Nat.le_of_ble_eq_true rfl, Nat.le_of_ble_eq_true rfl⟩ rfl hl.1 rfl (Nat.le_of_ble_eq_true rfl) d_Server_init_46 ⟨(Nat.le_of_ble_eq_true rfl), (Nat.le_of_ble_eq_true rfl)⟩) (fun n31 T32 R33 M34 H locs hp hw => ?_)
  refine W.widen (k := 44) (n := 652) (Nat.le_of_ble_eq_true rfl) (Nat.le_of_ble_eq_true rfl) ?_
  obtain ⟨k35, hp⟩ := hp
  obtain ⟨k36, hp⟩ := hp
  refine pf_Server_23 (pc := 49) hC hw k35 hnm (Nat.ne_of_gt k36.1) d_Server_init_49 (fun R37 H locs eR37 hw => ?_)
  have hp := hp R37 eR37
  refine lv_aload_n (pc := 52) hx hb d_Server_init_52 rfl (lv_at hl 0 rfl) ?_
  refine fm_new (pc := 53) hC hw hin_Msg t_Msg t_Msg_ok mw_194 mw_39 mw_40 (rfl : classes[0]? = _) (by decide) (by decide) df_Msg (Nat.le_of_ble_eq_true rfl) (Nat.le_of_ble_eq_true rfl) d_Server_init_53 (fun T38 R39 M40 H eT38 eR39 eM40 hw => ?_)
  have hp := hp T38 R39 M40 eT38 eR39 eM40
  have k35 := (ok_push eT38 k35 : _)
  have k36 := (ok_push eT38 k36 : _)
  have k41 := ok_new eT38
  refine W.widen (k := 45) (n := 655) (Nat.le_of_ble_eq_true rfl) (Nat.le_of_ble_eq_true rfl) ?_
  refine lv_dup (pc := 56) hx hb d_Server_init_56 rfl ?_
  refine lv_iconst (v := 4) (pc := 57) hx hb d_Server_init_57 (by decide) ?_
  refine lv_iconst (v := 2) (pc := 58) hx hb d_Server_init_58 (by decide) ?_
  refine lv_iconst (v := 4) (pc := 59) hx hb d_Server_init_59 (by decide) ?_
  refine call_va (pc := 60) (fun _ h => h) hw (fm_runI (As := [.int (4 : Int32), .int (2 : Int32), .int (4 : Int32)]) (rest := [.ref (b + (n31 + 1)), .ref (b + h)]) hC hw (c_Msg_init l D dA b (n31 + 1) T38 R39 M40 (n31 + 1) (4 : Int32) (2 : Int32) (4 : Int32) _) cy_Msg_init hp rfl rfl mw_195 mw_42 rfl ⟨Nat.le_of_ble_eq_true rfl, Nat.le_of_ble_eq_true rfl⟩ rfl hl.1 rfl (Nat.le_of_ble_eq_true rfl) d_Server_init_60 ⟨(Nat.le_of_ble_eq_true rfl), (Nat.le_of_ble_eq_true rfl)⟩) (fun n42 T43 R44 M45 H locs hp hw => ?_)
  refine W.widen (k := 46) (n := 719) (Nat.le_of_ble_eq_true rfl) (Nat.le_of_ble_eq_true rfl) ?_
  obtain ⟨k46, hp⟩ := hp
  obtain ⟨k47, hp⟩ := hp
  refine pf_Server_26 (pc := 63) hC hw k46 hnm (Nat.ne_of_gt k47.1) d_Server_init_63 (fun R48 H locs eR48 hw => ?_)
  have hp := hp R48 eR48
  refine lv_aload_n (pc := 66) hx hb d_Server_init_66 rfl (lv_at hl 0 rfl) ?_
  refine lv_iload_n (pc := 67) hx hb d_Server_init_67 rfl (lv_at hl 1 rfl) ?_
  refine call_ip (pc := 68) (fun _ h => h.1) hw (fm_runSN (As := [.int x1]) (rest := [.ref (b + h)]) hC hw (c_X_serverSecret l D dA b n42 T43 R48 M45 (b + n42 + 1) x1 _) cy_X_serverSecret hp rfl rfl nw_10 mw_196 ⟨Nat.le_of_ble_eq_true rfl, Nat.le_of_ble_eq_true rfl⟩ rfl hl.1 rfl (Nat.le_of_ble_eq_true rfl) d_Server_init_68 ⟨(Nat.le_of_ble_eq_true rfl), (Nat.le_of_ble_eq_true rfl)⟩) (fun r49 H locs hp hw => ?_)
  refine pf_Server_33 (pc := 71) hC hw k46 hnm d_Server_init_71 (fun M50 H locs eM50 hw => ?_)
  have hp := hp M50 eM50
  refine lv_aload_n (pc := 74) hx hb d_Server_init_74 rfl (lv_at hl 0 rfl) ?_
  refine fm_new (pc := 75) hC hw hin_Msg t_Msg t_Msg_ok mw_194 mw_39 mw_40 (rfl : classes[0]? = _) (by decide) (by decide) df_Msg (Nat.le_of_ble_eq_true rfl) (Nat.le_of_ble_eq_true rfl) d_Server_init_75 (fun T51 R52 M53 H eT51 eR52 eM53 hw => ?_)
  have hp := hp T51 R52 M53 eT51 eR52 eM53
  have k46 := (ok_push eT51 k46 : _)
  have k47 := (ok_push eT51 k47 : _)
  have k54 := ok_new eT51
  refine W.widen (k := 47) (n := 722) (Nat.le_of_ble_eq_true rfl) (Nat.le_of_ble_eq_true rfl) ?_
  refine lv_dup (pc := 78) hx hb d_Server_init_78 rfl ?_
  refine lv_iconst (v := 3) (pc := 79) hx hb d_Server_init_79 (by decide) ?_
  refine lv_iconst (v := 2) (pc := 80) hx hb d_Server_init_80 (by decide) ?_
  refine lv_iload_n (pc := 81) hx hb d_Server_init_81 rfl (lv_at hl 1 rfl) ?_
  refine call_ip (pc := 82) (fun _ h => h.1) hw (fm_runSN (As := [.int x1]) (rest := [.int (2 : Int32), .int (3 : Int32), .ref (b + (n42 + 1)), .ref (b + (n42 + 1)), .ref (b + h)]) hC hw (c_X_proofLength l D dA b (n42 + 1) T51 R52 M53 (b + (n42 + 1) + 1) x1 _) cy_X_proofLength hp rfl rfl nw_11 mw_47 ⟨Nat.le_of_ble_eq_true rfl, Nat.le_of_ble_eq_true rfl⟩ rfl hl.1 rfl (Nat.le_of_ble_eq_true rfl) d_Server_init_82 ⟨(Nat.le_of_ble_eq_true rfl), (Nat.le_of_ble_eq_true rfl)⟩) (fun r55 H locs hp hw => ?_)
  refine call_va (pc := 85) (fun _ h => h) hw (fm_runI (As := [.int (3 : Int32), .int (2 : Int32), .int r55]) (rest := [.ref (b + (n42 + 1)), .ref (b + h)]) hC hw (c_Msg_init l D dA b (n42 + 1) T51 R52 M53 (n42 + 1) (3 : Int32) (2 : Int32) r55 _) cy_Msg_init hp rfl rfl mw_195 mw_42 rfl ⟨Nat.le_of_ble_eq_true rfl, Nat.le_of_ble_eq_true rfl⟩ rfl hl.1 rfl (Nat.le_of_ble_eq_true rfl) d_Server_init_85 ⟨(Nat.le_of_ble_eq_true rfl), (Nat.le_of_ble_eq_true rfl)⟩) (fun n56 T57 R58 M59 H locs hp hw => ?_)
  refine W.widen (k := 48) (n := 786) (Nat.le_of_ble_eq_true rfl) (Nat.le_of_ble_eq_true rfl) ?_
  obtain ⟨k60, hp⟩ := hp
  obtain ⟨k61, hp⟩ := hp
  refine pf_Server_40 (pc := 88) hC hw k60 hnm (Nat.ne_of_gt k61.1) d_Server_init_88 (fun R62 H locs eR62 hw => ?_)
  have hp := hp R62 eR62
  refine W.widen (k := 48) (n := 786) (by decide) (by decide) ?_
  exact ret_va hC hr hlk hw hp d_Server_init_91
set_option maxHeartbeats 4000000 in
set_option maxRecDepth 100000 in
theorem c_Server_sendRetry (l : Launch) (D : va_G) (dA : Nat → ClassId) (b n : Nat) (T : mT) (R : mR) (M : mM) (sz : Nat) (h : Nat) (x1 : Nat) (Q : mM → Prop) : Met l y_Server_sendRetry (Cond.code y_Server_sendRetry b_Server_sendRetry 3 none :: tW) ({ frames := 2, cells := 0, slots := 0, locals := 49 }) (Pm D dA b n T R M sz [.ref (b + h), .ref (b + x1)] (w_Server_sendRetry n T R M h x1 Q)) (Qvm D dA (An b n) b n T R sz Q) 0 0 (An b n) := by
  refine fm_body (An b n) (by decide) (Nat.le_of_ble_eq_true rfl) (fun k h0 h1 => ⟨by omega, by omega⟩) (fun p e s m below meth c ls hC hr hlk hnm hl hw hp => ?_)
  have hx := hC.1.1
  have hb := hC.1.2.1
  have hl : lv_has ls 3 [(0, .ref (b + h)), (1, .ref (b + x1))] := hl
  generalize hav : (List.toArray ([.ref (b + h), .ref (b + x1)] : List Value)) = av at hC ⊢
  unfold w_Server_sendRetry at hp
  obtain ⟨k0, hp⟩ := hp
  refine lv_aload_n (pc := 0) hx hb d_Server_sendRetry_0 rfl (lv_at hl 0 rfl) ?_
  obtain ⟨k1, hp⟩ := hp
  refine gf_Server_14 (pc := 1) hC hw k0 (Nat.ne_of_gt k1.1) d_Server_sendRetry_1 ?_
  refine lv_iconst (v := 0) (pc := 4) hx hb d_Server_sendRetry_4 (by decide) ?_
  refine lv_aload_n (pc := 5) hx hb d_Server_sendRetry_5 rfl (lv_at hl 0 rfl) ?_
  refine gf_Server_33 (pc := 6) hC hw k0 d_Server_sendRetry_6 ?_
  refine lv_aload_n (pc := 9) hx hb d_Server_sendRetry_9 rfl (lv_at hl 1 rfl) ?_
  obtain ⟨k2, hp⟩ := hp
  refine call_ip (pc := 10) (fun _ h => h) hw (fm_runV (As := []) (rest := [.int (M h 14), .int (0 : Int32), .ref (b + (R h 15))]) hC hw (c_Rec_readFirstInt l D dA b n T R M sz x1 _) cy_Rec_readFirstInt hp rfl rfl mw_197 mw_131 mw_132 (rfl : classes[3]? = _) (by decide) k2 ⟨Nat.le_of_ble_eq_true rfl, Nat.le_of_ble_eq_true rfl⟩ rfl hl.1 rfl (Nat.le_of_ble_eq_true rfl) d_Server_sendRetry_10 ⟨(Nat.le_of_ble_eq_true rfl), (Nat.le_of_ble_eq_true rfl)⟩) (fun r3 H locs hp hw => ?_)
  refine call_ip (pc := 13) (fun _ h => h) hw (fm_runSN (As := [.int (M h 14), .int r3]) (rest := [.int (0 : Int32), .ref (b + (R h 15))]) hC hw (c_X_mix l D dA b n T R M sz (M h 14) r3 _) cy_X_mix hp rfl rfl nw_12 mw_35 ⟨Nat.le_of_ble_eq_true rfl, Nat.le_of_ble_eq_true rfl⟩ rfl hl.1 rfl (Nat.le_of_ble_eq_true rfl) d_Server_sendRetry_13 ⟨(Nat.le_of_ble_eq_true rfl), (Nat.le_of_ble_eq_true rfl)⟩) (fun r4 H locs hp hw => ?_)
  refine call_vm (pc := 16) (fun _ h => h) hw (fm_runV (As := [.int (0 : Int32), .int r4]) (rest := []) hC hw (c_Msg_writeInt l D dA b n T R M sz (R h 15) (0 : Int32) r4 _) cy_Msg_writeInt hp rfl rfl mw_198 mw_99 mw_100 (rfl : classes[0]? = _) (by decide) k1 ⟨Nat.le_of_ble_eq_true rfl, Nat.le_of_ble_eq_true rfl⟩ rfl hl.1 rfl (Nat.le_of_ble_eq_true rfl) d_Server_sendRetry_16 ⟨(Nat.le_of_ble_eq_true rfl), (Nat.le_of_ble_eq_true rfl)⟩) (fun M5 H locs hp hw => ?_)
  refine lv_aload_n (pc := 19) hx hb d_Server_sendRetry_19 rfl (lv_at hl 0 rfl) ?_
  obtain ⟨k6, hp⟩ := hp
  refine gf_Server_98 (pc := 20) hC hw k0 (Nat.ne_of_gt k6.1) d_Server_sendRetry_20 ?_
  refine lv_aload_n (pc := 23) hx hb d_Server_sendRetry_23 rfl (lv_at hl 0 rfl) ?_
  refine gf_Server_102 (pc := 24) hC hw k0 d_Server_sendRetry_24 ?_
  refine lv_iconst (v := 0) (pc := 27) hx hb d_Server_sendRetry_27 (by decide) ?_
  refine lv_iconst (v := 0) (pc := 28) hx hb d_Server_sendRetry_28 (by decide) ?_
  refine lv_aload_n (pc := 29) hx hb d_Server_sendRetry_29 rfl (lv_at hl 1 rfl) ?_
  refine gf_Server_105 (pc := 30) hC hw k2 d_Server_sendRetry_30 ?_
  refine call_rm (pc := 33) (fun _ h => h) hw (fm_runV (As := [.int (M5 h 0), .int (0 : Int32), .int (0 : Int32), .int (M5 x1 5)]) (rest := []) hC hw (c_Net_append l D dA b n T R M5 sz (R h 2) (M5 h 0) (0 : Int32) (0 : Int32) (M5 x1 5) _) cy_Net_append hp rfl rfl mw_199 mw_76 mw_77 (rfl : classes[4]? = _) (by decide) k6 ⟨Nat.le_of_ble_eq_true rfl, Nat.le_of_ble_eq_true rfl⟩ rfl hl.1 rfl (Nat.le_of_ble_eq_true rfl) d_Server_sendRetry_33 ⟨(Nat.le_of_ble_eq_true rfl), (Nat.le_of_ble_eq_true rfl)⟩) (fun r7 M8 H locs hp z9 hw => ?_)
  refine lv_astore_n (pc := 36) hx hb d_Server_sendRetry_36 rfl hl (by decide) rfl (fun ls hl => ?_)
  have hl : lv_has ls 3 [(2, .ref (b + r7)), (0, .ref (b + h)), (1, .ref (b + x1))] := hl
  refine lv_aload_n (pc := 37) hx hb d_Server_sendRetry_37 rfl (lv_at hl 0 rfl) ?_
  refine lv_iconst (v := 0) (pc := 38) hx hb d_Server_sendRetry_38 (by decide) ?_
  refine lv_iconst (v := 0) (pc := 39) hx hb d_Server_sendRetry_39 (by decide) ?_
  obtain ⟨k10, hp⟩ := hp
  refine call_vm (pc := 40) (fun _ h => h) hw (fm_runV (As := [.int (0 : Int32), .int (0 : Int32)]) (rest := []) hC hw (c_Rec_markAsPiece l D dA b n T R M8 sz r7 (0 : Int32) (0 : Int32) _) cy_Rec_markAsPiece hp rfl rfl mw_200 mw_79 mw_80 (rfl : classes[3]? = _) (by decide) k10 ⟨Nat.le_of_ble_eq_true rfl, Nat.le_of_ble_eq_true rfl⟩ rfl hl.1 rfl (Nat.le_of_ble_eq_true rfl) d_Server_sendRetry_40 ⟨(Nat.le_of_ble_eq_true rfl), (Nat.le_of_ble_eq_true rfl)⟩) (fun M11 H locs hp hw => ?_)
  refine lv_aload_n (pc := 43) hx hb d_Server_sendRetry_43 rfl (lv_at hl 0 rfl) ?_
  refine lv_aload_n (pc := 44) hx hb d_Server_sendRetry_44 rfl (lv_at hl 1 rfl) ?_
  refine gf_Server_14 (pc := 45) hC hw k0 (Nat.ne_of_gt k1.1) d_Server_sendRetry_45 ?_
  obtain ⟨k12, hp⟩ := hp
  refine gf_Server_117 (pc := 48) hC hw k1 (Nat.ne_of_gt k12.1) d_Server_sendRetry_48 ?_
  refine lv_aload_n (pc := 51) hx hb d_Server_sendRetry_51 rfl (lv_at hl 1 rfl) ?_
  refine gf_Server_14 (pc := 52) hC hw k0 (Nat.ne_of_gt k1.1) d_Server_sendRetry_52 ?_
  refine gf_Server_117 (pc := 55) hC hw k1 (Nat.ne_of_gt k12.1) d_Server_sendRetry_55 ?_
  refine fm_alen (pc := 58) (t0 := 0) hC hw k12 rfl (by decide) d_Server_sendRetry_58 ?_
  refine call_vm (pc := 59) (fun _ h => h) hw (fm_runV (As := [.ref (b + (R (R h 15) 2)), .int (nI (T (R (R h 15) 2)).2)]) (rest := []) hC hw (c_Rec_hold l D dA b n T R M11 sz r7 (R (R h 15) 2) (nI (T (R (R h 15) 2)).2) _) cy_Rec_hold hp rfl rfl mw_201 mw_82 mw_83 (rfl : classes[3]? = _) (by decide) k10 ⟨Nat.le_of_ble_eq_true rfl, Nat.le_of_ble_eq_true rfl⟩ rfl hl.1 rfl (Nat.le_of_ble_eq_true rfl) d_Server_sendRetry_59 ⟨(Nat.le_of_ble_eq_true rfl), (Nat.le_of_ble_eq_true rfl)⟩) (fun M13 H locs hp hw => ?_)
  exact ret_vm hC hr hlk hw hp d_Server_sendRetry_62
