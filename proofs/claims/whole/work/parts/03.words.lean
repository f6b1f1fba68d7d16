set_option maxRecDepth 100000 in
theorem mw_0 : (Cond.methodLink "LossyHandshake$Assembly" 3 Lib.objectInit) ∈ tW := List.mem_filter.mpr ⟨(List.mem_append_right _ (List.mem_of_getElem? (i := 253) rfl)), rfl⟩
set_option maxRecDepth 100000 in
theorem mw_1 : (Cond.instanceMethod Lib.objectInit) ∈ tW := List.mem_filter.mpr ⟨(List.mem_append_right _ (List.mem_of_getElem? (i := 21) rfl)), rfl⟩
set_option maxRecDepth 100000 in
theorem mw_2 : (Cond.code Lib.objectInit ⟨#[0xb1]⟩ 1 none) ∈ tW := List.mem_filter.mpr ⟨(List.mem_append_right _ (List.mem_of_getElem? (i := 22) rfl)), rfl⟩
set_option maxRecDepth 100000 in
theorem mw_3 : (Cond.arrayClass .int) ∈ tW := List.mem_filter.mpr ⟨(List.mem_append_right _ (List.mem_of_getElem? (i := 90) rfl)), rfl⟩
set_option maxRecDepth 100000 in
theorem mw_4 : (Cond.methodLink "LossyHandshake$Assembly" 27 y_Asm_startOf) ∈ tW := List.mem_filter.mpr ⟨(List.mem_append_right _ (List.mem_of_getElem? (i := 653) rfl)), rfl⟩
set_option maxRecDepth 100000 in
theorem mw_5 : (Cond.instanceMethod y_Asm_startOf) ∈ tW := List.mem_filter.mpr ⟨(List.mem_append_right _ (List.mem_of_getElem? (i := 654) rfl)), rfl⟩
set_option maxRecDepth 100000 in
theorem mw_6 : (Cond.selects "LossyHandshake$Assembly" y_Asm_startOf y_Asm_startOf) ∈ tW := List.mem_filter.mpr ⟨(List.mem_append_right _ (List.mem_of_getElem? (i := 655) rfl)), rfl⟩
set_option maxRecDepth 100000 in
theorem mw_7 : (Cond.methodLink "LossyHandshake$Assembly" 40 y_Asm_isWhole) ∈ tW := List.mem_filter.mpr ⟨(List.mem_append_right _ (List.mem_of_getElem? (i := 670) rfl)), rfl⟩
set_option maxRecDepth 100000 in
theorem mw_8 : (Cond.instanceMethod y_Asm_isWhole) ∈ tW := List.mem_filter.mpr ⟨(List.mem_append_right _ (List.mem_of_getElem? (i := 671) rfl)), rfl⟩
set_option maxRecDepth 100000 in
theorem mw_9 : (Cond.selects "LossyHandshake$Assembly" y_Asm_isWhole y_Asm_isWhole) ∈ tW := List.mem_filter.mpr ⟨(List.mem_append_right _ (List.mem_of_getElem? (i := 672) rfl)), rfl⟩
set_option maxRecDepth 100000 in
theorem mw_10 : (Cond.methodLink "LossyHandshake$Noted" 3 Lib.objectInit) ∈ tW := List.mem_filter.mpr ⟨(List.mem_append_right _ (List.mem_of_getElem? (i := 128) rfl)), rfl⟩
set_option maxRecDepth 100000 in
theorem mw_11 : (Cond.methodLink "LossyHandshake$Fragment" 3 Lib.objectInit) ∈ tW := List.mem_filter.mpr ⟨(List.mem_append_right _ (List.mem_of_getElem? (i := 152) rfl)), rfl⟩
set_option maxRecDepth 100000 in
theorem mw_12 : (Cond.methodLink "LossyHandshake$Flight" 3 Lib.objectInit) ∈ tW := List.mem_filter.mpr ⟨(List.mem_append_right _ (List.mem_of_getElem? (i := 145) rfl)), rfl⟩
set_option maxRecDepth 100000 in
theorem mw_13 : (Cond.classLink "LossyHandshake$Flight" 9 "LossyHandshake$Fragment") ∈ tW := List.mem_filter.mpr ⟨(List.mem_append_right _ (List.mem_of_getElem? (i := 146) rfl)), rfl⟩
set_option maxRecDepth 100000 in
theorem mw_14 : (Cond.instantiable "LossyHandshake$Fragment" 8) ∈ tW := List.mem_filter.mpr ⟨(List.mem_append_right _ (List.mem_of_getElem? (i := 148) rfl)), rfl⟩
set_option maxRecDepth 100000 in
theorem mw_15 : (Cond.initialized "LossyHandshake$Fragment") ∈ tW := List.mem_filter.mpr ⟨(List.mem_append_right _ (List.mem_of_getElem? (i := 9) rfl)), rfl⟩
set_option maxRecDepth 100000 in
theorem mw_16 : (Cond.instanceMethod y_Frag_init) ∈ tW := List.mem_filter.mpr ⟨(List.mem_append_right _ (List.mem_of_getElem? (i := 150) rfl)), rfl⟩
set_option maxRecDepth 100000 in
theorem mw_17 : (Cond.methodLink "LossyHandshake$Window" 3 Lib.objectInit) ∈ tW := List.mem_filter.mpr ⟨(List.mem_append_right _ (List.mem_of_getElem? (i := 208) rfl)), rfl⟩
set_option maxRecDepth 100000 in
theorem mw_18 : (Cond.methodLink "LossyHandshake$Side" 3 Lib.objectInit) ∈ tW := List.mem_filter.mpr ⟨(List.mem_append_right _ (List.mem_of_getElem? (i := 122) rfl)), rfl⟩
set_option maxRecDepth 100000 in
theorem mw_19 : (Cond.classLink "LossyHandshake$Side" 9 "LossyHandshake$Noted") ∈ tW := List.mem_filter.mpr ⟨(List.mem_append_right _ (List.mem_of_getElem? (i := 123) rfl)), rfl⟩
set_option maxRecDepth 100000 in
theorem mw_20 : (Cond.instantiable "LossyHandshake$Noted" 2) ∈ tW := List.mem_filter.mpr ⟨(List.mem_append_right _ (List.mem_of_getElem? (i := 124) rfl)), rfl⟩
set_option maxRecDepth 100000 in
theorem mw_21 : (Cond.initialized "LossyHandshake$Noted") ∈ tW := List.mem_filter.mpr ⟨(List.mem_append_right _ (List.mem_of_getElem? (i := 7) rfl)), rfl⟩
set_option maxRecDepth 100000 in
theorem mw_22 : (Cond.instanceMethod y_Noted_init) ∈ tW := List.mem_filter.mpr ⟨(List.mem_append_right _ (List.mem_of_getElem? (i := 126) rfl)), rfl⟩
set_option maxRecDepth 100000 in
theorem mw_23 : (Cond.classLink "LossyHandshake$Side" 18 "LossyHandshake$Window") ∈ tW := List.mem_filter.mpr ⟨(List.mem_append_right _ (List.mem_of_getElem? (i := 138) rfl)), rfl⟩
set_option maxRecDepth 100000 in
theorem mw_24 : (Cond.classLink "LossyHandshake$Side" 48 "LossyHandshake$Flight") ∈ tW := List.mem_filter.mpr ⟨(List.mem_append_right _ (List.mem_of_getElem? (i := 140) rfl)), rfl⟩
set_option maxRecDepth 100000 in
theorem mw_25 : (Cond.instantiable "LossyHandshake$Flight" 5) ∈ tW := List.mem_filter.mpr ⟨(List.mem_append_right _ (List.mem_of_getElem? (i := 141) rfl)), rfl⟩
set_option maxRecDepth 100000 in
theorem mw_26 : (Cond.initialized "LossyHandshake$Flight") ∈ tW := List.mem_filter.mpr ⟨(List.mem_append_right _ (List.mem_of_getElem? (i := 8) rfl)), rfl⟩
set_option maxRecDepth 100000 in
theorem mw_27 : (Cond.methodLink "LossyHandshake$Side" 50 y_Flight_init) ∈ tW := List.mem_filter.mpr ⟨(List.mem_append_right _ (List.mem_of_getElem? (i := 142) rfl)), rfl⟩
set_option maxRecDepth 100000 in
theorem mw_28 : (Cond.instanceMethod y_Flight_init) ∈ tW := List.mem_filter.mpr ⟨(List.mem_append_right _ (List.mem_of_getElem? (i := 143) rfl)), rfl⟩
set_option maxRecDepth 100000 in
theorem mw_29 : (Cond.instantiable "LossyHandshake$Window" 2) ∈ tW := List.mem_filter.mpr ⟨(List.mem_append_right _ (List.mem_of_getElem? (i := 204) rfl)), rfl⟩
set_option maxRecDepth 100000 in
theorem mw_30 : (Cond.initialized "LossyHandshake$Window") ∈ tW := List.mem_filter.mpr ⟨(List.mem_append_right _ (List.mem_of_getElem? (i := 10) rfl)), rfl⟩
set_option maxRecDepth 100000 in
theorem mw_31 : (Cond.instanceMethod y_Win_init) ∈ tW := List.mem_filter.mpr ⟨(List.mem_append_right _ (List.mem_of_getElem? (i := 206) rfl)), rfl⟩
set_option maxRecDepth 100000 in
theorem mw_32 : (Cond.methodLink "LossyHandshake$Message" 3 Lib.objectInit) ∈ tW := List.mem_filter.mpr ⟨(List.mem_append_right _ (List.mem_of_getElem? (i := 221) rfl)), rfl⟩
set_option maxRecDepth 100000 in
theorem mw_33 : (Cond.constant "LossyHandshake" 140 (739982445)) ∈ tW := List.mem_filter.mpr ⟨(List.mem_append_right _ (List.mem_of_getElem? (i := 244) rfl)), rfl⟩
set_option maxRecDepth 100000 in
theorem mw_34 : (Cond.methodLink "LossyHandshake" 141 y_X_mix) ∈ tW := List.mem_filter.mpr ⟨(List.mem_append_right _ (List.mem_of_getElem? (i := 241) rfl)), rfl⟩
set_option maxRecDepth 100000 in
theorem mw_35 : (Cond.static y_X_mix) ∈ tW := List.mem_filter.mpr ⟨(List.mem_append_right _ (List.mem_of_getElem? (i := 242) rfl)), rfl⟩
set_option maxRecDepth 100000 in
theorem mw_36 : (Cond.methodLink "LossyHandshake$Client" 3 y_Side_init) ∈ tW := List.mem_filter.mpr ⟨(List.mem_append_right _ (List.mem_of_getElem? (i := 119) rfl)), rfl⟩
set_option maxRecDepth 100000 in
theorem mw_37 : (Cond.instanceMethod y_Side_init) ∈ tW := List.mem_filter.mpr ⟨(List.mem_append_right _ (List.mem_of_getElem? (i := 120) rfl)), rfl⟩
set_option maxRecDepth 100000 in
theorem mw_38 : (Cond.classLink "LossyHandshake$Client" 9 "LossyHandshake$Message") ∈ tW := List.mem_filter.mpr ⟨(List.mem_append_right _ (List.mem_of_getElem? (i := 216) rfl)), rfl⟩
set_option maxRecDepth 100000 in
theorem mw_39 : (Cond.instantiable "LossyHandshake$Message" 3) ∈ tW := List.mem_filter.mpr ⟨(List.mem_append_right _ (List.mem_of_getElem? (i := 217) rfl)), rfl⟩
set_option maxRecDepth 100000 in
theorem mw_40 : (Cond.initialized "LossyHandshake$Message") ∈ tW := List.mem_filter.mpr ⟨(List.mem_append_right _ (List.mem_of_getElem? (i := 11) rfl)), rfl⟩
set_option maxRecDepth 100000 in
theorem mw_41 : (Cond.methodLink "LossyHandshake$Client" 11 y_Msg_init) ∈ tW := List.mem_filter.mpr ⟨(List.mem_append_right _ (List.mem_of_getElem? (i := 218) rfl)), rfl⟩
set_option maxRecDepth 100000 in
theorem mw_42 : (Cond.instanceMethod y_Msg_init) ∈ tW := List.mem_filter.mpr ⟨(List.mem_append_right _ (List.mem_of_getElem? (i := 219) rfl)), rfl⟩
set_option maxRecDepth 100000 in
theorem mw_43 : (Cond.static y_X_clientNumber) ∈ tW := List.mem_filter.mpr ⟨(List.mem_append_right _ (List.mem_of_getElem? (i := 239) rfl)), rfl⟩
set_option maxRecDepth 100000 in
theorem mw_44 : (Cond.classLink "LossyHandshake$Client" 34 "LossyHandshake$Assembly") ∈ tW := List.mem_filter.mpr ⟨(List.mem_append_right _ (List.mem_of_getElem? (i := 245) rfl)), rfl⟩
set_option maxRecDepth 100000 in
theorem mw_45 : (Cond.instantiable "LossyHandshake$Assembly" 3) ∈ tW := List.mem_filter.mpr ⟨(List.mem_append_right _ (List.mem_of_getElem? (i := 246) rfl)), rfl⟩
set_option maxRecDepth 100000 in
theorem mw_46 : (Cond.initialized "LossyHandshake$Assembly") ∈ tW := List.mem_filter.mpr ⟨(List.mem_append_right _ (List.mem_of_getElem? (i := 12) rfl)), rfl⟩
set_option maxRecDepth 100000 in
theorem mw_47 : (Cond.static y_X_proofLength) ∈ tW := List.mem_filter.mpr ⟨(List.mem_append_right _ (List.mem_of_getElem? (i := 248) rfl)), rfl⟩
set_option maxRecDepth 100000 in
theorem mw_48 : (Cond.methodLink "LossyHandshake$Client" 39 y_Asm_init) ∈ tW := List.mem_filter.mpr ⟨(List.mem_append_right _ (List.mem_of_getElem? (i := 250) rfl)), rfl⟩
set_option maxRecDepth 100000 in
theorem mw_49 : (Cond.instanceMethod y_Asm_init) ∈ tW := List.mem_filter.mpr ⟨(List.mem_append_right _ (List.mem_of_getElem? (i := 251) rfl)), rfl⟩
set_option maxRecDepth 100000 in
theorem mw_50 : (Cond.methodLink "LossyHandshake$Side" 72 ⟨"LossyHandshake$Side", "addBytesToTranscript", "([III)V"⟩) ∈ tW := List.mem_filter.mpr ⟨(List.mem_append_right _ (List.mem_of_getElem? (i := 443) rfl)), rfl⟩
set_option maxRecDepth 100000 in
theorem mw_51 : (Cond.sameMethod "LossyHandshake$Side" "LossyHandshake$Side" "addBytesToTranscript" "([III)V") ∈ tW := List.mem_filter.mpr ⟨(List.mem_append_right _ (List.mem_of_getElem? (i := 445) rfl)), rfl⟩
set_option maxRecDepth 100000 in
theorem mw_52 : (Cond.instanceMethod y_Side_addBytesToTranscript) ∈ tW := List.mem_filter.mpr ⟨(List.mem_append_right _ (List.mem_of_getElem? (i := 444) rfl)), rfl⟩
set_option maxRecDepth 100000 in
theorem mw_53 : (Cond.selects "LossyHandshake$Client" ⟨"LossyHandshake$Side", "addBytesToTranscript", "([III)V"⟩ y_Side_addBytesToTranscript) ∈ tW := List.mem_filter.mpr ⟨(List.mem_append_right _ (List.mem_of_getElem? (i := 446) rfl)), rfl⟩
set_option maxRecDepth 100000 in
theorem mw_54 : (Cond.selects "LossyHandshake$Server" ⟨"LossyHandshake$Side", "addBytesToTranscript", "([III)V"⟩ y_Side_addBytesToTranscript) ∈ tW := List.mem_filter.mpr ⟨(List.mem_append_right _ (List.mem_of_getElem? (i := 447) rfl)), rfl⟩
set_option maxRecDepth 100000 in
theorem mw_55 : (Cond.methodLink "LossyHandshake$Fragment" 34 Lib.Math.min.name) ∈ tW := List.mem_filter.mpr ⟨(List.mem_append_right _ (List.mem_of_getElem? (i := 461) rfl)), rfl⟩
set_option maxRecDepth 100000 in
theorem mw_56 : (Cond.static Lib.Math.min.name) ∈ tW := List.mem_filter.mpr ⟨(List.mem_append_right _ (List.mem_of_getElem? (i := 24) rfl)), rfl⟩
set_option maxRecDepth 100000 in
theorem mw_57 : (Cond.initialized "java/lang/Math") ∈ tW := List.mem_filter.mpr ⟨(List.mem_append_right _ (List.mem_of_getElem? (i := 2) rfl)), rfl⟩
set_option maxRecDepth 100000 in
theorem mw_58 : (Cond.code Lib.Math.min.name Lib.Math.min.code 2 (some .int)) ∈ tW := List.mem_filter.mpr ⟨(List.mem_append_right _ (List.mem_of_getElem? (i := 25) rfl)), rfl⟩
set_option maxRecDepth 100000 in
theorem mw_59 : (Cond.methodLink "LossyHandshake$Flight" 37 y_Frag_cutFrom) ∈ tW := List.mem_filter.mpr ⟨(List.mem_append_right _ (List.mem_of_getElem? (i := 457) rfl)), rfl⟩
set_option maxRecDepth 100000 in
theorem mw_60 : (Cond.instanceMethod y_Frag_cutFrom) ∈ tW := List.mem_filter.mpr ⟨(List.mem_append_right _ (List.mem_of_getElem? (i := 458) rfl)), rfl⟩
set_option maxRecDepth 100000 in
theorem mw_61 : (Cond.selects "LossyHandshake$Fragment" y_Frag_cutFrom y_Frag_cutFrom) ∈ tW := List.mem_filter.mpr ⟨(List.mem_append_right _ (List.mem_of_getElem? (i := 459) rfl)), rfl⟩
set_option maxRecDepth 100000 in
theorem mw_62 : (Cond.static y_X_nameOf) ∈ tW := List.mem_filter.mpr ⟨(List.mem_append_right _ (List.mem_of_getElem? (i := 479) rfl)), rfl⟩
set_option maxRecDepth 100000 in
theorem mw_63 : (Cond.methodLink "LossyHandshake$Net" 35 y_Rec_address) ∈ tW := List.mem_filter.mpr ⟨(List.mem_append_right _ (List.mem_of_getElem? (i := 485) rfl)), rfl⟩
set_option maxRecDepth 100000 in
theorem mw_64 : (Cond.instanceMethod y_Rec_address) ∈ tW := List.mem_filter.mpr ⟨(List.mem_append_right _ (List.mem_of_getElem? (i := 486) rfl)), rfl⟩
set_option maxRecDepth 100000 in
theorem mw_65 : (Cond.selects "LossyHandshake$NetRecord" y_Rec_address y_Rec_address) ∈ tW := List.mem_filter.mpr ⟨(List.mem_append_right _ (List.mem_of_getElem? (i := 487) rfl)), rfl⟩
set_option maxRecDepth 100000 in
theorem mw_66 : (Cond.methodLink "LossyHandshake$NetRecord" 41 Lib.Math.min.name) ∈ tW := List.mem_filter.mpr ⟨(List.mem_append_right _ (List.mem_of_getElem? (i := 497) rfl)), rfl⟩
set_option maxRecDepth 100000 in
theorem mw_67 : (Cond.methodLink "LossyHandshake$Side" 95 ⟨"LossyHandshake$Side", "takeNumber", "(I)I"⟩) ∈ tW := List.mem_filter.mpr ⟨(List.mem_append_right _ (List.mem_of_getElem? (i := 468) rfl)), rfl⟩
set_option maxRecDepth 100000 in
theorem mw_68 : (Cond.sameMethod "LossyHandshake$Side" "LossyHandshake$Side" "takeNumber" "(I)I") ∈ tW := List.mem_filter.mpr ⟨(List.mem_append_right _ (List.mem_of_getElem? (i := 470) rfl)), rfl⟩
set_option maxRecDepth 100000 in
theorem mw_69 : (Cond.instanceMethod y_Side_takeNumber) ∈ tW := List.mem_filter.mpr ⟨(List.mem_append_right _ (List.mem_of_getElem? (i := 469) rfl)), rfl⟩
set_option maxRecDepth 100000 in
theorem mw_70 : (Cond.selects "LossyHandshake$Client" ⟨"LossyHandshake$Side", "takeNumber", "(I)I"⟩ y_Side_takeNumber) ∈ tW := List.mem_filter.mpr ⟨(List.mem_append_right _ (List.mem_of_getElem? (i := 471) rfl)), rfl⟩
set_option maxRecDepth 100000 in
theorem mw_71 : (Cond.selects "LossyHandshake$Server" ⟨"LossyHandshake$Side", "takeNumber", "(I)I"⟩ y_Side_takeNumber) ∈ tW := List.mem_filter.mpr ⟨(List.mem_append_right _ (List.mem_of_getElem? (i := 472) rfl)), rfl⟩
set_option maxRecDepth 100000 in
theorem mw_72 : (Cond.methodLink "LossyHandshake$Side" 141 y_Frag_rememberSending) ∈ tW := List.mem_filter.mpr ⟨(List.mem_append_right _ (List.mem_of_getElem? (i := 474) rfl)), rfl⟩
set_option maxRecDepth 100000 in
theorem mw_73 : (Cond.instanceMethod y_Frag_rememberSending) ∈ tW := List.mem_filter.mpr ⟨(List.mem_append_right _ (List.mem_of_getElem? (i := 475) rfl)), rfl⟩
set_option maxRecDepth 100000 in
theorem mw_74 : (Cond.selects "LossyHandshake$Fragment" y_Frag_rememberSending y_Frag_rememberSending) ∈ tW := List.mem_filter.mpr ⟨(List.mem_append_right _ (List.mem_of_getElem? (i := 476) rfl)), rfl⟩
set_option maxRecDepth 100000 in
theorem mw_75 : (Cond.methodLink "LossyHandshake$Side" 99 y_Net_append) ∈ tW := List.mem_filter.mpr ⟨(List.mem_append_right _ (List.mem_of_getElem? (i := 481) rfl)), rfl⟩
set_option maxRecDepth 100000 in
theorem mw_76 : (Cond.instanceMethod y_Net_append) ∈ tW := List.mem_filter.mpr ⟨(List.mem_append_right _ (List.mem_of_getElem? (i := 482) rfl)), rfl⟩
set_option maxRecDepth 100000 in
theorem mw_77 : (Cond.selects "LossyHandshake$Net" y_Net_append y_Net_append) ∈ tW := List.mem_filter.mpr ⟨(List.mem_append_right _ (List.mem_of_getElem? (i := 483) rfl)), rfl⟩
set_option maxRecDepth 100000 in
theorem mw_78 : (Cond.methodLink "LossyHandshake$Side" 150 y_Rec_markAsPiece) ∈ tW := List.mem_filter.mpr ⟨(List.mem_append_right _ (List.mem_of_getElem? (i := 489) rfl)), rfl⟩
set_option maxRecDepth 100000 in
theorem mw_79 : (Cond.instanceMethod y_Rec_markAsPiece) ∈ tW := List.mem_filter.mpr ⟨(List.mem_append_right _ (List.mem_of_getElem? (i := 490) rfl)), rfl⟩
set_option maxRecDepth 100000 in
theorem mw_80 : (Cond.selects "LossyHandshake$NetRecord" y_Rec_markAsPiece y_Rec_markAsPiece) ∈ tW := List.mem_filter.mpr ⟨(List.mem_append_right _ (List.mem_of_getElem? (i := 491) rfl)), rfl⟩
set_option maxRecDepth 100000 in
theorem mw_81 : (Cond.methodLink "LossyHandshake$Side" 117 y_Rec_hold) ∈ tW := List.mem_filter.mpr ⟨(List.mem_append_right _ (List.mem_of_getElem? (i := 493) rfl)), rfl⟩
set_option maxRecDepth 100000 in
theorem mw_82 : (Cond.instanceMethod y_Rec_hold) ∈ tW := List.mem_filter.mpr ⟨(List.mem_append_right _ (List.mem_of_getElem? (i := 494) rfl)), rfl⟩
set_option maxRecDepth 100000 in
theorem mw_83 : (Cond.selects "LossyHandshake$NetRecord" y_Rec_hold y_Rec_hold) ∈ tW := List.mem_filter.mpr ⟨(List.mem_append_right _ (List.mem_of_getElem? (i := 495) rfl)), rfl⟩
set_option maxRecDepth 100000 in
theorem mw_84 : (Cond.methodLink "LossyHandshake$Client" 57 ⟨"LossyHandshake$Client", "addToTranscript", "(LLossyHandshake$Message;)V"⟩) ∈ tW := List.mem_filter.mpr ⟨(List.mem_append_right _ (List.mem_of_getElem? (i := 437) rfl)), rfl⟩
set_option maxRecDepth 100000 in
theorem mw_85 : (Cond.sameMethod "LossyHandshake$Client" "LossyHandshake$Side" "addToTranscript" "(LLossyHandshake$Message;)V") ∈ tW := List.mem_filter.mpr ⟨(List.mem_append_right _ (List.mem_of_getElem? (i := 438) rfl)), rfl⟩
set_option maxRecDepth 100000 in
theorem mw_86 : (Cond.instanceMethod y_Side_addToTranscript) ∈ tW := List.mem_filter.mpr ⟨(List.mem_append_right _ (List.mem_of_getElem? (i := 441) rfl)), rfl⟩
set_option maxRecDepth 100000 in
theorem mw_87 : (Cond.selects "LossyHandshake$Client" ⟨"LossyHandshake$Client", "addToTranscript", "(LLossyHandshake$Message;)V"⟩ y_Side_addToTranscript) ∈ tW := List.mem_filter.mpr ⟨(List.mem_append_right _ (List.mem_of_getElem? (i := 440) rfl)), rfl⟩
set_option maxRecDepth 100000 in
theorem mw_88 : (Cond.methodLink "LossyHandshake$Client" 64 y_Flight_begin) ∈ tW := List.mem_filter.mpr ⟨(List.mem_append_right _ (List.mem_of_getElem? (i := 449) rfl)), rfl⟩
set_option maxRecDepth 100000 in
theorem mw_89 : (Cond.instanceMethod y_Flight_begin) ∈ tW := List.mem_filter.mpr ⟨(List.mem_append_right _ (List.mem_of_getElem? (i := 450) rfl)), rfl⟩
set_option maxRecDepth 100000 in
theorem mw_90 : (Cond.selects "LossyHandshake$Flight" y_Flight_begin y_Flight_begin) ∈ tW := List.mem_filter.mpr ⟨(List.mem_append_right _ (List.mem_of_getElem? (i := 451) rfl)), rfl⟩
set_option maxRecDepth 100000 in
theorem mw_91 : (Cond.methodLink "LossyHandshake$Client" 73 y_Flight_add) ∈ tW := List.mem_filter.mpr ⟨(List.mem_append_right _ (List.mem_of_getElem? (i := 453) rfl)), rfl⟩
set_option maxRecDepth 100000 in
theorem mw_92 : (Cond.instanceMethod y_Flight_add) ∈ tW := List.mem_filter.mpr ⟨(List.mem_append_right _ (List.mem_of_getElem? (i := 454) rfl)), rfl⟩
set_option maxRecDepth 100000 in
theorem mw_93 : (Cond.selects "LossyHandshake$Flight" y_Flight_add y_Flight_add) ∈ tW := List.mem_filter.mpr ⟨(List.mem_append_right _ (List.mem_of_getElem? (i := 455) rfl)), rfl⟩
set_option maxRecDepth 100000 in
theorem mw_94 : (Cond.methodLink "LossyHandshake$Client" 77 ⟨"LossyHandshake$Client", "sendOpenFragments", "()V"⟩) ∈ tW := List.mem_filter.mpr ⟨(List.mem_append_right _ (List.mem_of_getElem? (i := 462) rfl)), rfl⟩
set_option maxRecDepth 100000 in
theorem mw_95 : (Cond.sameMethod "LossyHandshake$Client" "LossyHandshake$Side" "sendOpenFragments" "()V") ∈ tW := List.mem_filter.mpr ⟨(List.mem_append_right _ (List.mem_of_getElem? (i := 463) rfl)), rfl⟩
set_option maxRecDepth 100000 in
theorem mw_96 : (Cond.instanceMethod y_Side_sendOpenFragments) ∈ tW := List.mem_filter.mpr ⟨(List.mem_append_right _ (List.mem_of_getElem? (i := 466) rfl)), rfl⟩
set_option maxRecDepth 100000 in
theorem mw_97 : (Cond.selects "LossyHandshake$Client" ⟨"LossyHandshake$Client", "sendOpenFragments", "()V"⟩ y_Side_sendOpenFragments) ∈ tW := List.mem_filter.mpr ⟨(List.mem_append_right _ (List.mem_of_getElem? (i := 465) rfl)), rfl⟩
set_option maxRecDepth 100000 in
theorem mw_98 : (Cond.methodLink "LossyHandshake$Client" 46 y_Msg_writeInt) ∈ tW := List.mem_filter.mpr ⟨(List.mem_append_right _ (List.mem_of_getElem? (i := 429) rfl)), rfl⟩
set_option maxRecDepth 100000 in
theorem mw_99 : (Cond.instanceMethod y_Msg_writeInt) ∈ tW := List.mem_filter.mpr ⟨(List.mem_append_right _ (List.mem_of_getElem? (i := 430) rfl)), rfl⟩
set_option maxRecDepth 100000 in
theorem mw_100 : (Cond.selects "LossyHandshake$Message" y_Msg_writeInt y_Msg_writeInt) ∈ tW := List.mem_filter.mpr ⟨(List.mem_append_right _ (List.mem_of_getElem? (i := 431) rfl)), rfl⟩
set_option maxRecDepth 100000 in
theorem mw_101 : (Cond.methodLink "LossyHandshake$Client" 50 y_Client_sendFlight) ∈ tW := List.mem_filter.mpr ⟨(List.mem_append_right _ (List.mem_of_getElem? (i := 433) rfl)), rfl⟩
set_option maxRecDepth 100000 in
theorem mw_102 : (Cond.instanceMethod y_Client_sendFlight) ∈ tW := List.mem_filter.mpr ⟨(List.mem_append_right _ (List.mem_of_getElem? (i := 434) rfl)), rfl⟩
set_option maxRecDepth 100000 in
theorem mw_103 : (Cond.selects "LossyHandshake$Client" y_Client_sendFlight y_Client_sendFlight) ∈ tW := List.mem_filter.mpr ⟨(List.mem_append_right _ (List.mem_of_getElem? (i := 435) rfl)), rfl⟩
set_option maxRecDepth 100000 in
theorem mw_104 : (Cond.methodLink "LossyHandshake$Client" 54 ⟨"LossyHandshake$Client", "enter", "(I)V"⟩) ∈ tW := List.mem_filter.mpr ⟨(List.mem_append_right _ (List.mem_of_getElem? (i := 498) rfl)), rfl⟩
set_option maxRecDepth 100000 in
theorem mw_105 : (Cond.sameMethod "LossyHandshake$Client" "LossyHandshake$Side" "enter" "(I)V") ∈ tW := List.mem_filter.mpr ⟨(List.mem_append_right _ (List.mem_of_getElem? (i := 499) rfl)), rfl⟩
set_option maxRecDepth 100000 in
theorem mw_106 : (Cond.instanceMethod y_Side_enter) ∈ tW := List.mem_filter.mpr ⟨(List.mem_append_right _ (List.mem_of_getElem? (i := 502) rfl)), rfl⟩
set_option maxRecDepth 100000 in
theorem mw_107 : (Cond.selects "LossyHandshake$Client" ⟨"LossyHandshake$Client", "enter", "(I)V"⟩ y_Side_enter) ∈ tW := List.mem_filter.mpr ⟨(List.mem_append_right _ (List.mem_of_getElem? (i := 501) rfl)), rfl⟩
set_option maxRecDepth 100000 in
theorem mw_108 : (Cond.methodLink "LossyHandshake$Side" 88 y_Win_isOld) ∈ tW := List.mem_filter.mpr ⟨(List.mem_append_right _ (List.mem_of_getElem? (i := 593) rfl)), rfl⟩
set_option maxRecDepth 100000 in
theorem mw_109 : (Cond.instanceMethod y_Win_isOld) ∈ tW := List.mem_filter.mpr ⟨(List.mem_append_right _ (List.mem_of_getElem? (i := 594) rfl)), rfl⟩
set_option maxRecDepth 100000 in
theorem mw_110 : (Cond.selects "LossyHandshake$Window" y_Win_isOld y_Win_isOld) ∈ tW := List.mem_filter.mpr ⟨(List.mem_append_right _ (List.mem_of_getElem? (i := 595) rfl)), rfl⟩
set_option maxRecDepth 100000 in
theorem mw_111 : (Cond.methodLink "LossyHandshake$Side" 92 y_Win_letIn) ∈ tW := List.mem_filter.mpr ⟨(List.mem_append_right _ (List.mem_of_getElem? (i := 603) rfl)), rfl⟩
set_option maxRecDepth 100000 in
theorem mw_112 : (Cond.instanceMethod y_Win_letIn) ∈ tW := List.mem_filter.mpr ⟨(List.mem_append_right _ (List.mem_of_getElem? (i := 604) rfl)), rfl⟩
set_option maxRecDepth 100000 in
theorem mw_113 : (Cond.selects "LossyHandshake$Window" y_Win_letIn y_Win_letIn) ∈ tW := List.mem_filter.mpr ⟨(List.mem_append_right _ (List.mem_of_getElem? (i := 605) rfl)), rfl⟩
set_option maxRecDepth 100000 in
theorem mw_114 : (Cond.methodLink "LossyHandshake$Flight" 55 y_Frag_wasSentIn) ∈ tW := List.mem_filter.mpr ⟨(List.mem_append_right _ (List.mem_of_getElem? (i := 621) rfl)), rfl⟩
set_option maxRecDepth 100000 in
theorem mw_115 : (Cond.instanceMethod y_Frag_wasSentIn) ∈ tW := List.mem_filter.mpr ⟨(List.mem_append_right _ (List.mem_of_getElem? (i := 622) rfl)), rfl⟩
set_option maxRecDepth 100000 in
theorem mw_116 : (Cond.selects "LossyHandshake$Fragment" y_Frag_wasSentIn y_Frag_wasSentIn) ∈ tW := List.mem_filter.mpr ⟨(List.mem_append_right _ (List.mem_of_getElem? (i := 623) rfl)), rfl⟩
set_option maxRecDepth 100000 in
theorem mw_117 : (Cond.methodLink "LossyHandshake$Side" 127 y_Flight_closeSentIn) ∈ tW := List.mem_filter.mpr ⟨(List.mem_append_right _ (List.mem_of_getElem? (i := 617) rfl)), rfl⟩
set_option maxRecDepth 100000 in
theorem mw_118 : (Cond.instanceMethod y_Flight_closeSentIn) ∈ tW := List.mem_filter.mpr ⟨(List.mem_append_right _ (List.mem_of_getElem? (i := 618) rfl)), rfl⟩
set_option maxRecDepth 100000 in
theorem mw_119 : (Cond.selects "LossyHandshake$Flight" y_Flight_closeSentIn y_Flight_closeSentIn) ∈ tW := List.mem_filter.mpr ⟨(List.mem_append_right _ (List.mem_of_getElem? (i := 619) rfl)), rfl⟩
set_option maxRecDepth 100000 in
theorem mw_120 : (Cond.methodLink "LossyHandshake$Client" 118 ⟨"LossyHandshake$Client", "closeNamed", "(LLossyHandshake$NetRecord;)V"⟩) ∈ tW := List.mem_filter.mpr ⟨(List.mem_append_right _ (List.mem_of_getElem? (i := 611) rfl)), rfl⟩
set_option maxRecDepth 100000 in
theorem mw_121 : (Cond.sameMethod "LossyHandshake$Client" "LossyHandshake$Side" "closeNamed" "(LLossyHandshake$NetRecord;)V") ∈ tW := List.mem_filter.mpr ⟨(List.mem_append_right _ (List.mem_of_getElem? (i := 612) rfl)), rfl⟩
set_option maxRecDepth 100000 in
theorem mw_122 : (Cond.instanceMethod y_Side_closeNamed) ∈ tW := List.mem_filter.mpr ⟨(List.mem_append_right _ (List.mem_of_getElem? (i := 615) rfl)), rfl⟩
set_option maxRecDepth 100000 in
theorem mw_123 : (Cond.selects "LossyHandshake$Client" ⟨"LossyHandshake$Client", "closeNamed", "(LLossyHandshake$NetRecord;)V"⟩ y_Side_closeNamed) ∈ tW := List.mem_filter.mpr ⟨(List.mem_append_right _ (List.mem_of_getElem? (i := 614) rfl)), rfl⟩
set_option maxRecDepth 100000 in
theorem mw_124 : (Cond.methodLink "LossyHandshake$Client" 121 y_Flight_countOpen) ∈ tW := List.mem_filter.mpr ⟨(List.mem_append_right _ (List.mem_of_getElem? (i := 625) rfl)), rfl⟩
set_option maxRecDepth 100000 in
theorem mw_125 : (Cond.instanceMethod y_Flight_countOpen) ∈ tW := List.mem_filter.mpr ⟨(List.mem_append_right _ (List.mem_of_getElem? (i := 525) rfl)), rfl⟩
set_option maxRecDepth 100000 in
theorem mw_126 : (Cond.selects "LossyHandshake$Flight" y_Flight_countOpen y_Flight_countOpen) ∈ tW := List.mem_filter.mpr ⟨(List.mem_append_right _ (List.mem_of_getElem? (i := 526) rfl)), rfl⟩
set_option maxRecDepth 100000 in
theorem mw_127 : (Cond.methodLink "LossyHandshake$Client" 128 ⟨"LossyHandshake$Client", "addBytesToTranscript", "([III)V"⟩) ∈ tW := List.mem_filter.mpr ⟨(List.mem_append_right _ (List.mem_of_getElem? (i := 636) rfl)), rfl⟩
set_option maxRecDepth 100000 in
theorem mw_128 : (Cond.sameMethod "LossyHandshake$Client" "LossyHandshake$Side" "addBytesToTranscript" "([III)V") ∈ tW := List.mem_filter.mpr ⟨(List.mem_append_right _ (List.mem_of_getElem? (i := 637) rfl)), rfl⟩
set_option maxRecDepth 100000 in
theorem mw_129 : (Cond.selects "LossyHandshake$Client" ⟨"LossyHandshake$Client", "addBytesToTranscript", "([III)V"⟩ y_Side_addBytesToTranscript) ∈ tW := List.mem_filter.mpr ⟨(List.mem_append_right _ (List.mem_of_getElem? (i := 639) rfl)), rfl⟩
set_option maxRecDepth 100000 in
theorem mw_130 : (Cond.methodLink "LossyHandshake$Client" 132 y_Rec_readFirstInt) ∈ tW := List.mem_filter.mpr ⟨(List.mem_append_right _ (List.mem_of_getElem? (i := 640) rfl)), rfl⟩
set_option maxRecDepth 100000 in
theorem mw_131 : (Cond.instanceMethod y_Rec_readFirstInt) ∈ tW := List.mem_filter.mpr ⟨(List.mem_append_right _ (List.mem_of_getElem? (i := 641) rfl)), rfl⟩
set_option maxRecDepth 100000 in
theorem mw_132 : (Cond.selects "LossyHandshake$NetRecord" y_Rec_readFirstInt y_Rec_readFirstInt) ∈ tW := List.mem_filter.mpr ⟨(List.mem_append_right _ (List.mem_of_getElem? (i := 642) rfl)), rfl⟩
set_option maxRecDepth 100000 in
theorem mw_133 : (Cond.methodLink "LossyHandshake$Client" 165 y_Asm_startOf) ∈ tW := List.mem_filter.mpr ⟨(List.mem_append_right _ (List.mem_of_getElem? (i := 678) rfl)), rfl⟩
set_option maxRecDepth 100000 in
theorem mw_134 : (Cond.methodLink "LossyHandshake$Client" 135 y_Flight_forget) ∈ tW := List.mem_filter.mpr ⟨(List.mem_append_right _ (List.mem_of_getElem? (i := 648) rfl)), rfl⟩
set_option maxRecDepth 100000 in
theorem mw_135 : (Cond.instanceMethod y_Flight_forget) ∈ tW := List.mem_filter.mpr ⟨(List.mem_append_right _ (List.mem_of_getElem? (i := 535) rfl)), rfl⟩
set_option maxRecDepth 100000 in
theorem mw_136 : (Cond.selects "LossyHandshake$Flight" y_Flight_forget y_Flight_forget) ∈ tW := List.mem_filter.mpr ⟨(List.mem_append_right _ (List.mem_of_getElem? (i := 536) rfl)), rfl⟩
set_option maxRecDepth 100000 in
theorem mw_137 : (Cond.methodLink "LossyHandshake$Client" 138 y_Asm_put) ∈ tW := List.mem_filter.mpr ⟨(List.mem_append_right _ (List.mem_of_getElem? (i := 649) rfl)), rfl⟩
set_option maxRecDepth 100000 in
theorem mw_138 : (Cond.instanceMethod y_Asm_put) ∈ tW := List.mem_filter.mpr ⟨(List.mem_append_right _ (List.mem_of_getElem? (i := 650) rfl)), rfl⟩
set_option maxRecDepth 100000 in
theorem mw_139 : (Cond.selects "LossyHandshake$Assembly" y_Asm_put y_Asm_put) ∈ tW := List.mem_filter.mpr ⟨(List.mem_append_right _ (List.mem_of_getElem? (i := 651) rfl)), rfl⟩
set_option maxRecDepth 100000 in
theorem mw_140 : (Cond.methodLink "LossyHandshake$Client" 145 y_Rec_name) ∈ tW := List.mem_filter.mpr ⟨(List.mem_append_right _ (List.mem_of_getElem? (i := 657) rfl)), rfl⟩
set_option maxRecDepth 100000 in
theorem mw_141 : (Cond.instanceMethod y_Rec_name) ∈ tW := List.mem_filter.mpr ⟨(List.mem_append_right _ (List.mem_of_getElem? (i := 658) rfl)), rfl⟩
set_option maxRecDepth 100000 in
theorem mw_142 : (Cond.selects "LossyHandshake$NetRecord" y_Rec_name y_Rec_name) ∈ tW := List.mem_filter.mpr ⟨(List.mem_append_right _ (List.mem_of_getElem? (i := 659) rfl)), rfl⟩
set_option maxRecDepth 100000 in
theorem mw_143 : (Cond.methodLink "LossyHandshake$Client" 148 y_Noted_add) ∈ tW := List.mem_filter.mpr ⟨(List.mem_append_right _ (List.mem_of_getElem? (i := 662) rfl)), rfl⟩
set_option maxRecDepth 100000 in
theorem mw_144 : (Cond.instanceMethod y_Noted_add) ∈ tW := List.mem_filter.mpr ⟨(List.mem_append_right _ (List.mem_of_getElem? (i := 663) rfl)), rfl⟩
set_option maxRecDepth 100000 in
theorem mw_145 : (Cond.selects "LossyHandshake$Noted" y_Noted_add y_Noted_add) ∈ tW := List.mem_filter.mpr ⟨(List.mem_append_right _ (List.mem_of_getElem? (i := 664) rfl)), rfl⟩
set_option maxRecDepth 100000 in
theorem mw_146 : (Cond.methodLink "LossyHandshake$Client" 152 y_Asm_hasNextMessage) ∈ tW := List.mem_filter.mpr ⟨(List.mem_append_right _ (List.mem_of_getElem? (i := 666) rfl)), rfl⟩
set_option maxRecDepth 100000 in
theorem mw_147 : (Cond.instanceMethod y_Asm_hasNextMessage) ∈ tW := List.mem_filter.mpr ⟨(List.mem_append_right _ (List.mem_of_getElem? (i := 667) rfl)), rfl⟩
set_option maxRecDepth 100000 in
theorem mw_148 : (Cond.selects "LossyHandshake$Assembly" y_Asm_hasNextMessage y_Asm_hasNextMessage) ∈ tW := List.mem_filter.mpr ⟨(List.mem_append_right _ (List.mem_of_getElem? (i := 668) rfl)), rfl⟩
set_option maxRecDepth 100000 in
theorem mw_149 : (Cond.methodLink "LossyHandshake$Client" 156 y_Client_takeNextMessage) ∈ tW := List.mem_filter.mpr ⟨(List.mem_append_right _ (List.mem_of_getElem? (i := 674) rfl)), rfl⟩
set_option maxRecDepth 100000 in
theorem mw_150 : (Cond.instanceMethod y_Client_takeNextMessage) ∈ tW := List.mem_filter.mpr ⟨(List.mem_append_right _ (List.mem_of_getElem? (i := 675) rfl)), rfl⟩
set_option maxRecDepth 100000 in
theorem mw_151 : (Cond.selects "LossyHandshake$Client" y_Client_takeNextMessage y_Client_takeNextMessage) ∈ tW := List.mem_filter.mpr ⟨(List.mem_append_right _ (List.mem_of_getElem? (i := 676) rfl)), rfl⟩
set_option maxRecDepth 100000 in
theorem mw_152 : (Cond.methodLink "LossyHandshake$Client" 174 y_Asm_isWhole) ∈ tW := List.mem_filter.mpr ⟨(List.mem_append_right _ (List.mem_of_getElem? (i := 683) rfl)), rfl⟩
set_option maxRecDepth 100000 in
theorem mw_153 : (Cond.methodLink "LossyHandshake$Client" 80 ⟨"LossyHandshake$Client", "throwsAway", "(LLossyHandshake$NetRecord;)Z"⟩) ∈ tW := List.mem_filter.mpr ⟨(List.mem_append_right _ (List.mem_of_getElem? (i := 587) rfl)), rfl⟩
set_option maxRecDepth 100000 in
theorem mw_154 : (Cond.sameMethod "LossyHandshake$Client" "LossyHandshake$Side" "throwsAway" "(LLossyHandshake$NetRecord;)Z") ∈ tW := List.mem_filter.mpr ⟨(List.mem_append_right _ (List.mem_of_getElem? (i := 588) rfl)), rfl⟩
set_option maxRecDepth 100000 in
theorem mw_155 : (Cond.instanceMethod y_Side_throwsAway) ∈ tW := List.mem_filter.mpr ⟨(List.mem_append_right _ (List.mem_of_getElem? (i := 591) rfl)), rfl⟩
set_option maxRecDepth 100000 in
theorem mw_156 : (Cond.selects "LossyHandshake$Client" ⟨"LossyHandshake$Client", "throwsAway", "(LLossyHandshake$NetRecord;)Z"⟩ y_Side_throwsAway) ∈ tW := List.mem_filter.mpr ⟨(List.mem_append_right _ (List.mem_of_getElem? (i := 590) rfl)), rfl⟩
set_option maxRecDepth 100000 in
theorem mw_157 : (Cond.methodLink "LossyHandshake$Client" 84 ⟨"LossyHandshake$Client", "letIn", "(LLossyHandshake$NetRecord;)V"⟩) ∈ tW := List.mem_filter.mpr ⟨(List.mem_append_right _ (List.mem_of_getElem? (i := 597) rfl)), rfl⟩
set_option maxRecDepth 100000 in
theorem mw_158 : (Cond.sameMethod "LossyHandshake$Client" "LossyHandshake$Side" "letIn" "(LLossyHandshake$NetRecord;)V") ∈ tW := List.mem_filter.mpr ⟨(List.mem_append_right _ (List.mem_of_getElem? (i := 598) rfl)), rfl⟩
set_option maxRecDepth 100000 in
theorem mw_159 : (Cond.instanceMethod y_Side_letIn) ∈ tW := List.mem_filter.mpr ⟨(List.mem_append_right _ (List.mem_of_getElem? (i := 601) rfl)), rfl⟩
set_option maxRecDepth 100000 in
theorem mw_160 : (Cond.selects "LossyHandshake$Client" ⟨"LossyHandshake$Client", "letIn", "(LLossyHandshake$NetRecord;)V"⟩ y_Side_letIn) ∈ tW := List.mem_filter.mpr ⟨(List.mem_append_right _ (List.mem_of_getElem? (i := 600) rfl)), rfl⟩
set_option maxRecDepth 100000 in
theorem mw_161 : (Cond.methodLink "LossyHandshake$Client" 93 y_Client_takeAck) ∈ tW := List.mem_filter.mpr ⟨(List.mem_append_right _ (List.mem_of_getElem? (i := 607) rfl)), rfl⟩
set_option maxRecDepth 100000 in
theorem mw_162 : (Cond.instanceMethod y_Client_takeAck) ∈ tW := List.mem_filter.mpr ⟨(List.mem_append_right _ (List.mem_of_getElem? (i := 608) rfl)), rfl⟩
set_option maxRecDepth 100000 in
theorem mw_163 : (Cond.selects "LossyHandshake$Client" y_Client_takeAck y_Client_takeAck) ∈ tW := List.mem_filter.mpr ⟨(List.mem_append_right _ (List.mem_of_getElem? (i := 609) rfl)), rfl⟩
set_option maxRecDepth 100000 in
theorem mw_164 : (Cond.methodLink "LossyHandshake$Client" 100 ⟨"LossyHandshake$Client", "keepValue", "(I)V"⟩) ∈ tW := List.mem_filter.mpr ⟨(List.mem_append_right _ (List.mem_of_getElem? (i := 626) rfl)), rfl⟩
set_option maxRecDepth 100000 in
theorem mw_165 : (Cond.sameMethod "LossyHandshake$Client" "LossyHandshake$Side" "keepValue" "(I)V") ∈ tW := List.mem_filter.mpr ⟨(List.mem_append_right _ (List.mem_of_getElem? (i := 627) rfl)), rfl⟩
set_option maxRecDepth 100000 in
theorem mw_166 : (Cond.instanceMethod y_Side_keepValue) ∈ tW := List.mem_filter.mpr ⟨(List.mem_append_right _ (List.mem_of_getElem? (i := 630) rfl)), rfl⟩
set_option maxRecDepth 100000 in
theorem mw_167 : (Cond.selects "LossyHandshake$Client" ⟨"LossyHandshake$Client", "keepValue", "(I)V"⟩ y_Side_keepValue) ∈ tW := List.mem_filter.mpr ⟨(List.mem_append_right _ (List.mem_of_getElem? (i := 629) rfl)), rfl⟩
set_option maxRecDepth 100000 in
theorem mw_168 : (Cond.methodLink "LossyHandshake$Client" 106 y_Client_takeRetry) ∈ tW := List.mem_filter.mpr ⟨(List.mem_append_right _ (List.mem_of_getElem? (i := 632) rfl)), rfl⟩
set_option maxRecDepth 100000 in
theorem mw_169 : (Cond.instanceMethod y_Client_takeRetry) ∈ tW := List.mem_filter.mpr ⟨(List.mem_append_right _ (List.mem_of_getElem? (i := 633) rfl)), rfl⟩
set_option maxRecDepth 100000 in
theorem mw_170 : (Cond.selects "LossyHandshake$Client" y_Client_takeRetry y_Client_takeRetry) ∈ tW := List.mem_filter.mpr ⟨(List.mem_append_right _ (List.mem_of_getElem? (i := 634) rfl)), rfl⟩
set_option maxRecDepth 100000 in
theorem mw_171 : (Cond.methodLink "LossyHandshake$Client" 112 y_Client_takeFlightPiece) ∈ tW := List.mem_filter.mpr ⟨(List.mem_append_right _ (List.mem_of_getElem? (i := 644) rfl)), rfl⟩
set_option maxRecDepth 100000 in
theorem mw_172 : (Cond.instanceMethod y_Client_takeFlightPiece) ∈ tW := List.mem_filter.mpr ⟨(List.mem_append_right _ (List.mem_of_getElem? (i := 645) rfl)), rfl⟩
set_option maxRecDepth 100000 in
theorem mw_173 : (Cond.selects "LossyHandshake$Client" y_Client_takeFlightPiece y_Client_takeFlightPiece) ∈ tW := List.mem_filter.mpr ⟨(List.mem_append_right _ (List.mem_of_getElem? (i := 646) rfl)), rfl⟩
set_option maxRecDepth 100000 in
theorem mw_174 : (Cond.methodLink "LossyHandshake$Client" 115 y_Client_answerFlight) ∈ tW := List.mem_filter.mpr ⟨(List.mem_append_right _ (List.mem_of_getElem? (i := 679) rfl)), rfl⟩
set_option maxRecDepth 100000 in
theorem mw_175 : (Cond.instanceMethod y_Client_answerFlight) ∈ tW := List.mem_filter.mpr ⟨(List.mem_append_right _ (List.mem_of_getElem? (i := 680) rfl)), rfl⟩
set_option maxRecDepth 100000 in
theorem mw_176 : (Cond.selects "LossyHandshake$Client" y_Client_answerFlight y_Client_answerFlight) ∈ tW := List.mem_filter.mpr ⟨(List.mem_append_right _ (List.mem_of_getElem? (i := 681) rfl)), rfl⟩
set_option maxRecDepth 100000 in
theorem mw_177 : (Cond.methodLink "LossyHandshake$Flight" 41 Lib.Math.min.name) ∈ tW := List.mem_filter.mpr ⟨(List.mem_append_right _ (List.mem_of_getElem? (i := 544) rfl)), rfl⟩
set_option maxRecDepth 100000 in
theorem mw_178 : (Cond.methodLink "LossyHandshake$Flight" 47 y_Flight_countOpen) ∈ tW := List.mem_filter.mpr ⟨(List.mem_append_right _ (List.mem_of_getElem? (i := 524) rfl)), rfl⟩
set_option maxRecDepth 100000 in
theorem mw_179 : (Cond.methodLink "LossyHandshake$NetRecord" 3 Lib.objectInit) ∈ tW := List.mem_filter.mpr ⟨(List.mem_append_right _ (List.mem_of_getElem? (i := 41) rfl)), rfl⟩
set_option maxRecDepth 100000 in
theorem mw_180 : (Cond.methodLink "LossyHandshake$Net" 3 Lib.objectInit) ∈ tW := List.mem_filter.mpr ⟨(List.mem_append_right _ (List.mem_of_getElem? (i := 34) rfl)), rfl⟩
set_option maxRecDepth 100000 in
theorem mw_181 : (Cond.classLink "LossyHandshake$Net" 9 "LossyHandshake$NetRecord") ∈ tW := List.mem_filter.mpr ⟨(List.mem_append_right _ (List.mem_of_getElem? (i := 35) rfl)), rfl⟩
set_option maxRecDepth 100000 in
theorem mw_182 : (Cond.instantiable "LossyHandshake$NetRecord" 9) ∈ tW := List.mem_filter.mpr ⟨(List.mem_append_right _ (List.mem_of_getElem? (i := 37) rfl)), rfl⟩
set_option maxRecDepth 100000 in
theorem mw_183 : (Cond.initialized "LossyHandshake$NetRecord") ∈ tW := List.mem_filter.mpr ⟨(List.mem_append_right _ (List.mem_of_getElem? (i := 4) rfl)), rfl⟩
set_option maxRecDepth 100000 in
theorem mw_184 : (Cond.instanceMethod y_Rec_init) ∈ tW := List.mem_filter.mpr ⟨(List.mem_append_right _ (List.mem_of_getElem? (i := 39) rfl)), rfl⟩
set_option maxRecDepth 100000 in
theorem mw_185 : (Cond.methodLink "LossyHandshake$NetRecord" 47 y_Rec_address) ∈ tW := List.mem_filter.mpr ⟨(List.mem_append_right _ (List.mem_of_getElem? (i := 772) rfl)), rfl⟩
set_option maxRecDepth 100000 in
theorem mw_186 : (Cond.methodLink "LossyHandshake$NetRecord" 51 y_Rec_markAsPiece) ∈ tW := List.mem_filter.mpr ⟨(List.mem_append_right _ (List.mem_of_getElem? (i := 773) rfl)), rfl⟩
set_option maxRecDepth 100000 in
theorem mw_187 : (Cond.methodLink "LossyHandshake$NetRecord" 55 y_Rec_hold) ∈ tW := List.mem_filter.mpr ⟨(List.mem_append_right _ (List.mem_of_getElem? (i := 774) rfl)), rfl⟩
set_option maxRecDepth 100000 in
theorem mw_188 : (Cond.methodLink "LossyHandshake$Net" 39 y_Rec_becomeLike) ∈ tW := List.mem_filter.mpr ⟨(List.mem_append_right _ (List.mem_of_getElem? (i := 768) rfl)), rfl⟩
set_option maxRecDepth 100000 in
theorem mw_189 : (Cond.instanceMethod y_Rec_becomeLike) ∈ tW := List.mem_filter.mpr ⟨(List.mem_append_right _ (List.mem_of_getElem? (i := 769) rfl)), rfl⟩
set_option maxRecDepth 100000 in
theorem mw_190 : (Cond.selects "LossyHandshake$NetRecord" y_Rec_becomeLike y_Rec_becomeLike) ∈ tW := List.mem_filter.mpr ⟨(List.mem_append_right _ (List.mem_of_getElem? (i := 770) rfl)), rfl⟩
set_option maxRecDepth 100000 in
theorem mw_191 : (Cond.constant "LossyHandshake$NetRecord" 62 (1000000)) ∈ tW := List.mem_filter.mpr ⟨(List.mem_append_right _ (List.mem_of_getElem? (i := 795) rfl)), rfl⟩
set_option maxRecDepth 100000 in
theorem mw_192 : (Cond.constant "LossyHandshake$NetRecord" 63 (100000)) ∈ tW := List.mem_filter.mpr ⟨(List.mem_append_right _ (List.mem_of_getElem? (i := 796) rfl)), rfl⟩
set_option maxRecDepth 100000 in
theorem mw_193 : (Cond.methodLink "LossyHandshake$Server" 3 y_Side_init) ∈ tW := List.mem_filter.mpr ⟨(List.mem_append_right _ (List.mem_of_getElem? (i := 371) rfl)), rfl⟩
set_option maxRecDepth 100000 in
theorem mw_194 : (Cond.classLink "LossyHandshake$Server" 9 "LossyHandshake$Message") ∈ tW := List.mem_filter.mpr ⟨(List.mem_append_right _ (List.mem_of_getElem? (i := 372) rfl)), rfl⟩
set_option maxRecDepth 100000 in
theorem mw_195 : (Cond.methodLink "LossyHandshake$Server" 11 y_Msg_init) ∈ tW := List.mem_filter.mpr ⟨(List.mem_append_right _ (List.mem_of_getElem? (i := 373) rfl)), rfl⟩
set_option maxRecDepth 100000 in
theorem mw_196 : (Cond.static y_X_serverSecret) ∈ tW := List.mem_filter.mpr ⟨(List.mem_append_right _ (List.mem_of_getElem? (i := 375) rfl)), rfl⟩
set_option maxRecDepth 100000 in
theorem mw_197 : (Cond.methodLink "LossyHandshake$Server" 86 y_Rec_readFirstInt) ∈ tW := List.mem_filter.mpr ⟨(List.mem_append_right _ (List.mem_of_getElem? (i := 699) rfl)), rfl⟩
set_option maxRecDepth 100000 in
theorem mw_198 : (Cond.methodLink "LossyHandshake$Server" 94 y_Msg_writeInt) ∈ tW := List.mem_filter.mpr ⟨(List.mem_append_right _ (List.mem_of_getElem? (i := 701) rfl)), rfl⟩
set_option maxRecDepth 100000 in
theorem mw_199 : (Cond.methodLink "LossyHandshake$Server" 108 y_Net_append) ∈ tW := List.mem_filter.mpr ⟨(List.mem_append_right _ (List.mem_of_getElem? (i := 702) rfl)), rfl⟩
set_option maxRecDepth 100000 in
theorem mw_200 : (Cond.methodLink "LossyHandshake$Server" 114 y_Rec_markAsPiece) ∈ tW := List.mem_filter.mpr ⟨(List.mem_append_right _ (List.mem_of_getElem? (i := 703) rfl)), rfl⟩
set_option maxRecDepth 100000 in
theorem mw_201 : (Cond.methodLink "LossyHandshake$Server" 120 y_Rec_hold) ∈ tW := List.mem_filter.mpr ⟨(List.mem_append_right _ (List.mem_of_getElem? (i := 704) rfl)), rfl⟩
set_option maxRecDepth 100000 in
theorem mw_202 : (Cond.methodLink "LossyHandshake$Server" 146 ⟨"LossyHandshake$Server", "addBytesToTranscript", "([III)V"⟩) ∈ tW := List.mem_filter.mpr ⟨(List.mem_append_right _ (List.mem_of_getElem? (i := 722) rfl)), rfl⟩
set_option maxRecDepth 100000 in
theorem mw_203 : (Cond.sameMethod "LossyHandshake$Server" "LossyHandshake$Side" "addBytesToTranscript" "([III)V") ∈ tW := List.mem_filter.mpr ⟨(List.mem_append_right _ (List.mem_of_getElem? (i := 723) rfl)), rfl⟩
set_option maxRecDepth 100000 in
theorem mw_204 : (Cond.selects "LossyHandshake$Server" ⟨"LossyHandshake$Server", "addBytesToTranscript", "([III)V"⟩ y_Side_addBytesToTranscript) ∈ tW := List.mem_filter.mpr ⟨(List.mem_append_right _ (List.mem_of_getElem? (i := 724) rfl)), rfl⟩
set_option maxRecDepth 100000 in
theorem mw_205 : (Cond.methodLink "LossyHandshake$Server" 153 y_Msg_writeMixes) ∈ tW := List.mem_filter.mpr ⟨(List.mem_append_right _ (List.mem_of_getElem? (i := 729) rfl)), rfl⟩
set_option maxRecDepth 100000 in
theorem mw_206 : (Cond.instanceMethod y_Msg_writeMixes) ∈ tW := List.mem_filter.mpr ⟨(List.mem_append_right _ (List.mem_of_getElem? (i := 730) rfl)), rfl⟩
set_option maxRecDepth 100000 in
theorem mw_207 : (Cond.selects "LossyHandshake$Message" y_Msg_writeMixes y_Msg_writeMixes) ∈ tW := List.mem_filter.mpr ⟨(List.mem_append_right _ (List.mem_of_getElem? (i := 731) rfl)), rfl⟩
set_option maxRecDepth 100000 in
theorem mw_208 : (Cond.methodLink "LossyHandshake$Server" 156 ⟨"LossyHandshake$Server", "addToTranscript", "(LLossyHandshake$Message;)V"⟩) ∈ tW := List.mem_filter.mpr ⟨(List.mem_append_right _ (List.mem_of_getElem? (i := 734) rfl)), rfl⟩
set_option maxRecDepth 100000 in
theorem mw_209 : (Cond.sameMethod "LossyHandshake$Server" "LossyHandshake$Side" "addToTranscript" "(LLossyHandshake$Message;)V") ∈ tW := List.mem_filter.mpr ⟨(List.mem_append_right _ (List.mem_of_getElem? (i := 735) rfl)), rfl⟩
set_option maxRecDepth 100000 in
theorem mw_210 : (Cond.selects "LossyHandshake$Server" ⟨"LossyHandshake$Server", "addToTranscript", "(LLossyHandshake$Message;)V"⟩ y_Side_addToTranscript) ∈ tW := List.mem_filter.mpr ⟨(List.mem_append_right _ (List.mem_of_getElem? (i := 736) rfl)), rfl⟩
set_option maxRecDepth 100000 in
theorem mw_211 : (Cond.methodLink "LossyHandshake$Server" 164 y_Flight_begin) ∈ tW := List.mem_filter.mpr ⟨(List.mem_append_right _ (List.mem_of_getElem? (i := 737) rfl)), rfl⟩
set_option maxRecDepth 100000 in
theorem mw_212 : (Cond.methodLink "LossyHandshake$Server" 172 y_Flight_add) ∈ tW := List.mem_filter.mpr ⟨(List.mem_append_right _ (List.mem_of_getElem? (i := 738) rfl)), rfl⟩
set_option maxRecDepth 100000 in
theorem mw_213 : (Cond.methodLink "LossyHandshake$Server" 124 y_Server_addFirstThreeToTranscript) ∈ tW := List.mem_filter.mpr ⟨(List.mem_append_right _ (List.mem_of_getElem? (i := 718) rfl)), rfl⟩
set_option maxRecDepth 100000 in
theorem mw_214 : (Cond.instanceMethod y_Server_addFirstThreeToTranscript) ∈ tW := List.mem_filter.mpr ⟨(List.mem_append_right _ (List.mem_of_getElem? (i := 719) rfl)), rfl⟩
set_option maxRecDepth 100000 in
theorem mw_215 : (Cond.selects "LossyHandshake$Server" y_Server_addFirstThreeToTranscript y_Server_addFirstThreeToTranscript) ∈ tW := List.mem_filter.mpr ⟨(List.mem_append_right _ (List.mem_of_getElem? (i := 720) rfl)), rfl⟩
set_option maxRecDepth 100000 in
theorem mw_216 : (Cond.methodLink "LossyHandshake$Server" 136 y_Server_workOutFlight) ∈ tW := List.mem_filter.mpr ⟨(List.mem_append_right _ (List.mem_of_getElem? (i := 725) rfl)), rfl⟩
set_option maxRecDepth 100000 in
theorem mw_217 : (Cond.instanceMethod y_Server_workOutFlight) ∈ tW := List.mem_filter.mpr ⟨(List.mem_append_right _ (List.mem_of_getElem? (i := 726) rfl)), rfl⟩
set_option maxRecDepth 100000 in
theorem mw_218 : (Cond.selects "LossyHandshake$Server" y_Server_workOutFlight y_Server_workOutFlight) ∈ tW := List.mem_filter.mpr ⟨(List.mem_append_right _ (List.mem_of_getElem? (i := 727) rfl)), rfl⟩
set_option maxRecDepth 100000 in
theorem mw_219 : (Cond.methodLink "LossyHandshake$Server" 139 ⟨"LossyHandshake$Server", "sendOpenFragments", "()V"⟩) ∈ tW := List.mem_filter.mpr ⟨(List.mem_append_right _ (List.mem_of_getElem? (i := 739) rfl)), rfl⟩
set_option maxRecDepth 100000 in
theorem mw_220 : (Cond.sameMethod "LossyHandshake$Server" "LossyHandshake$Side" "sendOpenFragments" "()V") ∈ tW := List.mem_filter.mpr ⟨(List.mem_append_right _ (List.mem_of_getElem? (i := 740) rfl)), rfl⟩
set_option maxRecDepth 100000 in
theorem mw_221 : (Cond.selects "LossyHandshake$Server" ⟨"LossyHandshake$Server", "sendOpenFragments", "()V"⟩ y_Side_sendOpenFragments) ∈ tW := List.mem_filter.mpr ⟨(List.mem_append_right _ (List.mem_of_getElem? (i := 741) rfl)), rfl⟩
set_option maxRecDepth 100000 in
theorem mw_222 : (Cond.methodLink "LossyHandshake$Server" 143 ⟨"LossyHandshake$Server", "enter", "(I)V"⟩) ∈ tW := List.mem_filter.mpr ⟨(List.mem_append_right _ (List.mem_of_getElem? (i := 742) rfl)), rfl⟩
set_option maxRecDepth 100000 in
theorem mw_223 : (Cond.sameMethod "LossyHandshake$Server" "LossyHandshake$Side" "enter" "(I)V") ∈ tW := List.mem_filter.mpr ⟨(List.mem_append_right _ (List.mem_of_getElem? (i := 743) rfl)), rfl⟩
set_option maxRecDepth 100000 in
theorem mw_224 : (Cond.selects "LossyHandshake$Server" ⟨"LossyHandshake$Server", "enter", "(I)V"⟩ y_Side_enter) ∈ tW := List.mem_filter.mpr ⟨(List.mem_append_right _ (List.mem_of_getElem? (i := 744) rfl)), rfl⟩
set_option maxRecDepth 100000 in
theorem mw_225 : (Cond.methodLink "LossyHandshake$Server" 179 y_Flight_forget) ∈ tW := List.mem_filter.mpr ⟨(List.mem_append_right _ (List.mem_of_getElem? (i := 749) rfl)), rfl⟩
set_option maxRecDepth 100000 in
theorem mw_226 : (Cond.methodLink "LossyHandshake$Server" 186 y_Rec_name) ∈ tW := List.mem_filter.mpr ⟨(List.mem_append_right _ (List.mem_of_getElem? (i := 750) rfl)), rfl⟩
set_option maxRecDepth 100000 in
theorem mw_227 : (Cond.methodLink "LossyHandshake$Server" 189 y_Noted_add) ∈ tW := List.mem_filter.mpr ⟨(List.mem_append_right _ (List.mem_of_getElem? (i := 751) rfl)), rfl⟩
set_option maxRecDepth 100000 in
theorem mw_228 : (Cond.methodLink "LossyHandshake$Server" 193 ⟨"LossyHandshake$Server", "sendAck", "()V"⟩) ∈ tW := List.mem_filter.mpr ⟨(List.mem_append_right _ (List.mem_of_getElem? (i := 752) rfl)), rfl⟩
set_option maxRecDepth 100000 in
theorem mw_229 : (Cond.sameMethod "LossyHandshake$Server" "LossyHandshake$Side" "sendAck" "()V") ∈ tW := List.mem_filter.mpr ⟨(List.mem_append_right _ (List.mem_of_getElem? (i := 753) rfl)), rfl⟩
set_option maxRecDepth 100000 in
theorem mw_230 : (Cond.instanceMethod y_Side_sendAck) ∈ tW := List.mem_filter.mpr ⟨(List.mem_append_right _ (List.mem_of_getElem? (i := 515) rfl)), rfl⟩
set_option maxRecDepth 100000 in
theorem mw_231 : (Cond.selects "LossyHandshake$Server" ⟨"LossyHandshake$Server", "sendAck", "()V"⟩ y_Side_sendAck) ∈ tW := List.mem_filter.mpr ⟨(List.mem_append_right _ (List.mem_of_getElem? (i := 755) rfl)), rfl⟩
set_option maxRecDepth 100000 in
theorem mw_232 : (Cond.methodLink "LossyHandshake$Server" 43 ⟨"LossyHandshake$Server", "throwsAway", "(LLossyHandshake$NetRecord;)Z"⟩) ∈ tW := List.mem_filter.mpr ⟨(List.mem_append_right _ (List.mem_of_getElem? (i := 688) rfl)), rfl⟩
set_option maxRecDepth 100000 in
theorem mw_233 : (Cond.sameMethod "LossyHandshake$Server" "LossyHandshake$Side" "throwsAway" "(LLossyHandshake$NetRecord;)Z") ∈ tW := List.mem_filter.mpr ⟨(List.mem_append_right _ (List.mem_of_getElem? (i := 689) rfl)), rfl⟩
set_option maxRecDepth 100000 in
theorem mw_234 : (Cond.selects "LossyHandshake$Server" ⟨"LossyHandshake$Server", "throwsAway", "(LLossyHandshake$NetRecord;)Z"⟩ y_Side_throwsAway) ∈ tW := List.mem_filter.mpr ⟨(List.mem_append_right _ (List.mem_of_getElem? (i := 690) rfl)), rfl⟩
set_option maxRecDepth 100000 in
theorem mw_235 : (Cond.methodLink "LossyHandshake$Server" 47 y_Rec_isPieceOf) ∈ tW := List.mem_filter.mpr ⟨(List.mem_append_right _ (List.mem_of_getElem? (i := 691) rfl)), rfl⟩
set_option maxRecDepth 100000 in
theorem mw_236 : (Cond.instanceMethod y_Rec_isPieceOf) ∈ tW := List.mem_filter.mpr ⟨(List.mem_append_right _ (List.mem_of_getElem? (i := 692) rfl)), rfl⟩
set_option maxRecDepth 100000 in
theorem mw_237 : (Cond.selects "LossyHandshake$NetRecord" y_Rec_isPieceOf y_Rec_isPieceOf) ∈ tW := List.mem_filter.mpr ⟨(List.mem_append_right _ (List.mem_of_getElem? (i := 693) rfl)), rfl⟩
set_option maxRecDepth 100000 in
theorem mw_238 : (Cond.methodLink "LossyHandshake$Server" 60 ⟨"LossyHandshake$Server", "letIn", "(LLossyHandshake$NetRecord;)V"⟩) ∈ tW := List.mem_filter.mpr ⟨(List.mem_append_right _ (List.mem_of_getElem? (i := 705) rfl)), rfl⟩
set_option maxRecDepth 100000 in
theorem mw_239 : (Cond.sameMethod "LossyHandshake$Server" "LossyHandshake$Side" "letIn" "(LLossyHandshake$NetRecord;)V") ∈ tW := List.mem_filter.mpr ⟨(List.mem_append_right _ (List.mem_of_getElem? (i := 706) rfl)), rfl⟩
set_option maxRecDepth 100000 in
theorem mw_240 : (Cond.selects "LossyHandshake$Server" ⟨"LossyHandshake$Server", "letIn", "(LLossyHandshake$NetRecord;)V"⟩ y_Side_letIn) ∈ tW := List.mem_filter.mpr ⟨(List.mem_append_right _ (List.mem_of_getElem? (i := 707) rfl)), rfl⟩
set_option maxRecDepth 100000 in
theorem mw_241 : (Cond.methodLink "LossyHandshake$Server" 66 ⟨"LossyHandshake$Server", "closeNamed", "(LLossyHandshake$NetRecord;)V"⟩) ∈ tW := List.mem_filter.mpr ⟨(List.mem_append_right _ (List.mem_of_getElem? (i := 708) rfl)), rfl⟩
set_option maxRecDepth 100000 in
theorem mw_242 : (Cond.sameMethod "LossyHandshake$Server" "LossyHandshake$Side" "closeNamed" "(LLossyHandshake$NetRecord;)V") ∈ tW := List.mem_filter.mpr ⟨(List.mem_append_right _ (List.mem_of_getElem? (i := 709) rfl)), rfl⟩
set_option maxRecDepth 100000 in
theorem mw_243 : (Cond.selects "LossyHandshake$Server" ⟨"LossyHandshake$Server", "closeNamed", "(LLossyHandshake$NetRecord;)V"⟩ y_Side_closeNamed) ∈ tW := List.mem_filter.mpr ⟨(List.mem_append_right _ (List.mem_of_getElem? (i := 710) rfl)), rfl⟩
set_option maxRecDepth 100000 in
theorem mw_244 : (Cond.methodLink "LossyHandshake$Server" 73 ⟨"LossyHandshake$Server", "keepValue", "(I)V"⟩) ∈ tW := List.mem_filter.mpr ⟨(List.mem_append_right _ (List.mem_of_getElem? (i := 711) rfl)), rfl⟩
set_option maxRecDepth 100000 in
theorem mw_245 : (Cond.sameMethod "LossyHandshake$Server" "LossyHandshake$Side" "keepValue" "(I)V") ∈ tW := List.mem_filter.mpr ⟨(List.mem_append_right _ (List.mem_of_getElem? (i := 712) rfl)), rfl⟩
set_option maxRecDepth 100000 in
theorem mw_246 : (Cond.selects "LossyHandshake$Server" ⟨"LossyHandshake$Server", "keepValue", "(I)V"⟩ y_Side_keepValue) ∈ tW := List.mem_filter.mpr ⟨(List.mem_append_right _ (List.mem_of_getElem? (i := 713) rfl)), rfl⟩
set_option maxRecDepth 100000 in
theorem mw_247 : (Cond.methodLink "LossyHandshake$Server" 80 y_Server_takeHelloAgain) ∈ tW := List.mem_filter.mpr ⟨(List.mem_append_right _ (List.mem_of_getElem? (i := 714) rfl)), rfl⟩
set_option maxRecDepth 100000 in
theorem mw_248 : (Cond.instanceMethod y_Server_takeHelloAgain) ∈ tW := List.mem_filter.mpr ⟨(List.mem_append_right _ (List.mem_of_getElem? (i := 715) rfl)), rfl⟩
set_option maxRecDepth 100000 in
theorem mw_249 : (Cond.selects "LossyHandshake$Server" y_Server_takeHelloAgain y_Server_takeHelloAgain) ∈ tW := List.mem_filter.mpr ⟨(List.mem_append_right _ (List.mem_of_getElem? (i := 716) rfl)), rfl⟩
set_option maxRecDepth 100000 in
theorem mw_250 : (Cond.methodLink "LossyHandshake$Server" 83 y_Server_takeClientDone) ∈ tW := List.mem_filter.mpr ⟨(List.mem_append_right _ (List.mem_of_getElem? (i := 745) rfl)), rfl⟩
set_option maxRecDepth 100000 in
theorem mw_251 : (Cond.instanceMethod y_Server_takeClientDone) ∈ tW := List.mem_filter.mpr ⟨(List.mem_append_right _ (List.mem_of_getElem? (i := 746) rfl)), rfl⟩
set_option maxRecDepth 100000 in
theorem mw_252 : (Cond.selects "LossyHandshake$Server" y_Server_takeClientDone y_Server_takeClientDone) ∈ tW := List.mem_filter.mpr ⟨(List.mem_append_right _ (List.mem_of_getElem? (i := 747) rfl)), rfl⟩
set_option maxRecDepth 100000 in
theorem mw_253 : (Cond.methodLink "LossyHandshake$Server" 53 y_Server_sendRetry) ∈ tW := List.mem_filter.mpr ⟨(List.mem_append_right _ (List.mem_of_getElem? (i := 695) rfl)), rfl⟩
set_option maxRecDepth 100000 in
theorem mw_254 : (Cond.instanceMethod y_Server_sendRetry) ∈ tW := List.mem_filter.mpr ⟨(List.mem_append_right _ (List.mem_of_getElem? (i := 696) rfl)), rfl⟩
set_option maxRecDepth 100000 in
theorem mw_255 : (Cond.selects "LossyHandshake$Server" y_Server_sendRetry y_Server_sendRetry) ∈ tW := List.mem_filter.mpr ⟨(List.mem_append_right _ (List.mem_of_getElem? (i := 697) rfl)), rfl⟩
set_option maxRecDepth 100000 in
theorem mw_256 : (Cond.methodLink "LossyHandshake$Side" 105 y_Rec_holdValue) ∈ tW := List.mem_filter.mpr ⟨(List.mem_append_right _ (List.mem_of_getElem? (i := 565) rfl)), rfl⟩
set_option maxRecDepth 100000 in
theorem mw_257 : (Cond.instanceMethod y_Rec_holdValue) ∈ tW := List.mem_filter.mpr ⟨(List.mem_append_right _ (List.mem_of_getElem? (i := 566) rfl)), rfl⟩
set_option maxRecDepth 100000 in
theorem mw_258 : (Cond.selects "LossyHandshake$NetRecord" y_Rec_holdValue y_Rec_holdValue) ∈ tW := List.mem_filter.mpr ⟨(List.mem_append_right _ (List.mem_of_getElem? (i := 567) rfl)), rfl⟩
set_option maxRecDepth 100000 in
theorem mw_259 : (Cond.methodLink "LossyHandshake$Side" 175 ⟨"LossyHandshake$Side", "sendOpenFragments", "()V"⟩) ∈ tW := List.mem_filter.mpr ⟨(List.mem_append_right _ (List.mem_of_getElem? (i := 539) rfl)), rfl⟩
set_option maxRecDepth 100000 in
theorem mw_260 : (Cond.sameMethod "LossyHandshake$Side" "LossyHandshake$Side" "sendOpenFragments" "()V") ∈ tW := List.mem_filter.mpr ⟨(List.mem_append_right _ (List.mem_of_getElem? (i := 1174) rfl)), rfl⟩
set_option maxRecDepth 100000 in
theorem mw_261 : (Cond.selects "LossyHandshake$Client" ⟨"LossyHandshake$Side", "sendOpenFragments", "()V"⟩ y_Side_sendOpenFragments) ∈ tW := List.mem_filter.mpr ⟨(List.mem_append_right _ (List.mem_of_getElem? (i := 1175) rfl)), rfl⟩
set_option maxRecDepth 100000 in
theorem mw_262 : (Cond.selects "LossyHandshake$Server" ⟨"LossyHandshake$Side", "sendOpenFragments", "()V"⟩ y_Side_sendOpenFragments) ∈ tW := List.mem_filter.mpr ⟨(List.mem_append_right _ (List.mem_of_getElem? (i := 1176) rfl)), rfl⟩
set_option maxRecDepth 100000 in
theorem mw_263 : (Cond.methodLink "LossyHandshake$Side" 178 y_Flight_waitTwiceAsLong) ∈ tW := List.mem_filter.mpr ⟨(List.mem_append_right _ (List.mem_of_getElem? (i := 540) rfl)), rfl⟩
set_option maxRecDepth 100000 in
theorem mw_264 : (Cond.instanceMethod y_Flight_waitTwiceAsLong) ∈ tW := List.mem_filter.mpr ⟨(List.mem_append_right _ (List.mem_of_getElem? (i := 541) rfl)), rfl⟩
set_option maxRecDepth 100000 in
theorem mw_265 : (Cond.selects "LossyHandshake$Flight" y_Flight_waitTwiceAsLong y_Flight_waitTwiceAsLong) ∈ tW := List.mem_filter.mpr ⟨(List.mem_append_right _ (List.mem_of_getElem? (i := 542) rfl)), rfl⟩
set_option maxRecDepth 100000 in
theorem mw_266 : (Cond.methodLink "LossyHandshake$Side" 169 y_Flight_forget) ∈ tW := List.mem_filter.mpr ⟨(List.mem_append_right _ (List.mem_of_getElem? (i := 534) rfl)), rfl⟩
set_option maxRecDepth 100000 in
theorem mw_267 : (Cond.methodLink "LossyHandshake$Side" 172 ⟨"LossyHandshake$Side", "enter", "(I)V"⟩) ∈ tW := List.mem_filter.mpr ⟨(List.mem_append_right _ (List.mem_of_getElem? (i := 538) rfl)), rfl⟩
set_option maxRecDepth 100000 in
theorem mw_268 : (Cond.sameMethod "LossyHandshake$Side" "LossyHandshake$Side" "enter" "(I)V") ∈ tW := List.mem_filter.mpr ⟨(List.mem_append_right _ (List.mem_of_getElem? (i := 1171) rfl)), rfl⟩
set_option maxRecDepth 100000 in
theorem mw_269 : (Cond.selects "LossyHandshake$Client" ⟨"LossyHandshake$Side", "enter", "(I)V"⟩ y_Side_enter) ∈ tW := List.mem_filter.mpr ⟨(List.mem_append_right _ (List.mem_of_getElem? (i := 1172) rfl)), rfl⟩
set_option maxRecDepth 100000 in
theorem mw_270 : (Cond.selects "LossyHandshake$Server" ⟨"LossyHandshake$Side", "enter", "(I)V"⟩ y_Side_enter) ∈ tW := List.mem_filter.mpr ⟨(List.mem_append_right _ (List.mem_of_getElem? (i := 1173) rfl)), rfl⟩
set_option maxRecDepth 100000 in
theorem mw_271 : (Cond.methodLink "LossyHandshake$Side" 159 y_Flight_hasWaited) ∈ tW := List.mem_filter.mpr ⟨(List.mem_append_right _ (List.mem_of_getElem? (i := 520) rfl)), rfl⟩
set_option maxRecDepth 100000 in
theorem mw_272 : (Cond.instanceMethod y_Flight_hasWaited) ∈ tW := List.mem_filter.mpr ⟨(List.mem_append_right _ (List.mem_of_getElem? (i := 521) rfl)), rfl⟩
set_option maxRecDepth 100000 in
theorem mw_273 : (Cond.selects "LossyHandshake$Flight" y_Flight_hasWaited y_Flight_hasWaited) ∈ tW := List.mem_filter.mpr ⟨(List.mem_append_right _ (List.mem_of_getElem? (i := 522) rfl)), rfl⟩
set_option maxRecDepth 100000 in
theorem mw_274 : (Cond.methodLink "LossyHandshake$Side" 163 ⟨"LossyHandshake$Side", "sendAgainOrFail", "()V"⟩) ∈ tW := List.mem_filter.mpr ⟨(List.mem_append_right _ (List.mem_of_getElem? (i := 528) rfl)), rfl⟩
set_option maxRecDepth 100000 in
theorem mw_275 : (Cond.sameMethod "LossyHandshake$Side" "LossyHandshake$Side" "sendAgainOrFail" "()V") ∈ tW := List.mem_filter.mpr ⟨(List.mem_append_right _ (List.mem_of_getElem? (i := 530) rfl)), rfl⟩
set_option maxRecDepth 100000 in
theorem mw_276 : (Cond.instanceMethod y_Side_sendAgainOrFail) ∈ tW := List.mem_filter.mpr ⟨(List.mem_append_right _ (List.mem_of_getElem? (i := 529) rfl)), rfl⟩
set_option maxRecDepth 100000 in
theorem mw_277 : (Cond.selects "LossyHandshake$Client" ⟨"LossyHandshake$Side", "sendAgainOrFail", "()V"⟩ y_Side_sendAgainOrFail) ∈ tW := List.mem_filter.mpr ⟨(List.mem_append_right _ (List.mem_of_getElem? (i := 531) rfl)), rfl⟩
set_option maxRecDepth 100000 in
theorem mw_278 : (Cond.selects "LossyHandshake$Server" ⟨"LossyHandshake$Side", "sendAgainOrFail", "()V"⟩ y_Side_sendAgainOrFail) ∈ tW := List.mem_filter.mpr ⟨(List.mem_append_right _ (List.mem_of_getElem? (i := 532) rfl)), rfl⟩
set_option maxRecDepth 100000 in
theorem mw_279 : (Cond.methodLink "LossyHandshake$Side" 156 ⟨"LossyHandshake$Side", "sendAck", "()V"⟩) ∈ tW := List.mem_filter.mpr ⟨(List.mem_append_right _ (List.mem_of_getElem? (i := 514) rfl)), rfl⟩
set_option maxRecDepth 100000 in
theorem mw_280 : (Cond.sameMethod "LossyHandshake$Side" "LossyHandshake$Side" "sendAck" "()V") ∈ tW := List.mem_filter.mpr ⟨(List.mem_append_right _ (List.mem_of_getElem? (i := 516) rfl)), rfl⟩
set_option maxRecDepth 100000 in
theorem mw_281 : (Cond.selects "LossyHandshake$Client" ⟨"LossyHandshake$Side", "sendAck", "()V"⟩ y_Side_sendAck) ∈ tW := List.mem_filter.mpr ⟨(List.mem_append_right _ (List.mem_of_getElem? (i := 517) rfl)), rfl⟩
set_option maxRecDepth 100000 in
theorem mw_282 : (Cond.selects "LossyHandshake$Server" ⟨"LossyHandshake$Side", "sendAck", "()V"⟩ y_Side_sendAck) ∈ tW := List.mem_filter.mpr ⟨(List.mem_append_right _ (List.mem_of_getElem? (i := 518) rfl)), rfl⟩
set_option maxRecDepth 100000 in
theorem mw_283 : (Cond.methodLink "LossyHandshake" 1 Lib.objectInit) ∈ tW := List.mem_filter.mpr ⟨(List.mem_append_right _ (List.mem_of_getElem? (i := 20) rfl)), rfl⟩
set_option maxRecDepth 100000 in
theorem mw_284 : (Cond.methodLink "LossyHandshake" 9 Lib.Math.min.name) ∈ tW := List.mem_filter.mpr ⟨(List.mem_append_right _ (List.mem_of_getElem? (i := 23) rfl)), rfl⟩
set_option maxRecDepth 100000 in
theorem mw_285 : (Cond.methodLink "LossyHandshake" 15 Lib.Math.max.name) ∈ tW := List.mem_filter.mpr ⟨(List.mem_append_right _ (List.mem_of_getElem? (i := 26) rfl)), rfl⟩
set_option maxRecDepth 100000 in
theorem mw_286 : (Cond.static Lib.Math.max.name) ∈ tW := List.mem_filter.mpr ⟨(List.mem_append_right _ (List.mem_of_getElem? (i := 27) rfl)), rfl⟩
set_option maxRecDepth 100000 in
theorem mw_287 : (Cond.code Lib.Math.max.name Lib.Math.max.code 2 (some .int)) ∈ tW := List.mem_filter.mpr ⟨(List.mem_append_right _ (List.mem_of_getElem? (i := 28) rfl)), rfl⟩
set_option maxRecDepth 100000 in
theorem mw_288 : (Cond.classLink "LossyHandshake" 18 "LossyHandshake$Net") ∈ tW := List.mem_filter.mpr ⟨(List.mem_append_right _ (List.mem_of_getElem? (i := 29) rfl)), rfl⟩
set_option maxRecDepth 100000 in
theorem mw_289 : (Cond.instantiable "LossyHandshake$Net" 6) ∈ tW := List.mem_filter.mpr ⟨(List.mem_append_right _ (List.mem_of_getElem? (i := 30) rfl)), rfl⟩
set_option maxRecDepth 100000 in
theorem mw_290 : (Cond.initialized "LossyHandshake$Net") ∈ tW := List.mem_filter.mpr ⟨(List.mem_append_right _ (List.mem_of_getElem? (i := 3) rfl)), rfl⟩
set_option maxRecDepth 100000 in
theorem mw_291 : (Cond.methodLink "LossyHandshake" 20 y_Net_init) ∈ tW := List.mem_filter.mpr ⟨(List.mem_append_right _ (List.mem_of_getElem? (i := 31) rfl)), rfl⟩
set_option maxRecDepth 100000 in
theorem mw_292 : (Cond.instanceMethod y_Net_init) ∈ tW := List.mem_filter.mpr ⟨(List.mem_append_right _ (List.mem_of_getElem? (i := 32) rfl)), rfl⟩
set_option maxRecDepth 100000 in
theorem mw_293 : (Cond.classLink "LossyHandshake" 25 "LossyHandshake$Client") ∈ tW := List.mem_filter.mpr ⟨(List.mem_append_right _ (List.mem_of_getElem? (i := 114) rfl)), rfl⟩
set_option maxRecDepth 100000 in
theorem mw_294 : (Cond.instantiable "LossyHandshake$Client" 19) ∈ tW := List.mem_filter.mpr ⟨(List.mem_append_right _ (List.mem_of_getElem? (i := 115) rfl)), rfl⟩
set_option maxRecDepth 100000 in
theorem mw_295 : (Cond.initialized "LossyHandshake$Client") ∈ tW := List.mem_filter.mpr ⟨(List.mem_append_right _ (List.mem_of_getElem? (i := 6) rfl)), rfl⟩
set_option maxRecDepth 100000 in
theorem mw_296 : (Cond.methodLink "LossyHandshake" 27 y_Client_init) ∈ tW := List.mem_filter.mpr ⟨(List.mem_append_right _ (List.mem_of_getElem? (i := 116) rfl)), rfl⟩
set_option maxRecDepth 100000 in
theorem mw_297 : (Cond.instanceMethod y_Client_init) ∈ tW := List.mem_filter.mpr ⟨(List.mem_append_right _ (List.mem_of_getElem? (i := 117) rfl)), rfl⟩
set_option maxRecDepth 100000 in
theorem mw_298 : (Cond.classLink "LossyHandshake" 34 "LossyHandshake$Server") ∈ tW := List.mem_filter.mpr ⟨(List.mem_append_right _ (List.mem_of_getElem? (i := 366) rfl)), rfl⟩
set_option maxRecDepth 100000 in
theorem mw_299 : (Cond.instantiable "LossyHandshake$Server" 20) ∈ tW := List.mem_filter.mpr ⟨(List.mem_append_right _ (List.mem_of_getElem? (i := 367) rfl)), rfl⟩
set_option maxRecDepth 100000 in
theorem mw_300 : (Cond.initialized "LossyHandshake$Server") ∈ tW := List.mem_filter.mpr ⟨(List.mem_append_right _ (List.mem_of_getElem? (i := 13) rfl)), rfl⟩
set_option maxRecDepth 100000 in
theorem mw_301 : (Cond.methodLink "LossyHandshake" 36 y_Server_init) ∈ tW := List.mem_filter.mpr ⟨(List.mem_append_right _ (List.mem_of_getElem? (i := 368) rfl)), rfl⟩
set_option maxRecDepth 100000 in
theorem mw_302 : (Cond.instanceMethod y_Server_init) ∈ tW := List.mem_filter.mpr ⟨(List.mem_append_right _ (List.mem_of_getElem? (i := 369) rfl)), rfl⟩
set_option maxRecDepth 100000 in
theorem mw_303 : (Cond.methodLink "LossyHandshake" 45 y_Client_sendHello) ∈ tW := List.mem_filter.mpr ⟨(List.mem_append_right _ (List.mem_of_getElem? (i := 425) rfl)), rfl⟩
set_option maxRecDepth 100000 in
theorem mw_304 : (Cond.instanceMethod y_Client_sendHello) ∈ tW := List.mem_filter.mpr ⟨(List.mem_append_right _ (List.mem_of_getElem? (i := 426) rfl)), rfl⟩
set_option maxRecDepth 100000 in
theorem mw_305 : (Cond.selects "LossyHandshake$Client" y_Client_sendHello y_Client_sendHello) ∈ tW := List.mem_filter.mpr ⟨(List.mem_append_right _ (List.mem_of_getElem? (i := 427) rfl)), rfl⟩
set_option maxRecDepth 100000 in
theorem mw_306 : (Cond.methodLink "LossyHandshake" 51 ⟨"LossyHandshake$Client", "passTick", "()V"⟩) ∈ tW := List.mem_filter.mpr ⟨(List.mem_append_right _ (List.mem_of_getElem? (i := 508) rfl)), rfl⟩
set_option maxRecDepth 100000 in
theorem mw_307 : (Cond.sameMethod "LossyHandshake$Client" "LossyHandshake$Side" "passTick" "()V") ∈ tW := List.mem_filter.mpr ⟨(List.mem_append_right _ (List.mem_of_getElem? (i := 509) rfl)), rfl⟩
set_option maxRecDepth 100000 in
theorem mw_308 : (Cond.instanceMethod y_Side_passTick) ∈ tW := List.mem_filter.mpr ⟨(List.mem_append_right _ (List.mem_of_getElem? (i := 512) rfl)), rfl⟩
set_option maxRecDepth 100000 in
theorem mw_309 : (Cond.selects "LossyHandshake$Client" ⟨"LossyHandshake$Client", "passTick", "()V"⟩ y_Side_passTick) ∈ tW := List.mem_filter.mpr ⟨(List.mem_append_right _ (List.mem_of_getElem? (i := 511) rfl)), rfl⟩
set_option maxRecDepth 100000 in
theorem mw_310 : (Cond.methodLink "LossyHandshake" 54 ⟨"LossyHandshake$Server", "passTick", "()V"⟩) ∈ tW := List.mem_filter.mpr ⟨(List.mem_append_right _ (List.mem_of_getElem? (i := 545) rfl)), rfl⟩
set_option maxRecDepth 100000 in
theorem mw_311 : (Cond.sameMethod "LossyHandshake$Server" "LossyHandshake$Side" "passTick" "()V") ∈ tW := List.mem_filter.mpr ⟨(List.mem_append_right _ (List.mem_of_getElem? (i := 546) rfl)), rfl⟩
set_option maxRecDepth 100000 in
theorem mw_312 : (Cond.selects "LossyHandshake$Server" ⟨"LossyHandshake$Server", "passTick", "()V"⟩ y_Side_passTick) ∈ tW := List.mem_filter.mpr ⟨(List.mem_append_right _ (List.mem_of_getElem? (i := 547) rfl)), rfl⟩
set_option maxRecDepth 100000 in
theorem mw_313 : (Cond.methodLink "LossyHandshake" 55 y_X_isSide) ∈ tW := List.mem_filter.mpr ⟨(List.mem_append_right _ (List.mem_of_getElem? (i := 552) rfl)), rfl⟩
set_option maxRecDepth 100000 in
theorem mw_314 : (Cond.static y_X_isSide) ∈ tW := List.mem_filter.mpr ⟨(List.mem_append_right _ (List.mem_of_getElem? (i := 553) rfl)), rfl⟩
set_option maxRecDepth 100000 in
theorem mw_315 : (Cond.methodLink "LossyHandshake" 59 y_X_sideOf) ∈ tW := List.mem_filter.mpr ⟨(List.mem_append_right _ (List.mem_of_getElem? (i := 555) rfl)), rfl⟩
set_option maxRecDepth 100000 in
theorem mw_316 : (Cond.instanceMethod y_X_sideOf) ∈ tW := List.mem_filter.mpr ⟨(List.mem_append_right _ (List.mem_of_getElem? (i := 557) rfl)), rfl⟩
set_option maxRecDepth 100000 in
theorem mw_317 : (Cond.selects "LossyHandshake" y_X_sideOf y_X_sideOf) ∈ tW := List.mem_filter.mpr ⟨(List.mem_append_left _ (List.mem_of_getElem? (i := 0) rfl)), rfl⟩
set_option maxRecDepth 100000 in
theorem mw_318 : (Cond.methodLink "LossyHandshake" 63 ⟨"LossyHandshake$Side", "sendData", "(I)Z"⟩) ∈ tW := List.mem_filter.mpr ⟨(List.mem_append_right _ (List.mem_of_getElem? (i := 559) rfl)), rfl⟩
set_option maxRecDepth 100000 in
theorem mw_319 : (Cond.sameMethod "LossyHandshake$Side" "LossyHandshake$Side" "sendData" "(I)Z") ∈ tW := List.mem_filter.mpr ⟨(List.mem_append_right _ (List.mem_of_getElem? (i := 561) rfl)), rfl⟩
set_option maxRecDepth 100000 in
theorem mw_320 : (Cond.instanceMethod y_Side_sendData) ∈ tW := List.mem_filter.mpr ⟨(List.mem_append_right _ (List.mem_of_getElem? (i := 560) rfl)), rfl⟩
set_option maxRecDepth 100000 in
theorem mw_321 : (Cond.selects "LossyHandshake$Client" ⟨"LossyHandshake$Side", "sendData", "(I)Z"⟩ y_Side_sendData) ∈ tW := List.mem_filter.mpr ⟨(List.mem_append_right _ (List.mem_of_getElem? (i := 562) rfl)), rfl⟩
set_option maxRecDepth 100000 in
theorem mw_322 : (Cond.selects "LossyHandshake$Server" ⟨"LossyHandshake$Side", "sendData", "(I)Z"⟩ y_Side_sendData) ∈ tW := List.mem_filter.mpr ⟨(List.mem_append_right _ (List.mem_of_getElem? (i := 563) rfl)), rfl⟩
set_option maxRecDepth 100000 in
theorem mw_323 : (Cond.methodLink "LossyHandshake" 68 y_Net_has) ∈ tW := List.mem_filter.mpr ⟨(List.mem_append_right _ (List.mem_of_getElem? (i := 573) rfl)), rfl⟩
set_option maxRecDepth 100000 in
theorem mw_324 : (Cond.instanceMethod y_Net_has) ∈ tW := List.mem_filter.mpr ⟨(List.mem_append_right _ (List.mem_of_getElem? (i := 574) rfl)), rfl⟩
set_option maxRecDepth 100000 in
theorem mw_325 : (Cond.selects "LossyHandshake$Net" y_Net_has y_Net_has) ∈ tW := List.mem_filter.mpr ⟨(List.mem_append_right _ (List.mem_of_getElem? (i := 575) rfl)), rfl⟩
set_option maxRecDepth 100000 in
theorem mw_326 : (Cond.methodLink "LossyHandshake" 71 y_Net_takeOut) ∈ tW := List.mem_filter.mpr ⟨(List.mem_append_right _ (List.mem_of_getElem? (i := 577) rfl)), rfl⟩
set_option maxRecDepth 100000 in
theorem mw_327 : (Cond.instanceMethod y_Net_takeOut) ∈ tW := List.mem_filter.mpr ⟨(List.mem_append_right _ (List.mem_of_getElem? (i := 578) rfl)), rfl⟩
set_option maxRecDepth 100000 in
theorem mw_328 : (Cond.selects "LossyHandshake$Net" y_Net_takeOut y_Net_takeOut) ∈ tW := List.mem_filter.mpr ⟨(List.mem_append_right _ (List.mem_of_getElem? (i := 579) rfl)), rfl⟩
set_option maxRecDepth 100000 in
theorem mw_329 : (Cond.methodLink "LossyHandshake" 80 ⟨"LossyHandshake$Side", "accept", "(LLossyHandshake$NetRecord;)Z"⟩) ∈ tW := List.mem_filter.mpr ⟨(List.mem_append_right _ (List.mem_of_getElem? (i := 581) rfl)), rfl⟩
set_option maxRecDepth 100000 in
theorem mw_330 : (Cond.sameMethod "LossyHandshake$Side" "LossyHandshake$Side" "accept" "(LLossyHandshake$NetRecord;)Z") ∈ tW := List.mem_filter.mpr ⟨(List.mem_append_right _ (List.mem_of_getElem? (i := 583) rfl)), rfl⟩
set_option maxRecDepth 100000 in
theorem mw_331 : (Cond.instanceMethod y_Client_accept) ∈ tW := List.mem_filter.mpr ⟨(List.mem_append_right _ (List.mem_of_getElem? (i := 585) rfl)), rfl⟩
set_option maxRecDepth 100000 in
theorem mw_332 : (Cond.selects "LossyHandshake$Client" ⟨"LossyHandshake$Side", "accept", "(LLossyHandshake$NetRecord;)Z"⟩ y_Client_accept) ∈ tW := List.mem_filter.mpr ⟨(List.mem_append_right _ (List.mem_of_getElem? (i := 584) rfl)), rfl⟩
set_option maxRecDepth 100000 in
theorem mw_333 : (Cond.instanceMethod y_Server_accept) ∈ tW := List.mem_filter.mpr ⟨(List.mem_append_right _ (List.mem_of_getElem? (i := 686) rfl)), rfl⟩
set_option maxRecDepth 100000 in
theorem mw_334 : (Cond.selects "LossyHandshake$Server" ⟨"LossyHandshake$Side", "accept", "(LLossyHandshake$NetRecord;)Z"⟩ y_Server_accept) ∈ tW := List.mem_filter.mpr ⟨(List.mem_append_right _ (List.mem_of_getElem? (i := 685) rfl)), rfl⟩
set_option maxRecDepth 100000 in
theorem mw_335 : (Cond.methodLink "LossyHandshake" 84 y_Net_appendLike) ∈ tW := List.mem_filter.mpr ⟨(List.mem_append_right _ (List.mem_of_getElem? (i := 764) rfl)), rfl⟩
set_option maxRecDepth 100000 in
theorem mw_336 : (Cond.instanceMethod y_Net_appendLike) ∈ tW := List.mem_filter.mpr ⟨(List.mem_append_right _ (List.mem_of_getElem? (i := 765) rfl)), rfl⟩
set_option maxRecDepth 100000 in
theorem mw_337 : (Cond.selects "LossyHandshake$Net" y_Net_appendLike y_Net_appendLike) ∈ tW := List.mem_filter.mpr ⟨(List.mem_append_right _ (List.mem_of_getElem? (i := 766) rfl)), rfl⟩
set_option maxRecDepth 100000 in
theorem mw_338 : (Cond.methodLink "LossyHandshake" 101 y_Rec_headline) ∈ tW := List.mem_filter.mpr ⟨(List.mem_append_right _ (List.mem_of_getElem? (i := 791) rfl)), rfl⟩
set_option maxRecDepth 100000 in
theorem mw_339 : (Cond.instanceMethod y_Rec_headline) ∈ tW := List.mem_filter.mpr ⟨(List.mem_append_right _ (List.mem_of_getElem? (i := 792) rfl)), rfl⟩
set_option maxRecDepth 100000 in
theorem mw_340 : (Cond.selects "LossyHandshake$NetRecord" y_Rec_headline y_Rec_headline) ∈ tW := List.mem_filter.mpr ⟨(List.mem_append_right _ (List.mem_of_getElem? (i := 793) rfl)), rfl⟩
set_option maxRecDepth 100000 in
theorem mw_341 : (Cond.methodLink "LossyHandshake" 105 y_Rec_summary) ∈ tW := List.mem_filter.mpr ⟨(List.mem_append_right _ (List.mem_of_getElem? (i := 801) rfl)), rfl⟩
set_option maxRecDepth 100000 in
theorem mw_342 : (Cond.instanceMethod y_Rec_summary) ∈ tW := List.mem_filter.mpr ⟨(List.mem_append_right _ (List.mem_of_getElem? (i := 802) rfl)), rfl⟩
set_option maxRecDepth 100000 in
theorem mw_343 : (Cond.selects "LossyHandshake$NetRecord" y_Rec_summary y_Rec_summary) ∈ tW := List.mem_filter.mpr ⟨(List.mem_append_right _ (List.mem_of_getElem? (i := 803) rfl)), rfl⟩
set_option maxRecDepth 100000 in
theorem mw_344 : (Cond.methodLink "LossyHandshake" 108 y_Rec_fragmentByte) ∈ tW := List.mem_filter.mpr ⟨(List.mem_append_right _ (List.mem_of_getElem? (i := 809) rfl)), rfl⟩
set_option maxRecDepth 100000 in
theorem mw_345 : (Cond.instanceMethod y_Rec_fragmentByte) ∈ tW := List.mem_filter.mpr ⟨(List.mem_append_right _ (List.mem_of_getElem? (i := 810) rfl)), rfl⟩
set_option maxRecDepth 100000 in
theorem mw_346 : (Cond.selects "LossyHandshake$NetRecord" y_Rec_fragmentByte y_Rec_fragmentByte) ∈ tW := List.mem_filter.mpr ⟨(List.mem_append_right _ (List.mem_of_getElem? (i := 811) rfl)), rfl⟩
set_option maxRecDepth 100000 in
theorem mw_347 : (Cond.methodLink "LossyHandshake" 120 y_Flight_countOpen) ∈ tW := List.mem_filter.mpr ⟨(List.mem_append_right _ (List.mem_of_getElem? (i := 825) rfl)), rfl⟩
set_option maxRecDepth 100000 in
theorem mw_348 : (Cond.methodLink "LossyHandshake" 129 y_Asm_countUntaken) ∈ tW := List.mem_filter.mpr ⟨(List.mem_append_right _ (List.mem_of_getElem? (i := 830) rfl)), rfl⟩
set_option maxRecDepth 100000 in
theorem mw_349 : (Cond.instanceMethod y_Asm_countUntaken) ∈ tW := List.mem_filter.mpr ⟨(List.mem_append_right _ (List.mem_of_getElem? (i := 831) rfl)), rfl⟩
set_option maxRecDepth 100000 in
theorem mw_350 : (Cond.selects "LossyHandshake$Assembly" y_Asm_countUntaken y_Asm_countUntaken) ∈ tW := List.mem_filter.mpr ⟨(List.mem_append_right _ (List.mem_of_getElem? (i := 832) rfl)), rfl⟩
set_option maxRecDepth 100000 in
theorem mw_351 : (Cond.methodLink "LossyHandshake" 137 ⟨"LossyHandshake$Side", "valueAt", "(I)I"⟩) ∈ tW := List.mem_filter.mpr ⟨(List.mem_append_right _ (List.mem_of_getElem? (i := 842) rfl)), rfl⟩
set_option maxRecDepth 100000 in
theorem mw_352 : (Cond.sameMethod "LossyHandshake$Side" "LossyHandshake$Side" "valueAt" "(I)I") ∈ tW := List.mem_filter.mpr ⟨(List.mem_append_right _ (List.mem_of_getElem? (i := 844) rfl)), rfl⟩
set_option maxRecDepth 100000 in
theorem mw_353 : (Cond.instanceMethod y_Side_valueAt) ∈ tW := List.mem_filter.mpr ⟨(List.mem_append_right _ (List.mem_of_getElem? (i := 843) rfl)), rfl⟩
set_option maxRecDepth 100000 in
theorem mw_354 : (Cond.selects "LossyHandshake$Client" ⟨"LossyHandshake$Side", "valueAt", "(I)I"⟩ y_Side_valueAt) ∈ tW := List.mem_filter.mpr ⟨(List.mem_append_right _ (List.mem_of_getElem? (i := 845) rfl)), rfl⟩
set_option maxRecDepth 100000 in
theorem mw_355 : (Cond.selects "LossyHandshake$Server" ⟨"LossyHandshake$Side", "valueAt", "(I)I"⟩ y_Side_valueAt) ∈ tW := List.mem_filter.mpr ⟨(List.mem_append_right _ (List.mem_of_getElem? (i := 846) rfl)), rfl⟩
set_option maxRecDepth 100000 in
theorem mw_356 : (Cond.constant "LossyHandshakeModel" 140 (739982445)) ∈ tW := List.mem_filter.mpr ⟨(List.mem_append_right _ (List.mem_of_getElem? (i := 860) rfl)), rfl⟩
set_option maxRecDepth 100000 in
theorem mw_357 : (Cond.methodLink "LossyHandshakeModel" 141 y_Mo_byteAt) ∈ tW := List.mem_filter.mpr ⟨(List.mem_append_right _ (List.mem_of_getElem? (i := 873) rfl)), rfl⟩
set_option maxRecDepth 100000 in
theorem mw_358 : (Cond.static y_Mo_byteAt) ∈ tW := List.mem_filter.mpr ⟨(List.mem_append_right _ (List.mem_of_getElem? (i := 874) rfl)), rfl⟩
set_option maxRecDepth 100000 in
theorem mw_359 : (Cond.methodLink "LossyHandshakeModel" 117 y_Mo_mix) ∈ tW := List.mem_filter.mpr ⟨(List.mem_append_right _ (List.mem_of_getElem? (i := 857) rfl)), rfl⟩
set_option maxRecDepth 100000 in
theorem mw_360 : (Cond.static y_Mo_mix) ∈ tW := List.mem_filter.mpr ⟨(List.mem_append_right _ (List.mem_of_getElem? (i := 858) rfl)), rfl⟩
set_option maxRecDepth 100000 in
theorem mw_361 : (Cond.methodLink "LossyHandshakeModel" 144 y_Mo_sizeOf) ∈ tW := List.mem_filter.mpr ⟨(List.mem_append_right _ (List.mem_of_getElem? (i := 865) rfl)), rfl⟩
set_option maxRecDepth 100000 in
theorem mw_362 : (Cond.instanceMethod y_Mo_sizeOf) ∈ tW := List.mem_filter.mpr ⟨(List.mem_append_right _ (List.mem_of_getElem? (i := 867) rfl)), rfl⟩
set_option maxRecDepth 100000 in
theorem mw_363 : (Cond.selects "LossyHandshakeModel" y_Mo_sizeOf y_Mo_sizeOf) ∈ tW := List.mem_filter.mpr ⟨(List.mem_append_left _ (List.mem_of_getElem? (i := 2) rfl)), rfl⟩
set_option maxRecDepth 100000 in
theorem mw_364 : (Cond.methodLink "LossyHandshakeModel" 147 y_Mo_content2) ∈ tW := List.mem_filter.mpr ⟨(List.mem_append_right _ (List.mem_of_getElem? (i := 869) rfl)), rfl⟩
set_option maxRecDepth 100000 in
theorem mw_365 : (Cond.instanceMethod y_Mo_content2) ∈ tW := List.mem_filter.mpr ⟨(List.mem_append_right _ (List.mem_of_getElem? (i := 871) rfl)), rfl⟩
set_option maxRecDepth 100000 in
theorem mw_366 : (Cond.selects "LossyHandshakeModel" y_Mo_content2 y_Mo_content2) ∈ tW := List.mem_filter.mpr ⟨(List.mem_append_left _ (List.mem_of_getElem? (i := 3) rfl)), rfl⟩
set_option maxRecDepth 100000 in
theorem mw_367 : (Cond.methodLink "LossyHandshakeModel" 1 Lib.objectInit) ∈ tW := List.mem_filter.mpr ⟨(List.mem_append_right _ (List.mem_of_getElem? (i := 856) rfl)), rfl⟩
set_option maxRecDepth 100000 in
theorem mw_368 : (Cond.arrayClass .boolean) ∈ tW := List.mem_filter.mpr ⟨(List.mem_append_right _ (List.mem_of_getElem? (i := 1009) rfl)), rfl⟩
set_option maxRecDepth 100000 in
theorem mw_369 : (Cond.methodLink "LossyHandshakeModel" 130 y_Mo_told) ∈ tW := List.mem_filter.mpr ⟨(List.mem_append_right _ (List.mem_of_getElem? (i := 861) rfl)), rfl⟩
set_option maxRecDepth 100000 in
theorem mw_370 : (Cond.instanceMethod y_Mo_told) ∈ tW := List.mem_filter.mpr ⟨(List.mem_append_right _ (List.mem_of_getElem? (i := 863) rfl)), rfl⟩
set_option maxRecDepth 100000 in
theorem mw_371 : (Cond.selects "LossyHandshakeModel" y_Mo_told y_Mo_told) ∈ tW := List.mem_filter.mpr ⟨(List.mem_append_left _ (List.mem_of_getElem? (i := 1) rfl)), rfl⟩
set_option maxRecDepth 100000 in
theorem mw_372 : (Cond.methodLink "LossyHandshakeModel" 167 y_Mo_put) ∈ tW := List.mem_filter.mpr ⟨(List.mem_append_right _ (List.mem_of_getElem? (i := 1046) rfl)), rfl⟩
set_option maxRecDepth 100000 in
theorem mw_373 : (Cond.instanceMethod y_Mo_put) ∈ tW := List.mem_filter.mpr ⟨(List.mem_append_right _ (List.mem_of_getElem? (i := 1048) rfl)), rfl⟩
set_option maxRecDepth 100000 in
theorem mw_374 : (Cond.selects "LossyHandshakeModel" y_Mo_put y_Mo_put) ∈ tW := List.mem_filter.mpr ⟨(List.mem_append_left _ (List.mem_of_getElem? (i := 9) rfl)), rfl⟩
set_option maxRecDepth 100000 in
theorem mw_375 : (Cond.methodLink "LossyHandshakeModel" 171 y_Mo_sendPiece) ∈ tW := List.mem_filter.mpr ⟨(List.mem_append_right _ (List.mem_of_getElem? (i := 1042) rfl)), rfl⟩
set_option maxRecDepth 100000 in
theorem mw_376 : (Cond.instanceMethod y_Mo_sendPiece) ∈ tW := List.mem_filter.mpr ⟨(List.mem_append_right _ (List.mem_of_getElem? (i := 1044) rfl)), rfl⟩
set_option maxRecDepth 100000 in
theorem mw_377 : (Cond.selects "LossyHandshakeModel" y_Mo_sendPiece y_Mo_sendPiece) ∈ tW := List.mem_filter.mpr ⟨(List.mem_append_left _ (List.mem_of_getElem? (i := 8) rfl)), rfl⟩
set_option maxRecDepth 100000 in
theorem mw_378 : (Cond.methodLink "LossyHandshakeModel" 181 y_Mo_become) ∈ tW := List.mem_filter.mpr ⟨(List.mem_append_right _ (List.mem_of_getElem? (i := 1034) rfl)), rfl⟩
set_option maxRecDepth 100000 in
theorem mw_379 : (Cond.instanceMethod y_Mo_become) ∈ tW := List.mem_filter.mpr ⟨(List.mem_append_right _ (List.mem_of_getElem? (i := 1036) rfl)), rfl⟩
set_option maxRecDepth 100000 in
theorem mw_380 : (Cond.selects "LossyHandshakeModel" y_Mo_become y_Mo_become) ∈ tW := List.mem_filter.mpr ⟨(List.mem_append_left _ (List.mem_of_getElem? (i := 6) rfl)), rfl⟩
set_option maxRecDepth 100000 in
theorem mw_381 : (Cond.methodLink "LossyHandshakeModel" 184 y_Mo_fly) ∈ tW := List.mem_filter.mpr ⟨(List.mem_append_right _ (List.mem_of_getElem? (i := 1038) rfl)), rfl⟩
set_option maxRecDepth 100000 in
theorem mw_382 : (Cond.instanceMethod y_Mo_fly) ∈ tW := List.mem_filter.mpr ⟨(List.mem_append_right _ (List.mem_of_getElem? (i := 1040) rfl)), rfl⟩
set_option maxRecDepth 100000 in
theorem mw_383 : (Cond.selects "LossyHandshakeModel" y_Mo_fly y_Mo_fly) ∈ tW := List.mem_filter.mpr ⟨(List.mem_append_left _ (List.mem_of_getElem? (i := 7) rfl)), rfl⟩
set_option maxRecDepth 100000 in
theorem mw_384 : (Cond.methodLink "LossyHandshakeModel" 177 y_Mo_writes) ∈ tW := List.mem_filter.mpr ⟨(List.mem_append_right _ (List.mem_of_getElem? (i := 1062) rfl)), rfl⟩
set_option maxRecDepth 100000 in
theorem mw_385 : (Cond.instanceMethod y_Mo_writes) ∈ tW := List.mem_filter.mpr ⟨(List.mem_append_right _ (List.mem_of_getElem? (i := 1064) rfl)), rfl⟩
set_option maxRecDepth 100000 in
theorem mw_386 : (Cond.selects "LossyHandshakeModel" y_Mo_writes y_Mo_writes) ∈ tW := List.mem_filter.mpr ⟨(List.mem_append_left _ (List.mem_of_getElem? (i := 12) rfl)), rfl⟩
set_option maxRecDepth 100000 in
theorem mw_387 : (Cond.methodLink "LossyHandshakeModel" 188 y_Mo_sendAck) ∈ tW := List.mem_filter.mpr ⟨(List.mem_append_right _ (List.mem_of_getElem? (i := 1058) rfl)), rfl⟩
set_option maxRecDepth 100000 in
theorem mw_388 : (Cond.instanceMethod y_Mo_sendAck) ∈ tW := List.mem_filter.mpr ⟨(List.mem_append_right _ (List.mem_of_getElem? (i := 1060) rfl)), rfl⟩
set_option maxRecDepth 100000 in
theorem mw_389 : (Cond.selects "LossyHandshakeModel" y_Mo_sendAck y_Mo_sendAck) ∈ tW := List.mem_filter.mpr ⟨(List.mem_append_left _ (List.mem_of_getElem? (i := 11) rfl)), rfl⟩
set_option maxRecDepth 100000 in
theorem mw_390 : (Cond.methodLink "LossyHandshakeModel" 192 y_Mo_openOf) ∈ tW := List.mem_filter.mpr ⟨(List.mem_append_right _ (List.mem_of_getElem? (i := 1066) rfl)), rfl⟩
set_option maxRecDepth 100000 in
theorem mw_391 : (Cond.instanceMethod y_Mo_openOf) ∈ tW := List.mem_filter.mpr ⟨(List.mem_append_right _ (List.mem_of_getElem? (i := 1068) rfl)), rfl⟩
set_option maxRecDepth 100000 in
theorem mw_392 : (Cond.selects "LossyHandshakeModel" y_Mo_openOf y_Mo_openOf) ∈ tW := List.mem_filter.mpr ⟨(List.mem_append_left _ (List.mem_of_getElem? (i := 13) rfl)), rfl⟩
set_option maxRecDepth 100000 in
theorem mw_393 : (Cond.methodLink "LossyHandshakeModel" 195 y_Mo_pass) ∈ tW := List.mem_filter.mpr ⟨(List.mem_append_right _ (List.mem_of_getElem? (i := 1054) rfl)), rfl⟩
set_option maxRecDepth 100000 in
theorem mw_394 : (Cond.instanceMethod y_Mo_pass) ∈ tW := List.mem_filter.mpr ⟨(List.mem_append_right _ (List.mem_of_getElem? (i := 1056) rfl)), rfl⟩
set_option maxRecDepth 100000 in
theorem mw_395 : (Cond.selects "LossyHandshakeModel" y_Mo_pass y_Mo_pass) ∈ tW := List.mem_filter.mpr ⟨(List.mem_append_left _ (List.mem_of_getElem? (i := 10) rfl)), rfl⟩
set_option maxRecDepth 100000 in
theorem mw_396 : (Cond.methodLink "LossyHandshakeModel" 159 y_Mo_isRecord) ∈ tW := List.mem_filter.mpr ⟨(List.mem_append_right _ (List.mem_of_getElem? (i := 1014) rfl)), rfl⟩
set_option maxRecDepth 100000 in
theorem mw_397 : (Cond.instanceMethod y_Mo_isRecord) ∈ tW := List.mem_filter.mpr ⟨(List.mem_append_right _ (List.mem_of_getElem? (i := 1016) rfl)), rfl⟩
set_option maxRecDepth 100000 in
theorem mw_398 : (Cond.selects "LossyHandshakeModel" y_Mo_isRecord y_Mo_isRecord) ∈ tW := List.mem_filter.mpr ⟨(List.mem_append_left _ (List.mem_of_getElem? (i := 4) rfl)), rfl⟩
set_option maxRecDepth 100000 in
theorem mw_399 : (Cond.methodLink "LossyHandshakeModel" 163 y_Mo_copyTo) ∈ tW := List.mem_filter.mpr ⟨(List.mem_append_right _ (List.mem_of_getElem? (i := 1018) rfl)), rfl⟩
set_option maxRecDepth 100000 in
theorem mw_400 : (Cond.instanceMethod y_Mo_copyTo) ∈ tW := List.mem_filter.mpr ⟨(List.mem_append_right _ (List.mem_of_getElem? (i := 1020) rfl)), rfl⟩
set_option maxRecDepth 100000 in
theorem mw_401 : (Cond.selects "LossyHandshakeModel" y_Mo_copyTo y_Mo_copyTo) ∈ tW := List.mem_filter.mpr ⟨(List.mem_append_left _ (List.mem_of_getElem? (i := 5) rfl)), rfl⟩
set_option maxRecDepth 100000 in
theorem mw_402 : (Cond.methodLink "LossyHandshakeModel" 198 y_Mo_retry) ∈ tW := List.mem_filter.mpr ⟨(List.mem_append_right _ (List.mem_of_getElem? (i := 1095) rfl)), rfl⟩
set_option maxRecDepth 100000 in
theorem mw_403 : (Cond.instanceMethod y_Mo_retry) ∈ tW := List.mem_filter.mpr ⟨(List.mem_append_right _ (List.mem_of_getElem? (i := 1097) rfl)), rfl⟩
set_option maxRecDepth 100000 in
theorem mw_404 : (Cond.selects "LossyHandshakeModel" y_Mo_retry y_Mo_retry) ∈ tW := List.mem_filter.mpr ⟨(List.mem_append_left _ (List.mem_of_getElem? (i := 18) rfl)), rfl⟩
set_option maxRecDepth 100000 in
theorem mw_405 : (Cond.methodLink "LossyHandshakeModel" 201 y_Mo_let) ∈ tW := List.mem_filter.mpr ⟨(List.mem_append_right _ (List.mem_of_getElem? (i := 1099) rfl)), rfl⟩
set_option maxRecDepth 100000 in
theorem mw_406 : (Cond.instanceMethod y_Mo_let) ∈ tW := List.mem_filter.mpr ⟨(List.mem_append_right _ (List.mem_of_getElem? (i := 1101) rfl)), rfl⟩
set_option maxRecDepth 100000 in
theorem mw_407 : (Cond.selects "LossyHandshakeModel" y_Mo_let y_Mo_let) ∈ tW := List.mem_filter.mpr ⟨(List.mem_append_left _ (List.mem_of_getElem? (i := 19) rfl)), rfl⟩
set_option maxRecDepth 100000 in
theorem mw_408 : (Cond.methodLink "LossyHandshakeModel" 204 y_Mo_isWhole) ∈ tW := List.mem_filter.mpr ⟨(List.mem_append_right _ (List.mem_of_getElem? (i := 1115) rfl)), rfl⟩
set_option maxRecDepth 100000 in
theorem mw_409 : (Cond.instanceMethod y_Mo_isWhole) ∈ tW := List.mem_filter.mpr ⟨(List.mem_append_right _ (List.mem_of_getElem? (i := 1117) rfl)), rfl⟩
set_option maxRecDepth 100000 in
theorem mw_410 : (Cond.selects "LossyHandshakeModel" y_Mo_isWhole y_Mo_isWhole) ∈ tW := List.mem_filter.mpr ⟨(List.mem_append_left _ (List.mem_of_getElem? (i := 23) rfl)), rfl⟩
set_option maxRecDepth 100000 in
theorem mw_411 : (Cond.methodLink "LossyHandshakeModel" 207 y_Mo_note) ∈ tW := List.mem_filter.mpr ⟨(List.mem_append_right _ (List.mem_of_getElem? (i := 1107) rfl)), rfl⟩
set_option maxRecDepth 100000 in
theorem mw_412 : (Cond.instanceMethod y_Mo_note) ∈ tW := List.mem_filter.mpr ⟨(List.mem_append_right _ (List.mem_of_getElem? (i := 1109) rfl)), rfl⟩
set_option maxRecDepth 100000 in
theorem mw_413 : (Cond.selects "LossyHandshakeModel" y_Mo_note y_Mo_note) ∈ tW := List.mem_filter.mpr ⟨(List.mem_append_left _ (List.mem_of_getElem? (i := 21) rfl)), rfl⟩
set_option maxRecDepth 100000 in
theorem mw_414 : (Cond.methodLink "LossyHandshakeModel" 210 y_Mo_gather) ∈ tW := List.mem_filter.mpr ⟨(List.mem_append_right _ (List.mem_of_getElem? (i := 1111) rfl)), rfl⟩
set_option maxRecDepth 100000 in
theorem mw_415 : (Cond.instanceMethod y_Mo_gather) ∈ tW := List.mem_filter.mpr ⟨(List.mem_append_right _ (List.mem_of_getElem? (i := 1113) rfl)), rfl⟩
set_option maxRecDepth 100000 in
theorem mw_416 : (Cond.selects "LossyHandshakeModel" y_Mo_gather y_Mo_gather) ∈ tW := List.mem_filter.mpr ⟨(List.mem_append_left _ (List.mem_of_getElem? (i := 22) rfl)), rfl⟩
set_option maxRecDepth 100000 in
theorem mw_417 : (Cond.methodLink "LossyHandshakeModel" 223 y_Mo_drop) ∈ tW := List.mem_filter.mpr ⟨(List.mem_append_right _ (List.mem_of_getElem? (i := 1090) rfl)), rfl⟩
set_option maxRecDepth 100000 in
theorem mw_418 : (Cond.instanceMethod y_Mo_drop) ∈ tW := List.mem_filter.mpr ⟨(List.mem_append_right _ (List.mem_of_getElem? (i := 1011) rfl)), rfl⟩
set_option maxRecDepth 100000 in
theorem mw_419 : (Cond.selects "LossyHandshakeModel" y_Mo_drop y_Mo_drop) ∈ tW := List.mem_filter.mpr ⟨(List.mem_append_right _ (List.mem_of_getElem? (i := 1012) rfl)), rfl⟩
set_option maxRecDepth 100000 in
theorem mw_420 : (Cond.methodLink "LossyHandshakeModel" 226 y_Mo_welcome) ∈ tW := List.mem_filter.mpr ⟨(List.mem_append_right _ (List.mem_of_getElem? (i := 1091) rfl)), rfl⟩
set_option maxRecDepth 100000 in
theorem mw_421 : (Cond.instanceMethod y_Mo_welcome) ∈ tW := List.mem_filter.mpr ⟨(List.mem_append_right _ (List.mem_of_getElem? (i := 1093) rfl)), rfl⟩
set_option maxRecDepth 100000 in
theorem mw_422 : (Cond.selects "LossyHandshakeModel" y_Mo_welcome y_Mo_welcome) ∈ tW := List.mem_filter.mpr ⟨(List.mem_append_left _ (List.mem_of_getElem? (i := 17) rfl)), rfl⟩
set_option maxRecDepth 100000 in
theorem mw_423 : (Cond.methodLink "LossyHandshakeModel" 229 y_Mo_takeFragment) ∈ tW := List.mem_filter.mpr ⟨(List.mem_append_right _ (List.mem_of_getElem? (i := 1103) rfl)), rfl⟩
set_option maxRecDepth 100000 in
theorem mw_424 : (Cond.instanceMethod y_Mo_takeFragment) ∈ tW := List.mem_filter.mpr ⟨(List.mem_append_right _ (List.mem_of_getElem? (i := 1105) rfl)), rfl⟩
set_option maxRecDepth 100000 in
theorem mw_425 : (Cond.selects "LossyHandshakeModel" y_Mo_takeFragment y_Mo_takeFragment) ∈ tW := List.mem_filter.mpr ⟨(List.mem_append_left _ (List.mem_of_getElem? (i := 20) rfl)), rfl⟩
set_option maxRecDepth 100000 in
theorem mw_426 : (Cond.methodLink "LossyHandshakeModel" 220 y_Mo_close) ∈ tW := List.mem_filter.mpr ⟨(List.mem_append_right _ (List.mem_of_getElem? (i := 1086) rfl)), rfl⟩
set_option maxRecDepth 100000 in
theorem mw_427 : (Cond.instanceMethod y_Mo_close) ∈ tW := List.mem_filter.mpr ⟨(List.mem_append_right _ (List.mem_of_getElem? (i := 1088) rfl)), rfl⟩
set_option maxRecDepth 100000 in
theorem mw_428 : (Cond.selects "LossyHandshakeModel" y_Mo_close y_Mo_close) ∈ tW := List.mem_filter.mpr ⟨(List.mem_append_left _ (List.mem_of_getElem? (i := 16) rfl)), rfl⟩
set_option maxRecDepth 100000 in
theorem mw_429 : (Cond.methodLink "LossyHandshakeModel" 213 y_Mo_reads) ∈ tW := List.mem_filter.mpr ⟨(List.mem_append_right _ (List.mem_of_getElem? (i := 1078) rfl)), rfl⟩
set_option maxRecDepth 100000 in
theorem mw_430 : (Cond.instanceMethod y_Mo_reads) ∈ tW := List.mem_filter.mpr ⟨(List.mem_append_right _ (List.mem_of_getElem? (i := 1080) rfl)), rfl⟩
set_option maxRecDepth 100000 in
theorem mw_431 : (Cond.selects "LossyHandshakeModel" y_Mo_reads y_Mo_reads) ∈ tW := List.mem_filter.mpr ⟨(List.mem_append_left _ (List.mem_of_getElem? (i := 14) rfl)), rfl⟩
set_option maxRecDepth 100000 in
theorem mw_432 : (Cond.methodLink "LossyHandshakeModel" 216 y_Mo_isOld) ∈ tW := List.mem_filter.mpr ⟨(List.mem_append_right _ (List.mem_of_getElem? (i := 1082) rfl)), rfl⟩
set_option maxRecDepth 100000 in
theorem mw_433 : (Cond.instanceMethod y_Mo_isOld) ∈ tW := List.mem_filter.mpr ⟨(List.mem_append_right _ (List.mem_of_getElem? (i := 1084) rfl)), rfl⟩
set_option maxRecDepth 100000 in
theorem mw_434 : (Cond.selects "LossyHandshakeModel" y_Mo_isOld y_Mo_isOld) ∈ tW := List.mem_filter.mpr ⟨(List.mem_append_left _ (List.mem_of_getElem? (i := 15) rfl)), rfl⟩
set_option maxRecDepth 100000 in
theorem mw_435 : (Cond.constant "LossyHandshakeModel" 233 (1000000)) ∈ tW := List.mem_filter.mpr ⟨(List.mem_append_right _ (List.mem_of_getElem? (i := 1131) rfl)), rfl⟩
set_option maxRecDepth 100000 in
theorem mw_436 : (Cond.constant "LossyHandshakeModel" 234 (100000)) ∈ tW := List.mem_filter.mpr ⟨(List.mem_append_right _ (List.mem_of_getElem? (i := 1132) rfl)), rfl⟩
set_option maxRecDepth 100000 in
theorem mw_437 : (Cond.methodLink "LossyHandshakeModel" 235 y_Mo_numberOf) ∈ tW := List.mem_filter.mpr ⟨(List.mem_append_right _ (List.mem_of_getElem? (i := 1137) rfl)), rfl⟩
set_option maxRecDepth 100000 in
theorem mw_438 : (Cond.static y_Mo_numberOf) ∈ tW := List.mem_filter.mpr ⟨(List.mem_append_right _ (List.mem_of_getElem? (i := 1138) rfl)), rfl⟩
set_option maxRecDepth 100000 in
theorem mw_439 : (Cond.methodLink "LossyHandshakeModel" 238 y_Mo_noSide) ∈ tW := List.mem_filter.mpr ⟨(List.mem_append_right _ (List.mem_of_getElem? (i := 1148) rfl)), rfl⟩
set_option maxRecDepth 100000 in
theorem mw_440 : (Cond.static y_Mo_noSide) ∈ tW := List.mem_filter.mpr ⟨(List.mem_append_right _ (List.mem_of_getElem? (i := 1149) rfl)), rfl⟩
set_option maxRecDepth 100000 in
theorem mw_441 : (Cond.fieldLink "LossyHandshake$Assembly" 9 "LossyHandshake$Assembly" "starts" "[I") ∈ tW := List.mem_filter.mpr ⟨(List.mem_append_right _ (List.mem_of_getElem? (i := 254) rfl)), rfl⟩
set_option maxRecDepth 100000 in
theorem mw_442 : (Cond.fieldLink "LossyHandshake$Assembly" 15 "LossyHandshake$Assembly" "next" "I") ∈ tW := List.mem_filter.mpr ⟨(List.mem_append_right _ (List.mem_of_getElem? (i := 257) rfl)), rfl⟩
set_option maxRecDepth 100000 in
theorem mw_443 : (Cond.fieldLink "LossyHandshake$Assembly" 19 "LossyHandshake$Assembly" "bytes" "[I") ∈ tW := List.mem_filter.mpr ⟨(List.mem_append_right _ (List.mem_of_getElem? (i := 255) rfl)), rfl⟩
set_option maxRecDepth 100000 in
theorem mw_444 : (Cond.fieldLink "LossyHandshake$Assembly" 22 "LossyHandshake$NetRecord" "message" "I") ∈ tW := List.mem_filter.mpr ⟨(List.mem_append_right _ (List.mem_of_getElem? (i := 62) rfl)), rfl⟩
set_option maxRecDepth 100000 in
theorem mw_445 : (Cond.fieldLink "LossyHandshake$Assembly" 31 "LossyHandshake$NetRecord" "offset" "I") ∈ tW := List.mem_filter.mpr ⟨(List.mem_append_right _ (List.mem_of_getElem? (i := 66) rfl)), rfl⟩
set_option maxRecDepth 100000 in
theorem mw_446 : (Cond.fieldLink "LossyHandshake$Assembly" 34 "LossyHandshake$NetRecord" "length" "I") ∈ tW := List.mem_filter.mpr ⟨(List.mem_append_right _ (List.mem_of_getElem? (i := 47) rfl)), rfl⟩
set_option maxRecDepth 100000 in
theorem mw_447 : (Cond.fieldLink "LossyHandshake$Assembly" 37 "LossyHandshake$NetRecord" "load" "[I") ∈ tW := List.mem_filter.mpr ⟨(List.mem_append_right _ (List.mem_of_getElem? (i := 43) rfl)), rfl⟩
set_option maxRecDepth 100000 in
theorem mw_448 : (Cond.fieldLink "LossyHandshake$Noted" 9 "LossyHandshake$Noted" "names" "[I") ∈ tW := List.mem_filter.mpr ⟨(List.mem_append_right _ (List.mem_of_getElem? (i := 129) rfl)), rfl⟩
set_option maxRecDepth 100000 in
theorem mw_449 : (Cond.fieldLink "LossyHandshake$Fragment" 9 "LossyHandshake$Fragment" "bytes" "[I") ∈ tW := List.mem_filter.mpr ⟨(List.mem_append_right _ (List.mem_of_getElem? (i := 153) rfl)), rfl⟩
set_option maxRecDepth 100000 in
theorem mw_450 : (Cond.fieldLink "LossyHandshake$Fragment" 15 "LossyHandshake$Fragment" "sentIn" "[I") ∈ tW := List.mem_filter.mpr ⟨(List.mem_append_right _ (List.mem_of_getElem? (i := 155) rfl)), rfl⟩
set_option maxRecDepth 100000 in
theorem mw_451 : (Cond.fieldLink "LossyHandshake$Flight" 11 "LossyHandshake$Flight" "fragments" "[LLossyHandshake$Fragment;") ∈ tW := List.mem_filter.mpr ⟨(List.mem_append_right _ (List.mem_of_getElem? (i := 185) rfl)), rfl⟩
set_option maxRecDepth 100000 in
theorem mw_452 : (Cond.fieldLink "LossyHandshake$Window" 9 "LossyHandshake$Window" "greatest" "I") ∈ tW := List.mem_filter.mpr ⟨(List.mem_append_right _ (List.mem_of_getElem? (i := 209) rfl)), rfl⟩
set_option maxRecDepth 100000 in
theorem mw_453 : (Cond.fieldLink "LossyHandshake$Side" 12 "LossyHandshake$Side" "noted" "LLossyHandshake$Noted;") ∈ tW := List.mem_filter.mpr ⟨(List.mem_append_right _ (List.mem_of_getElem? (i := 289) rfl)), rfl⟩
set_option maxRecDepth 100000 in
theorem mw_454 : (Cond.fieldLink "LossyHandshake$Side" 20 "LossyHandshake$Side" "windows" "[LLossyHandshake$Window;") ∈ tW := List.mem_filter.mpr ⟨(List.mem_append_right _ (List.mem_of_getElem? (i := 294) rfl)), rfl⟩
set_option maxRecDepth 100000 in
theorem mw_455 : (Cond.fieldLink "LossyHandshake$Side" 24 "LossyHandshake$Side" "nextNumbers" "[I") ∈ tW := List.mem_filter.mpr ⟨(List.mem_append_right _ (List.mem_of_getElem? (i := 295) rfl)), rfl⟩
set_option maxRecDepth 100000 in
theorem mw_456 : (Cond.fieldLink "LossyHandshake$Side" 28 "LossyHandshake$Side" "values" "[I") ∈ tW := List.mem_filter.mpr ⟨(List.mem_append_right _ (List.mem_of_getElem? (i := 298) rfl)), rfl⟩
set_option maxRecDepth 100000 in
theorem mw_457 : (Cond.fieldLink "LossyHandshake$Side" 31 "LossyHandshake$Side" "writes" "I") ∈ tW := List.mem_filter.mpr ⟨(List.mem_append_right _ (List.mem_of_getElem? (i := 314) rfl)), rfl⟩
set_option maxRecDepth 100000 in
theorem mw_458 : (Cond.fieldLink "LossyHandshake$Side" 35 "LossyHandshake$Side" "reads" "I") ∈ tW := List.mem_filter.mpr ⟨(List.mem_append_right _ (List.mem_of_getElem? (i := 319) rfl)), rfl⟩
set_option maxRecDepth 100000 in
theorem mw_459 : (Cond.fieldLink "LossyHandshake$Side" 38 "LossyHandshake$Side" "self" "I") ∈ tW := List.mem_filter.mpr ⟨(List.mem_append_right _ (List.mem_of_getElem? (i := 272) rfl)), rfl⟩
set_option maxRecDepth 100000 in
theorem mw_460 : (Cond.fieldLink "LossyHandshake$Side" 41 "LossyHandshake$Side" "mtu" "I") ∈ tW := List.mem_filter.mpr ⟨(List.mem_append_right _ (List.mem_of_getElem? (i := 275) rfl)), rfl⟩
set_option maxRecDepth 100000 in
theorem mw_461 : (Cond.fieldLink "LossyHandshake$Side" 44 "LossyHandshake$Side" "net" "LLossyHandshake$Net;") ∈ tW := List.mem_filter.mpr ⟨(List.mem_append_right _ (List.mem_of_getElem? (i := 280) rfl)), rfl⟩
set_option maxRecDepth 100000 in
theorem mw_462 : (Cond.fieldLink "LossyHandshake$Side" 53 "LossyHandshake$Side" "flight" "LLossyHandshake$Flight;") ∈ tW := List.mem_filter.mpr ⟨(List.mem_append_right _ (List.mem_of_getElem? (i := 283) rfl)), rfl⟩
set_option maxRecDepth 100000 in
theorem mw_463 : (Cond.fieldLink "LossyHandshake$Message" 9 "LossyHandshake$Message" "number" "I") ∈ tW := List.mem_filter.mpr ⟨(List.mem_append_right _ (List.mem_of_getElem? (i := 222) rfl)), rfl⟩
set_option maxRecDepth 100000 in
theorem mw_464 : (Cond.fieldLink "LossyHandshake$Message" 15 "LossyHandshake$Message" "epoch" "I") ∈ tW := List.mem_filter.mpr ⟨(List.mem_append_right _ (List.mem_of_getElem? (i := 224) rfl)), rfl⟩
set_option maxRecDepth 100000 in
theorem mw_465 : (Cond.fieldLink "LossyHandshake$Message" 18 "LossyHandshake$Message" "bytes" "[I") ∈ tW := List.mem_filter.mpr ⟨(List.mem_append_right _ (List.mem_of_getElem? (i := 226) rfl)), rfl⟩
set_option maxRecDepth 100000 in
theorem mw_466 : (Cond.fieldLink "LossyHandshake$Client" 14 "LossyHandshake$Client" "hello" "LLossyHandshake$Message;") ∈ tW := List.mem_filter.mpr ⟨(List.mem_append_right _ (List.mem_of_getElem? (i := 267) rfl)), rfl⟩
set_option maxRecDepth 100000 in
theorem mw_467 : (Cond.fieldLink "LossyHandshake$Client" 20 "LossyHandshake$Client" "helloAgain" "LLossyHandshake$Message;") ∈ tW := List.mem_filter.mpr ⟨(List.mem_append_right _ (List.mem_of_getElem? (i := 268) rfl)), rfl⟩
set_option maxRecDepth 100000 in
theorem mw_468 : (Cond.fieldLink "LossyHandshake$Client" 23 "LossyHandshake$Client" "done" "LLossyHandshake$Message;") ∈ tW := List.mem_filter.mpr ⟨(List.mem_append_right _ (List.mem_of_getElem? (i := 269) rfl)), rfl⟩
set_option maxRecDepth 100000 in
theorem mw_469 : (Cond.fieldLink "LossyHandshake$Client" 30 "LossyHandshake$Client" "ownNumber" "I") ∈ tW := List.mem_filter.mpr ⟨(List.mem_append_right _ (List.mem_of_getElem? (i := 266) rfl)), rfl⟩
set_option maxRecDepth 100000 in
theorem mw_470 : (Cond.fieldLink "LossyHandshake$Client" 42 "LossyHandshake$Client" "assembly" "LLossyHandshake$Assembly;") ∈ tW := List.mem_filter.mpr ⟨(List.mem_append_right _ (List.mem_of_getElem? (i := 270) rfl)), rfl⟩
set_option maxRecDepth 100000 in
theorem mw_471 : (Cond.fieldLink "LossyHandshake$Side" 64 "LossyHandshake$Side" "transcript" "I") ∈ tW := List.mem_filter.mpr ⟨(List.mem_append_right _ (List.mem_of_getElem? (i := 308) rfl)), rfl⟩
set_option maxRecDepth 100000 in
theorem mw_472 : (Cond.fieldLink "LossyHandshake$Side" 67 "LossyHandshake$Message" "bytes" "[I") ∈ tW := List.mem_filter.mpr ⟨(List.mem_append_right _ (List.mem_of_getElem? (i := 230) rfl)), rfl⟩
set_option maxRecDepth 100000 in
theorem mw_473 : (Cond.fieldLink "LossyHandshake$Flight" 18 "LossyHandshake$Flight" "count" "I") ∈ tW := List.mem_filter.mpr ⟨(List.mem_append_right _ (List.mem_of_getElem? (i := 187) rfl)), rfl⟩
set_option maxRecDepth 100000 in
theorem mw_474 : (Cond.fieldLink "LossyHandshake$Flight" 22 "LossyHandshake$Flight" "waitLength" "I") ∈ tW := List.mem_filter.mpr ⟨(List.mem_append_right _ (List.mem_of_getElem? (i := 189) rfl)), rfl⟩
set_option maxRecDepth 100000 in
theorem mw_475 : (Cond.fieldLink "LossyHandshake$Flight" 25 "LossyHandshake$Flight" "ticksLeft" "I") ∈ tW := List.mem_filter.mpr ⟨(List.mem_append_right _ (List.mem_of_getElem? (i := 190) rfl)), rfl⟩
set_option maxRecDepth 100000 in
theorem mw_476 : (Cond.fieldLink "LossyHandshake$Flight" 28 "LossyHandshake$Flight" "resends" "I") ∈ tW := List.mem_filter.mpr ⟨(List.mem_append_right _ (List.mem_of_getElem? (i := 191) rfl)), rfl⟩
set_option maxRecDepth 100000 in
theorem mw_477 : (Cond.fieldLink "LossyHandshake$Fragment" 18 "LossyHandshake$Message" "number" "I") ∈ tW := List.mem_filter.mpr ⟨(List.mem_append_right _ (List.mem_of_getElem? (i := 223) rfl)), rfl⟩
set_option maxRecDepth 100000 in
theorem mw_478 : (Cond.fieldLink "LossyHandshake$Fragment" 24 "LossyHandshake$Fragment" "message" "I") ∈ tW := List.mem_filter.mpr ⟨(List.mem_append_right _ (List.mem_of_getElem? (i := 156) rfl)), rfl⟩
set_option maxRecDepth 100000 in
theorem mw_479 : (Cond.fieldLink "LossyHandshake$Fragment" 27 "LossyHandshake$Message" "epoch" "I") ∈ tW := List.mem_filter.mpr ⟨(List.mem_append_right _ (List.mem_of_getElem? (i := 225) rfl)), rfl⟩
set_option maxRecDepth 100000 in
theorem mw_480 : (Cond.fieldLink "LossyHandshake$Fragment" 30 "LossyHandshake$Fragment" "epoch" "I") ∈ tW := List.mem_filter.mpr ⟨(List.mem_append_right _ (List.mem_of_getElem? (i := 158) rfl)), rfl⟩
set_option maxRecDepth 100000 in
theorem mw_481 : (Cond.fieldLink "LossyHandshake$Fragment" 31 "LossyHandshake$Fragment" "offset" "I") ∈ tW := List.mem_filter.mpr ⟨(List.mem_append_right _ (List.mem_of_getElem? (i := 160) rfl)), rfl⟩
set_option maxRecDepth 100000 in
theorem mw_482 : (Cond.fieldLink "LossyHandshake$Fragment" 40 "LossyHandshake$Message" "bytes" "[I") ∈ tW := List.mem_filter.mpr ⟨(List.mem_append_right _ (List.mem_of_getElem? (i := 227) rfl)), rfl⟩
set_option maxRecDepth 100000 in
theorem mw_483 : (Cond.fieldLink "LossyHandshake$Fragment" 41 "LossyHandshake$Fragment" "length" "I") ∈ tW := List.mem_filter.mpr ⟨(List.mem_append_right _ (List.mem_of_getElem? (i := 162) rfl)), rfl⟩
set_option maxRecDepth 100000 in
theorem mw_484 : (Cond.fieldLink "LossyHandshake$Fragment" 44 "LossyHandshake$Fragment" "sendings" "I") ∈ tW := List.mem_filter.mpr ⟨(List.mem_append_right _ (List.mem_of_getElem? (i := 164) rfl)), rfl⟩
set_option maxRecDepth 100000 in
theorem mw_485 : (Cond.fieldLink "LossyHandshake$Fragment" 47 "LossyHandshake$Fragment" "isOpen" "Z") ∈ tW := List.mem_filter.mpr ⟨(List.mem_append_right _ (List.mem_of_getElem? (i := 165) rfl)), rfl⟩
set_option maxRecDepth 100000 in
theorem mw_486 : (Cond.fieldLink "LossyHandshake$Flight" 31 "LossyHandshake$Message" "bytes" "[I") ∈ tW := List.mem_filter.mpr ⟨(List.mem_append_right _ (List.mem_of_getElem? (i := 229) rfl)), rfl⟩
set_option maxRecDepth 100000 in
theorem mw_487 : (Cond.fieldLink "LossyHandshake$NetRecord" 15 "LossyHandshake$NetRecord" "from" "I") ∈ tW := List.mem_filter.mpr ⟨(List.mem_append_right _ (List.mem_of_getElem? (i := 52) rfl)), rfl⟩
set_option maxRecDepth 100000 in
theorem mw_488 : (Cond.fieldLink "LossyHandshake$NetRecord" 19 "LossyHandshake$NetRecord" "kind" "I") ∈ tW := List.mem_filter.mpr ⟨(List.mem_append_right _ (List.mem_of_getElem? (i := 54) rfl)), rfl⟩
set_option maxRecDepth 100000 in
theorem mw_489 : (Cond.fieldLink "LossyHandshake$NetRecord" 22 "LossyHandshake$NetRecord" "epoch" "I") ∈ tW := List.mem_filter.mpr ⟨(List.mem_append_right _ (List.mem_of_getElem? (i := 57) rfl)), rfl⟩
set_option maxRecDepth 100000 in
theorem mw_490 : (Cond.fieldLink "LossyHandshake$NetRecord" 25 "LossyHandshake$NetRecord" "number" "I") ∈ tW := List.mem_filter.mpr ⟨(List.mem_append_right _ (List.mem_of_getElem? (i := 59) rfl)), rfl⟩
set_option maxRecDepth 100000 in
theorem mw_491 : (Cond.fieldLink "LossyHandshake$NetRecord" 28 "LossyHandshake$NetRecord" "message" "I") ∈ tW := List.mem_filter.mpr ⟨(List.mem_append_right _ (List.mem_of_getElem? (i := 63) rfl)), rfl⟩
set_option maxRecDepth 100000 in
theorem mw_492 : (Cond.fieldLink "LossyHandshake$NetRecord" 31 "LossyHandshake$NetRecord" "offset" "I") ∈ tW := List.mem_filter.mpr ⟨(List.mem_append_right _ (List.mem_of_getElem? (i := 67) rfl)), rfl⟩
set_option maxRecDepth 100000 in
theorem mw_493 : (Cond.fieldLink "LossyHandshake$NetRecord" 34 "LossyHandshake$NetRecord" "length" "I") ∈ tW := List.mem_filter.mpr ⟨(List.mem_append_right _ (List.mem_of_getElem? (i := 48) rfl)), rfl⟩
set_option maxRecDepth 100000 in
theorem mw_494 : (Cond.fieldLink "LossyHandshake$NetRecord" 37 "LossyHandshake$NetRecord" "isSpoilt" "Z") ∈ tW := List.mem_filter.mpr ⟨(List.mem_append_right _ (List.mem_of_getElem? (i := 68) rfl)), rfl⟩
set_option maxRecDepth 100000 in
theorem mw_495 : (Cond.fieldLink "LossyHandshake$Net" 29 "LossyHandshake$Net" "sentCount" "I") ∈ tW := List.mem_filter.mpr ⟨(List.mem_append_right _ (List.mem_of_getElem? (i := 99) rfl)), rfl⟩
set_option maxRecDepth 100000 in
theorem mw_496 : (Cond.fieldLink "LossyHandshake$Net" 22 "LossyHandshake$Net" "lostRow" "LLossyHandshake$NetRecord;") ∈ tW := List.mem_filter.mpr ⟨(List.mem_append_right _ (List.mem_of_getElem? (i := 94) rfl)), rfl⟩
set_option maxRecDepth 100000 in
theorem mw_497 : (Cond.fieldLink "LossyHandshake$Net" 25 "LossyHandshake$Net" "count" "I") ∈ tW := List.mem_filter.mpr ⟨(List.mem_append_right _ (List.mem_of_getElem? (i := 95) rfl)), rfl⟩
set_option maxRecDepth 100000 in
theorem mw_498 : (Cond.fieldLink "LossyHandshake$Net" 11 "LossyHandshake$Net" "rows" "[LLossyHandshake$NetRecord;") ∈ tW := List.mem_filter.mpr ⟨(List.mem_append_right _ (List.mem_of_getElem? (i := 91) rfl)), rfl⟩
set_option maxRecDepth 100000 in
theorem mw_499 : (Cond.fieldLink "LossyHandshake$Net" 32 "LossyHandshake$Net" "lostCount" "I") ∈ tW := List.mem_filter.mpr ⟨(List.mem_append_right _ (List.mem_of_getElem? (i := 97) rfl)), rfl⟩
set_option maxRecDepth 100000 in
theorem mw_500 : (Cond.fieldLink "LossyHandshake$NetRecord" 9 "LossyHandshake$NetRecord" "load" "[I") ∈ tW := List.mem_filter.mpr ⟨(List.mem_append_right _ (List.mem_of_getElem? (i := 42) rfl)), rfl⟩
set_option maxRecDepth 100000 in
theorem mw_501 : (Cond.fieldLink "LossyHandshake$Side" 130 "LossyHandshake$Flight" "count" "I") ∈ tW := List.mem_filter.mpr ⟨(List.mem_append_right _ (List.mem_of_getElem? (i := 188) rfl)), rfl⟩
set_option maxRecDepth 100000 in
theorem mw_502 : (Cond.fieldLink "LossyHandshake$Side" 131 "LossyHandshake$Flight" "fragments" "[LLossyHandshake$Fragment;") ∈ tW := List.mem_filter.mpr ⟨(List.mem_append_right _ (List.mem_of_getElem? (i := 186) rfl)), rfl⟩
set_option maxRecDepth 100000 in
theorem mw_503 : (Cond.fieldLink "LossyHandshake$Side" 135 "LossyHandshake$Fragment" "isOpen" "Z") ∈ tW := List.mem_filter.mpr ⟨(List.mem_append_right _ (List.mem_of_getElem? (i := 167) rfl)), rfl⟩
set_option maxRecDepth 100000 in
theorem mw_504 : (Cond.fieldLink "LossyHandshake$Side" 140 "LossyHandshake$Fragment" "epoch" "I") ∈ tW := List.mem_filter.mpr ⟨(List.mem_append_right _ (List.mem_of_getElem? (i := 159) rfl)), rfl⟩
set_option maxRecDepth 100000 in
theorem mw_505 : (Cond.fieldLink "LossyHandshake$Side" 144 "LossyHandshake$Fragment" "message" "I") ∈ tW := List.mem_filter.mpr ⟨(List.mem_append_right _ (List.mem_of_getElem? (i := 157) rfl)), rfl⟩
set_option maxRecDepth 100000 in
theorem mw_506 : (Cond.fieldLink "LossyHandshake$Side" 147 "LossyHandshake$Fragment" "offset" "I") ∈ tW := List.mem_filter.mpr ⟨(List.mem_append_right _ (List.mem_of_getElem? (i := 161) rfl)), rfl⟩
set_option maxRecDepth 100000 in
theorem mw_507 : (Cond.fieldLink "LossyHandshake$Side" 154 "LossyHandshake$Fragment" "bytes" "[I") ∈ tW := List.mem_filter.mpr ⟨(List.mem_append_right _ (List.mem_of_getElem? (i := 154) rfl)), rfl⟩
set_option maxRecDepth 100000 in
theorem mw_508 : (Cond.fieldLink "LossyHandshake$Side" 155 "LossyHandshake$Fragment" "length" "I") ∈ tW := List.mem_filter.mpr ⟨(List.mem_append_right _ (List.mem_of_getElem? (i := 163) rfl)), rfl⟩
set_option maxRecDepth 100000 in
theorem mw_509 : (Cond.fieldLink "LossyHandshake$Client" 60 "LossyHandshake$Client" "flight" "LLossyHandshake$Flight;") ∈ tW := List.mem_filter.mpr ⟨(List.mem_append_right _ (List.mem_of_getElem? (i := 284) rfl)), rfl⟩
set_option maxRecDepth 100000 in
theorem mw_510 : (Cond.sameField "LossyHandshake$Client" "LossyHandshake$Side" "flight" "LLossyHandshake$Flight;") ∈ tW := List.mem_filter.mpr ⟨(List.mem_append_right _ (List.mem_of_getElem? (i := 285) rfl)), rfl⟩
set_option maxRecDepth 100000 in
theorem mw_511 : (Cond.fieldLink "LossyHandshake$Client" 70 "LossyHandshake$Client" "mtu" "I") ∈ tW := List.mem_filter.mpr ⟨(List.mem_append_right _ (List.mem_of_getElem? (i := 276) rfl)), rfl⟩
set_option maxRecDepth 100000 in
theorem mw_512 : (Cond.sameField "LossyHandshake$Client" "LossyHandshake$Side" "mtu" "I") ∈ tW := List.mem_filter.mpr ⟨(List.mem_append_right _ (List.mem_of_getElem? (i := 277) rfl)), rfl⟩
set_option maxRecDepth 100000 in
theorem mw_513 : (Cond.fieldLink "LossyHandshake$Side" 58 "LossyHandshake$Side" "state" "I") ∈ tW := List.mem_filter.mpr ⟨(List.mem_append_right _ (List.mem_of_getElem? (i := 305) rfl)), rfl⟩
set_option maxRecDepth 100000 in
theorem mw_514 : (Cond.fieldLink "LossyHandshake$Side" 61 "LossyHandshake$Side" "ackDueIn" "I") ∈ tW := List.mem_filter.mpr ⟨(List.mem_append_right _ (List.mem_of_getElem? (i := 324) rfl)), rfl⟩
set_option maxRecDepth 100000 in
theorem mw_515 : (Cond.fieldLink "LossyHandshake$Window" 15 "LossyHandshake$Window" "seen" "I") ∈ tW := List.mem_filter.mpr ⟨(List.mem_append_right _ (List.mem_of_getElem? (i := 210) rfl)), rfl⟩
set_option maxRecDepth 100000 in
theorem mw_516 : (Cond.fieldLink "LossyHandshake$Side" 76 "LossyHandshake$NetRecord" "isSpoilt" "Z") ∈ tW := List.mem_filter.mpr ⟨(List.mem_append_right _ (List.mem_of_getElem? (i := 69) rfl)), rfl⟩
set_option maxRecDepth 100000 in
theorem mw_517 : (Cond.fieldLink "LossyHandshake$Side" 82 "LossyHandshake$NetRecord" "epoch" "I") ∈ tW := List.mem_filter.mpr ⟨(List.mem_append_right _ (List.mem_of_getElem? (i := 58) rfl)), rfl⟩
set_option maxRecDepth 100000 in
theorem mw_518 : (Cond.fieldLink "LossyHandshake$Side" 85 "LossyHandshake$NetRecord" "number" "I") ∈ tW := List.mem_filter.mpr ⟨(List.mem_append_right _ (List.mem_of_getElem? (i := 61) rfl)), rfl⟩
set_option maxRecDepth 100000 in
theorem mw_519 : (Cond.fieldLink "LossyHandshake$Flight" 51 "LossyHandshake$Fragment" "isOpen" "Z") ∈ tW := List.mem_filter.mpr ⟨(List.mem_append_right _ (List.mem_of_getElem? (i := 166) rfl)), rfl⟩
set_option maxRecDepth 100000 in
theorem mw_520 : (Cond.fieldLink "LossyHandshake$Side" 121 "LossyHandshake$NetRecord" "length" "I") ∈ tW := List.mem_filter.mpr ⟨(List.mem_append_right _ (List.mem_of_getElem? (i := 51) rfl)), rfl⟩
set_option maxRecDepth 100000 in
theorem mw_521 : (Cond.fieldLink "LossyHandshake$Side" 124 "LossyHandshake$NetRecord" "load" "[I") ∈ tW := List.mem_filter.mpr ⟨(List.mem_append_right _ (List.mem_of_getElem? (i := 46) rfl)), rfl⟩
set_option maxRecDepth 100000 in
theorem mw_522 : (Cond.fieldLink "LossyHandshake$Client" 109 "LossyHandshake$Client" "state" "I") ∈ tW := List.mem_filter.mpr ⟨(List.mem_append_right _ (List.mem_of_getElem? (i := 306) rfl)), rfl⟩
set_option maxRecDepth 100000 in
theorem mw_523 : (Cond.sameField "LossyHandshake$Client" "LossyHandshake$Side" "state" "I") ∈ tW := List.mem_filter.mpr ⟨(List.mem_append_right _ (List.mem_of_getElem? (i := 302) rfl)), rfl⟩
set_option maxRecDepth 100000 in
theorem mw_524 : (Cond.fieldLink "LossyHandshake$Side" 108 "LossyHandshake$Side" "valueCount" "I") ∈ tW := List.mem_filter.mpr ⟨(List.mem_append_right _ (List.mem_of_getElem? (i := 299) rfl)), rfl⟩
set_option maxRecDepth 100000 in
theorem mw_525 : (Cond.fieldLink "LossyHandshake$Client" 96 "LossyHandshake$NetRecord" "load" "[I") ∈ tW := List.mem_filter.mpr ⟨(List.mem_append_right _ (List.mem_of_getElem? (i := 45) rfl)), rfl⟩
set_option maxRecDepth 100000 in
theorem mw_526 : (Cond.fieldLink "LossyHandshake$Client" 125 "LossyHandshake$NetRecord" "length" "I") ∈ tW := List.mem_filter.mpr ⟨(List.mem_append_right _ (List.mem_of_getElem? (i := 49) rfl)), rfl⟩
set_option maxRecDepth 100000 in
theorem mw_527 : (Cond.fieldLink "LossyHandshake$Noted" 15 "LossyHandshake$Noted" "count" "I") ∈ tW := List.mem_filter.mpr ⟨(List.mem_append_right _ (List.mem_of_getElem? (i := 131) rfl)), rfl⟩
set_option maxRecDepth 100000 in
theorem mw_528 : (Cond.fieldLink "LossyHandshake$Client" 159 "LossyHandshake$Assembly" "next" "I") ∈ tW := List.mem_filter.mpr ⟨(List.mem_append_right _ (List.mem_of_getElem? (i := 258) rfl)), rfl⟩
set_option maxRecDepth 100000 in
theorem mw_529 : (Cond.fieldLink "LossyHandshake$Client" 162 "LossyHandshake$Assembly" "bytes" "[I") ∈ tW := List.mem_filter.mpr ⟨(List.mem_append_right _ (List.mem_of_getElem? (i := 256) rfl)), rfl⟩
set_option maxRecDepth 100000 in
theorem mw_530 : (Cond.fieldLink "LossyHandshake$Client" 168 "LossyHandshake$Client" "writes" "I") ∈ tW := List.mem_filter.mpr ⟨(List.mem_append_right _ (List.mem_of_getElem? (i := 317) rfl)), rfl⟩
set_option maxRecDepth 100000 in
theorem mw_531 : (Cond.sameField "LossyHandshake$Client" "LossyHandshake$Side" "writes" "I") ∈ tW := List.mem_filter.mpr ⟨(List.mem_append_right _ (List.mem_of_getElem? (i := 318) rfl)), rfl⟩
set_option maxRecDepth 100000 in
theorem mw_532 : (Cond.fieldLink "LossyHandshake$Client" 171 "LossyHandshake$Client" "reads" "I") ∈ tW := List.mem_filter.mpr ⟨(List.mem_append_right _ (List.mem_of_getElem? (i := 322) rfl)), rfl⟩
set_option maxRecDepth 100000 in
theorem mw_533 : (Cond.sameField "LossyHandshake$Client" "LossyHandshake$Side" "reads" "I") ∈ tW := List.mem_filter.mpr ⟨(List.mem_append_right _ (List.mem_of_getElem? (i := 323) rfl)), rfl⟩
set_option maxRecDepth 100000 in
theorem mw_534 : (Cond.fieldLink "LossyHandshake$Client" 141 "LossyHandshake$Client" "noted" "LLossyHandshake$Noted;") ∈ tW := List.mem_filter.mpr ⟨(List.mem_append_right _ (List.mem_of_getElem? (i := 290) rfl)), rfl⟩
set_option maxRecDepth 100000 in
theorem mw_535 : (Cond.sameField "LossyHandshake$Client" "LossyHandshake$Side" "noted" "LLossyHandshake$Noted;") ∈ tW := List.mem_filter.mpr ⟨(List.mem_append_right _ (List.mem_of_getElem? (i := 291) rfl)), rfl⟩
set_option maxRecDepth 100000 in
theorem mw_536 : (Cond.fieldLink "LossyHandshake$Client" 177 "LossyHandshake$Client" "ackDueIn" "I") ∈ tW := List.mem_filter.mpr ⟨(List.mem_append_right _ (List.mem_of_getElem? (i := 325) rfl)), rfl⟩
set_option maxRecDepth 100000 in
theorem mw_537 : (Cond.sameField "LossyHandshake$Client" "LossyHandshake$Side" "ackDueIn" "I") ∈ tW := List.mem_filter.mpr ⟨(List.mem_append_right _ (List.mem_of_getElem? (i := 326) rfl)), rfl⟩
set_option maxRecDepth 100000 in
theorem mw_538 : (Cond.fieldLink "LossyHandshake$Client" 180 "LossyHandshake$Client" "transcript" "I") ∈ tW := List.mem_filter.mpr ⟨(List.mem_append_right _ (List.mem_of_getElem? (i := 311) rfl)), rfl⟩
set_option maxRecDepth 100000 in
theorem mw_539 : (Cond.sameField "LossyHandshake$Client" "LossyHandshake$Side" "transcript" "I") ∈ tW := List.mem_filter.mpr ⟨(List.mem_append_right _ (List.mem_of_getElem? (i := 312) rfl)), rfl⟩
set_option maxRecDepth 100000 in
theorem mw_540 : (Cond.fieldLink "LossyHandshake$Client" 88 "LossyHandshake$NetRecord" "kind" "I") ∈ tW := List.mem_filter.mpr ⟨(List.mem_append_right _ (List.mem_of_getElem? (i := 56) rfl)), rfl⟩
set_option maxRecDepth 100000 in
theorem mw_541 : (Cond.fieldLink "LossyHandshake$Client" 103 "LossyHandshake$NetRecord" "message" "I") ∈ tW := List.mem_filter.mpr ⟨(List.mem_append_right _ (List.mem_of_getElem? (i := 65) rfl)), rfl⟩
set_option maxRecDepth 100000 in
theorem mw_542 : (Cond.fieldLink "LossyHandshake$Net" 18 "LossyHandshake$Net" "takenRow" "LLossyHandshake$NetRecord;") ∈ tW := List.mem_filter.mpr ⟨(List.mem_append_right _ (List.mem_of_getElem? (i := 93) rfl)), rfl⟩
set_option maxRecDepth 100000 in
theorem mw_543 : (Cond.fieldLink "LossyHandshake$Server" 14 "LossyHandshake$Server" "retry" "LLossyHandshake$Message;") ∈ tW := List.mem_filter.mpr ⟨(List.mem_append_right _ (List.mem_of_getElem? (i := 379) rfl)), rfl⟩
set_option maxRecDepth 100000 in
theorem mw_544 : (Cond.fieldLink "LossyHandshake$Server" 20 "LossyHandshake$Server" "answer" "LLossyHandshake$Message;") ∈ tW := List.mem_filter.mpr ⟨(List.mem_append_right _ (List.mem_of_getElem? (i := 380) rfl)), rfl⟩
set_option maxRecDepth 100000 in
theorem mw_545 : (Cond.fieldLink "LossyHandshake$Server" 23 "LossyHandshake$Server" "terms" "LLossyHandshake$Message;") ∈ tW := List.mem_filter.mpr ⟨(List.mem_append_right _ (List.mem_of_getElem? (i := 381) rfl)), rfl⟩
set_option maxRecDepth 100000 in
theorem mw_546 : (Cond.fieldLink "LossyHandshake$Server" 26 "LossyHandshake$Server" "done" "LLossyHandshake$Message;") ∈ tW := List.mem_filter.mpr ⟨(List.mem_append_right _ (List.mem_of_getElem? (i := 383) rfl)), rfl⟩
set_option maxRecDepth 100000 in
theorem mw_547 : (Cond.fieldLink "LossyHandshake$Server" 33 "LossyHandshake$Server" "secret" "I") ∈ tW := List.mem_filter.mpr ⟨(List.mem_append_right _ (List.mem_of_getElem? (i := 378) rfl)), rfl⟩
set_option maxRecDepth 100000 in
theorem mw_548 : (Cond.fieldLink "LossyHandshake$Server" 40 "LossyHandshake$Server" "proof" "LLossyHandshake$Message;") ∈ tW := List.mem_filter.mpr ⟨(List.mem_append_right _ (List.mem_of_getElem? (i := 382) rfl)), rfl⟩
set_option maxRecDepth 100000 in
theorem mw_549 : (Cond.fieldLink "LossyHandshake$Server" 98 "LossyHandshake$Server" "net" "LLossyHandshake$Net;") ∈ tW := List.mem_filter.mpr ⟨(List.mem_append_right _ (List.mem_of_getElem? (i := 281) rfl)), rfl⟩
set_option maxRecDepth 100000 in
theorem mw_550 : (Cond.sameField "LossyHandshake$Server" "LossyHandshake$Side" "net" "LLossyHandshake$Net;") ∈ tW := List.mem_filter.mpr ⟨(List.mem_append_right _ (List.mem_of_getElem? (i := 282) rfl)), rfl⟩
set_option maxRecDepth 100000 in
theorem mw_551 : (Cond.fieldLink "LossyHandshake$Server" 102 "LossyHandshake$Server" "self" "I") ∈ tW := List.mem_filter.mpr ⟨(List.mem_append_right _ (List.mem_of_getElem? (i := 273) rfl)), rfl⟩
set_option maxRecDepth 100000 in
theorem mw_552 : (Cond.sameField "LossyHandshake$Server" "LossyHandshake$Side" "self" "I") ∈ tW := List.mem_filter.mpr ⟨(List.mem_append_right _ (List.mem_of_getElem? (i := 274) rfl)), rfl⟩
set_option maxRecDepth 100000 in
theorem mw_553 : (Cond.fieldLink "LossyHandshake$Server" 105 "LossyHandshake$NetRecord" "number" "I") ∈ tW := List.mem_filter.mpr ⟨(List.mem_append_right _ (List.mem_of_getElem? (i := 60) rfl)), rfl⟩
set_option maxRecDepth 100000 in
theorem mw_554 : (Cond.fieldLink "LossyHandshake$Server" 117 "LossyHandshake$Message" "bytes" "[I") ∈ tW := List.mem_filter.mpr ⟨(List.mem_append_right _ (List.mem_of_getElem? (i := 228) rfl)), rfl⟩
set_option maxRecDepth 100000 in
theorem mw_555 : (Cond.fieldLink "LossyHandshake$Server" 69 "LossyHandshake$NetRecord" "load" "[I") ∈ tW := List.mem_filter.mpr ⟨(List.mem_append_right _ (List.mem_of_getElem? (i := 44) rfl)), rfl⟩
set_option maxRecDepth 100000 in
theorem mw_556 : (Cond.fieldLink "LossyHandshake$Server" 150 "LossyHandshake$Server" "transcript" "I") ∈ tW := List.mem_filter.mpr ⟨(List.mem_append_right _ (List.mem_of_getElem? (i := 309) rfl)), rfl⟩
set_option maxRecDepth 100000 in
theorem mw_557 : (Cond.sameField "LossyHandshake$Server" "LossyHandshake$Side" "transcript" "I") ∈ tW := List.mem_filter.mpr ⟨(List.mem_append_right _ (List.mem_of_getElem? (i := 310) rfl)), rfl⟩
set_option maxRecDepth 100000 in
theorem mw_558 : (Cond.fieldLink "LossyHandshake$Server" 160 "LossyHandshake$Server" "flight" "LLossyHandshake$Flight;") ∈ tW := List.mem_filter.mpr ⟨(List.mem_append_right _ (List.mem_of_getElem? (i := 286) rfl)), rfl⟩
set_option maxRecDepth 100000 in
theorem mw_559 : (Cond.sameField "LossyHandshake$Server" "LossyHandshake$Side" "flight" "LLossyHandshake$Flight;") ∈ tW := List.mem_filter.mpr ⟨(List.mem_append_right _ (List.mem_of_getElem? (i := 287) rfl)), rfl⟩
set_option maxRecDepth 100000 in
theorem mw_560 : (Cond.fieldLink "LossyHandshake$Server" 169 "LossyHandshake$Server" "mtu" "I") ∈ tW := List.mem_filter.mpr ⟨(List.mem_append_right _ (List.mem_of_getElem? (i := 278) rfl)), rfl⟩
set_option maxRecDepth 100000 in
theorem mw_561 : (Cond.sameField "LossyHandshake$Server" "LossyHandshake$Side" "mtu" "I") ∈ tW := List.mem_filter.mpr ⟨(List.mem_append_right _ (List.mem_of_getElem? (i := 279) rfl)), rfl⟩
set_option maxRecDepth 100000 in
theorem mw_562 : (Cond.fieldLink "LossyHandshake$Server" 57 "LossyHandshake$Server" "state" "I") ∈ tW := List.mem_filter.mpr ⟨(List.mem_append_right _ (List.mem_of_getElem? (i := 303) rfl)), rfl⟩
set_option maxRecDepth 100000 in
theorem mw_563 : (Cond.sameField "LossyHandshake$Server" "LossyHandshake$Side" "state" "I") ∈ tW := List.mem_filter.mpr ⟨(List.mem_append_right _ (List.mem_of_getElem? (i := 304) rfl)), rfl⟩
set_option maxRecDepth 100000 in
theorem mw_564 : (Cond.fieldLink "LossyHandshake$Server" 127 "LossyHandshake$Server" "nextNumbers" "[I") ∈ tW := List.mem_filter.mpr ⟨(List.mem_append_right _ (List.mem_of_getElem? (i := 296) rfl)), rfl⟩
set_option maxRecDepth 100000 in
theorem mw_565 : (Cond.sameField "LossyHandshake$Server" "LossyHandshake$Side" "nextNumbers" "[I") ∈ tW := List.mem_filter.mpr ⟨(List.mem_append_right _ (List.mem_of_getElem? (i := 297) rfl)), rfl⟩
set_option maxRecDepth 100000 in
theorem mw_566 : (Cond.fieldLink "LossyHandshake$Server" 130 "LossyHandshake$Server" "writes" "I") ∈ tW := List.mem_filter.mpr ⟨(List.mem_append_right _ (List.mem_of_getElem? (i := 315) rfl)), rfl⟩
set_option maxRecDepth 100000 in
theorem mw_567 : (Cond.sameField "LossyHandshake$Server" "LossyHandshake$Side" "writes" "I") ∈ tW := List.mem_filter.mpr ⟨(List.mem_append_right _ (List.mem_of_getElem? (i := 316) rfl)), rfl⟩
set_option maxRecDepth 100000 in
theorem mw_568 : (Cond.fieldLink "LossyHandshake$Server" 133 "LossyHandshake$Server" "reads" "I") ∈ tW := List.mem_filter.mpr ⟨(List.mem_append_right _ (List.mem_of_getElem? (i := 320) rfl)), rfl⟩
set_option maxRecDepth 100000 in
theorem mw_569 : (Cond.sameField "LossyHandshake$Server" "LossyHandshake$Side" "reads" "I") ∈ tW := List.mem_filter.mpr ⟨(List.mem_append_right _ (List.mem_of_getElem? (i := 321) rfl)), rfl⟩
set_option maxRecDepth 100000 in
theorem mw_570 : (Cond.fieldLink "LossyHandshake$Side" 111 "LossyHandshake$Noted" "names" "[I") ∈ tW := List.mem_filter.mpr ⟨(List.mem_append_right _ (List.mem_of_getElem? (i := 130) rfl)), rfl⟩
set_option maxRecDepth 100000 in
theorem mw_571 : (Cond.fieldLink "LossyHandshake$Side" 114 "LossyHandshake$Noted" "count" "I") ∈ tW := List.mem_filter.mpr ⟨(List.mem_append_right _ (List.mem_of_getElem? (i := 132) rfl)), rfl⟩
set_option maxRecDepth 100000 in
theorem mw_572 : (Cond.fieldLink "LossyHandshake$Server" 176 "LossyHandshake$NetRecord" "length" "I") ∈ tW := List.mem_filter.mpr ⟨(List.mem_append_right _ (List.mem_of_getElem? (i := 50) rfl)), rfl⟩
set_option maxRecDepth 100000 in
theorem mw_573 : (Cond.fieldLink "LossyHandshake$Server" 182 "LossyHandshake$Server" "noted" "LLossyHandshake$Noted;") ∈ tW := List.mem_filter.mpr ⟨(List.mem_append_right _ (List.mem_of_getElem? (i := 292) rfl)), rfl⟩
set_option maxRecDepth 100000 in
theorem mw_574 : (Cond.sameField "LossyHandshake$Server" "LossyHandshake$Side" "noted" "LLossyHandshake$Noted;") ∈ tW := List.mem_filter.mpr ⟨(List.mem_append_right _ (List.mem_of_getElem? (i := 293) rfl)), rfl⟩
set_option maxRecDepth 100000 in
theorem mw_575 : (Cond.fieldLink "LossyHandshake$Server" 63 "LossyHandshake$NetRecord" "kind" "I") ∈ tW := List.mem_filter.mpr ⟨(List.mem_append_right _ (List.mem_of_getElem? (i := 55) rfl)), rfl⟩
set_option maxRecDepth 100000 in
theorem mw_576 : (Cond.fieldLink "LossyHandshake$Server" 77 "LossyHandshake$NetRecord" "message" "I") ∈ tW := List.mem_filter.mpr ⟨(List.mem_append_right _ (List.mem_of_getElem? (i := 64) rfl)), rfl⟩
set_option maxRecDepth 100000 in
theorem mw_577 : (Cond.fieldLink "LossyHandshake$Side" 166 "LossyHandshake$Flight" "resends" "I") ∈ tW := List.mem_filter.mpr ⟨(List.mem_append_right _ (List.mem_of_getElem? (i := 192) rfl)), rfl⟩
set_option maxRecDepth 100000 in
theorem mw_578 : (Cond.fieldLink "LossyHandshake" 21 "LossyHandshake" "net" "LLossyHandshake$Net;") ∈ tW := List.mem_filter.mpr ⟨(List.mem_append_right _ (List.mem_of_getElem? (i := 411) rfl)), rfl⟩
set_option maxRecDepth 100000 in
theorem mw_579 : (Cond.fieldLink "LossyHandshake" 30 "LossyHandshake" "client" "LLossyHandshake$Client;") ∈ tW := List.mem_filter.mpr ⟨(List.mem_append_right _ (List.mem_of_getElem? (i := 412) rfl)), rfl⟩
set_option maxRecDepth 100000 in
theorem mw_580 : (Cond.fieldLink "LossyHandshake" 37 "LossyHandshake" "server" "LLossyHandshake$Server;") ∈ tW := List.mem_filter.mpr ⟨(List.mem_append_right _ (List.mem_of_getElem? (i := 413) rfl)), rfl⟩
set_option maxRecDepth 100000 in
theorem mw_581 : (Cond.fieldLink "LossyHandshake" 41 "LossyHandshake$Client" "state" "I") ∈ tW := List.mem_filter.mpr ⟨(List.mem_append_right _ (List.mem_of_getElem? (i := 301) rfl)), rfl⟩
set_option maxRecDepth 100000 in
theorem mw_582 : (Cond.fieldLink "LossyHandshake" 48 "LossyHandshake$Net" "sentCount" "I") ∈ tW := List.mem_filter.mpr ⟨(List.mem_append_right _ (List.mem_of_getElem? (i := 100) rfl)), rfl⟩
set_option maxRecDepth 100000 in
theorem mw_583 : (Cond.fieldLink "LossyHandshake" 75 "LossyHandshake$NetRecord" "from" "I") ∈ tW := List.mem_filter.mpr ⟨(List.mem_append_right _ (List.mem_of_getElem? (i := 53) rfl)), rfl⟩
set_option maxRecDepth 100000 in
theorem mw_584 : (Cond.fieldLink "LossyHandshake" 87 "LossyHandshake$Net" "rows" "[LLossyHandshake$NetRecord;") ∈ tW := List.mem_filter.mpr ⟨(List.mem_append_right _ (List.mem_of_getElem? (i := 92) rfl)), rfl⟩
set_option maxRecDepth 100000 in
theorem mw_585 : (Cond.fieldLink "LossyHandshake" 91 "LossyHandshake$NetRecord" "isSpoilt" "Z") ∈ tW := List.mem_filter.mpr ⟨(List.mem_append_right _ (List.mem_of_getElem? (i := 70) rfl)), rfl⟩
set_option maxRecDepth 100000 in
theorem mw_586 : (Cond.fieldLink "LossyHandshake" 95 "LossyHandshake$Net" "count" "I") ∈ tW := List.mem_filter.mpr ⟨(List.mem_append_right _ (List.mem_of_getElem? (i := 96) rfl)), rfl⟩
set_option maxRecDepth 100000 in
theorem mw_587 : (Cond.fieldLink "LossyHandshake" 98 "LossyHandshake$Net" "lostCount" "I") ∈ tW := List.mem_filter.mpr ⟨(List.mem_append_right _ (List.mem_of_getElem? (i := 98) rfl)), rfl⟩
set_option maxRecDepth 100000 in
theorem mw_588 : (Cond.fieldLink "LossyHandshake" 112 "LossyHandshake$Side" "state" "I") ∈ tW := List.mem_filter.mpr ⟨(List.mem_append_right _ (List.mem_of_getElem? (i := 307) rfl)), rfl⟩
set_option maxRecDepth 100000 in
theorem mw_589 : (Cond.fieldLink "LossyHandshake" 113 "LossyHandshake$Side" "transcript" "I") ∈ tW := List.mem_filter.mpr ⟨(List.mem_append_right _ (List.mem_of_getElem? (i := 313) rfl)), rfl⟩
set_option maxRecDepth 100000 in
theorem mw_590 : (Cond.fieldLink "LossyHandshake" 116 "LossyHandshake$Side" "flight" "LLossyHandshake$Flight;") ∈ tW := List.mem_filter.mpr ⟨(List.mem_append_right _ (List.mem_of_getElem? (i := 288) rfl)), rfl⟩
set_option maxRecDepth 100000 in
theorem mw_591 : (Cond.fieldLink "LossyHandshake" 125 "LossyHandshake$Client" "assembly" "LLossyHandshake$Assembly;") ∈ tW := List.mem_filter.mpr ⟨(List.mem_append_right _ (List.mem_of_getElem? (i := 271) rfl)), rfl⟩
set_option maxRecDepth 100000 in
theorem mw_592 : (Cond.fieldLink "LossyHandshake" 134 "LossyHandshake$Side" "valueCount" "I") ∈ tW := List.mem_filter.mpr ⟨(List.mem_append_right _ (List.mem_of_getElem? (i := 300) rfl)), rfl⟩
set_option maxRecDepth 100000 in
theorem mw_593 : (Cond.fieldLink "LossyHandshakeModel" 114 "LossyHandshakeModel" "proof" "I") ∈ tW := List.mem_filter.mpr ⟨(List.mem_append_right _ (List.mem_of_getElem? (i := 877) rfl)), rfl⟩
set_option maxRecDepth 100000 in
theorem mw_594 : (Cond.fieldLink "LossyHandshakeModel" 121 "LossyHandshakeModel" "\x72" "I") ∈ tW := List.mem_filter.mpr ⟨(List.mem_append_right _ (List.mem_of_getElem? (i := 878) rfl)), rfl⟩
set_option maxRecDepth 100000 in
theorem mw_595 : (Cond.fieldLink "LossyHandshakeModel" 127 "LossyHandshakeModel" "cookie" "I") ∈ tW := List.mem_filter.mpr ⟨(List.mem_append_right _ (List.mem_of_getElem? (i := 880) rfl)), rfl⟩
set_option maxRecDepth 100000 in
theorem mw_596 : (Cond.fieldLink "LossyHandshakeModel" 124 "LossyHandshakeModel" "s" "I") ∈ tW := List.mem_filter.mpr ⟨(List.mem_append_right _ (List.mem_of_getElem? (i := 879) rfl)), rfl⟩
set_option maxRecDepth 100000 in
theorem mw_597 : (Cond.fieldLink "LossyHandshakeModel" 134 "LossyHandshakeModel" "serverDone" "I") ∈ tW := List.mem_filter.mpr ⟨(List.mem_append_right _ (List.mem_of_getElem? (i := 881) rfl)), rfl⟩
set_option maxRecDepth 100000 in
theorem mw_598 : (Cond.fieldLink "LossyHandshakeModel" 137 "LossyHandshakeModel" "clientDone" "I") ∈ tW := List.mem_filter.mpr ⟨(List.mem_append_right _ (List.mem_of_getElem? (i := 882) rfl)), rfl⟩
set_option maxRecDepth 100000 in
theorem mw_599 : (Cond.fieldLink "LossyHandshakeModel" 7 "LossyHandshakeModel" "from" "[I") ∈ tW := List.mem_filter.mpr ⟨(List.mem_append_right _ (List.mem_of_getElem? (i := 887) rfl)), rfl⟩
set_option maxRecDepth 100000 in
theorem mw_600 : (Cond.fieldLink "LossyHandshakeModel" 13 "LossyHandshakeModel" "kind" "[I") ∈ tW := List.mem_filter.mpr ⟨(List.mem_append_right _ (List.mem_of_getElem? (i := 888) rfl)), rfl⟩
set_option maxRecDepth 100000 in
theorem mw_601 : (Cond.fieldLink "LossyHandshakeModel" 16 "LossyHandshakeModel" "epoch" "[I") ∈ tW := List.mem_filter.mpr ⟨(List.mem_append_right _ (List.mem_of_getElem? (i := 889) rfl)), rfl⟩
set_option maxRecDepth 100000 in
theorem mw_602 : (Cond.fieldLink "LossyHandshakeModel" 19 "LossyHandshakeModel" "number" "[I") ∈ tW := List.mem_filter.mpr ⟨(List.mem_append_right _ (List.mem_of_getElem? (i := 890) rfl)), rfl⟩
set_option maxRecDepth 100000 in
theorem mw_603 : (Cond.fieldLink "LossyHandshakeModel" 22 "LossyHandshakeModel" "spoilt" "[Z") ∈ tW := List.mem_filter.mpr ⟨(List.mem_append_right _ (List.mem_of_getElem? (i := 891) rfl)), rfl⟩
set_option maxRecDepth 100000 in
theorem mw_604 : (Cond.fieldLink "LossyHandshakeModel" 26 "LossyHandshakeModel" "what" "[I") ∈ tW := List.mem_filter.mpr ⟨(List.mem_append_right _ (List.mem_of_getElem? (i := 892) rfl)), rfl⟩
set_option maxRecDepth 100000 in
theorem mw_605 : (Cond.fieldLink "LossyHandshakeModel" 29 "LossyHandshakeModel" "offset" "[I") ∈ tW := List.mem_filter.mpr ⟨(List.mem_append_right _ (List.mem_of_getElem? (i := 893) rfl)), rfl⟩
set_option maxRecDepth 100000 in
theorem mw_606 : (Cond.fieldLink "LossyHandshakeModel" 32 "LossyHandshakeModel" "length" "[I") ∈ tW := List.mem_filter.mpr ⟨(List.mem_append_right _ (List.mem_of_getElem? (i := 894) rfl)), rfl⟩
set_option maxRecDepth 100000 in
theorem mw_607 : (Cond.fieldLink "LossyHandshakeModel" 35 "LossyHandshakeModel" "nameEpoch" "[I") ∈ tW := List.mem_filter.mpr ⟨(List.mem_append_right _ (List.mem_of_getElem? (i := 895) rfl)), rfl⟩
set_option maxRecDepth 100000 in
theorem mw_608 : (Cond.fieldLink "LossyHandshakeModel" 38 "LossyHandshakeModel" "nameNumber" "[I") ∈ tW := List.mem_filter.mpr ⟨(List.mem_append_right _ (List.mem_of_getElem? (i := 896) rfl)), rfl⟩
set_option maxRecDepth 100000 in
theorem mw_609 : (Cond.fieldLink "LossyHandshakeModel" 41 "LossyHandshakeModel" "state" "[I") ∈ tW := List.mem_filter.mpr ⟨(List.mem_append_right _ (List.mem_of_getElem? (i := 897) rfl)), rfl⟩
set_option maxRecDepth 100000 in
theorem mw_610 : (Cond.fieldLink "LossyHandshakeModel" 44 "LossyHandshakeModel" "through" "[I") ∈ tW := List.mem_filter.mpr ⟨(List.mem_append_right _ (List.mem_of_getElem? (i := 898) rfl)), rfl⟩
set_option maxRecDepth 100000 in
theorem mw_611 : (Cond.fieldLink "LossyHandshakeModel" 47 "LossyHandshakeModel" "next" "[I") ∈ tW := List.mem_filter.mpr ⟨(List.mem_append_right _ (List.mem_of_getElem? (i := 899) rfl)), rfl⟩
set_option maxRecDepth 100000 in
theorem mw_612 : (Cond.fieldLink "LossyHandshakeModel" 50 "LossyHandshakeModel" "greatest" "[I") ∈ tW := List.mem_filter.mpr ⟨(List.mem_append_right _ (List.mem_of_getElem? (i := 900) rfl)), rfl⟩
set_option maxRecDepth 100000 in
theorem mw_613 : (Cond.fieldLink "LossyHandshakeModel" 53 "LossyHandshakeModel" "letIn" "[I") ∈ tW := List.mem_filter.mpr ⟨(List.mem_append_right _ (List.mem_of_getElem? (i := 901) rfl)), rfl⟩
set_option maxRecDepth 100000 in
theorem mw_614 : (Cond.fieldLink "LossyHandshakeModel" 56 "LossyHandshakeModel" "noted" "[I") ∈ tW := List.mem_filter.mpr ⟨(List.mem_append_right _ (List.mem_of_getElem? (i := 902) rfl)), rfl⟩
set_option maxRecDepth 100000 in
theorem mw_615 : (Cond.fieldLink "LossyHandshakeModel" 59 "LossyHandshakeModel" "noteEpoch" "[I") ∈ tW := List.mem_filter.mpr ⟨(List.mem_append_right _ (List.mem_of_getElem? (i := 903) rfl)), rfl⟩
set_option maxRecDepth 100000 in
theorem mw_616 : (Cond.fieldLink "LossyHandshakeModel" 62 "LossyHandshakeModel" "noteNumber" "[I") ∈ tW := List.mem_filter.mpr ⟨(List.mem_append_right _ (List.mem_of_getElem? (i := 904) rfl)), rfl⟩
set_option maxRecDepth 100000 in
theorem mw_617 : (Cond.fieldLink "LossyHandshakeModel" 65 "LossyHandshakeModel" "ackDue" "[I") ∈ tW := List.mem_filter.mpr ⟨(List.mem_append_right _ (List.mem_of_getElem? (i := 905) rfl)), rfl⟩
set_option maxRecDepth 100000 in
theorem mw_618 : (Cond.fieldLink "LossyHandshakeModel" 68 "LossyHandshakeModel" "pieces" "[I") ∈ tW := List.mem_filter.mpr ⟨(List.mem_append_right _ (List.mem_of_getElem? (i := 906) rfl)), rfl⟩
set_option maxRecDepth 100000 in
theorem mw_619 : (Cond.fieldLink "LossyHandshakeModel" 71 "LossyHandshakeModel" "pieceOf" "[I") ∈ tW := List.mem_filter.mpr ⟨(List.mem_append_right _ (List.mem_of_getElem? (i := 907) rfl)), rfl⟩
set_option maxRecDepth 100000 in
theorem mw_620 : (Cond.fieldLink "LossyHandshakeModel" 74 "LossyHandshakeModel" "pieceAt" "[I") ∈ tW := List.mem_filter.mpr ⟨(List.mem_append_right _ (List.mem_of_getElem? (i := 908) rfl)), rfl⟩
set_option maxRecDepth 100000 in
theorem mw_621 : (Cond.fieldLink "LossyHandshakeModel" 77 "LossyHandshakeModel" "isOpen" "[Z") ∈ tW := List.mem_filter.mpr ⟨(List.mem_append_right _ (List.mem_of_getElem? (i := 909) rfl)), rfl⟩
set_option maxRecDepth 100000 in
theorem mw_622 : (Cond.fieldLink "LossyHandshakeModel" 80 "LossyHandshakeModel" "times" "[I") ∈ tW := List.mem_filter.mpr ⟨(List.mem_append_right _ (List.mem_of_getElem? (i := 910) rfl)), rfl⟩
set_option maxRecDepth 100000 in
theorem mw_623 : (Cond.fieldLink "LossyHandshakeModel" 83 "LossyHandshakeModel" "wentEpoch" "[I") ∈ tW := List.mem_filter.mpr ⟨(List.mem_append_right _ (List.mem_of_getElem? (i := 911) rfl)), rfl⟩
set_option maxRecDepth 100000 in
theorem mw_624 : (Cond.fieldLink "LossyHandshakeModel" 86 "LossyHandshakeModel" "wentNumber" "[I") ∈ tW := List.mem_filter.mpr ⟨(List.mem_append_right _ (List.mem_of_getElem? (i := 912) rfl)), rfl⟩
set_option maxRecDepth 100000 in
theorem mw_625 : (Cond.fieldLink "LossyHandshakeModel" 89 "LossyHandshakeModel" "wentPiece" "[I") ∈ tW := List.mem_filter.mpr ⟨(List.mem_append_right _ (List.mem_of_getElem? (i := 913) rfl)), rfl⟩
set_option maxRecDepth 100000 in
theorem mw_626 : (Cond.fieldLink "LossyHandshakeModel" 92 "LossyHandshakeModel" "wait" "[I") ∈ tW := List.mem_filter.mpr ⟨(List.mem_append_right _ (List.mem_of_getElem? (i := 914) rfl)), rfl⟩
set_option maxRecDepth 100000 in
theorem mw_627 : (Cond.fieldLink "LossyHandshakeModel" 95 "LossyHandshakeModel" "until" "[I") ∈ tW := List.mem_filter.mpr ⟨(List.mem_append_right _ (List.mem_of_getElem? (i := 915) rfl)), rfl⟩
set_option maxRecDepth 100000 in
theorem mw_628 : (Cond.fieldLink "LossyHandshakeModel" 98 "LossyHandshakeModel" "again" "[I") ∈ tW := List.mem_filter.mpr ⟨(List.mem_append_right _ (List.mem_of_getElem? (i := 916) rfl)), rfl⟩
set_option maxRecDepth 100000 in
theorem mw_629 : (Cond.fieldLink "LossyHandshakeModel" 101 "LossyHandshakeModel" "has" "[Z") ∈ tW := List.mem_filter.mpr ⟨(List.mem_append_right _ (List.mem_of_getElem? (i := 917) rfl)), rfl⟩
set_option maxRecDepth 100000 in
theorem mw_630 : (Cond.fieldLink "LossyHandshakeModel" 104 "LossyHandshakeModel" "values" "[I") ∈ tW := List.mem_filter.mpr ⟨(List.mem_append_right _ (List.mem_of_getElem? (i := 918) rfl)), rfl⟩
set_option maxRecDepth 100000 in
theorem mw_631 : (Cond.fieldLink "LossyHandshakeModel" 107 "LossyHandshakeModel" "received" "[I") ∈ tW := List.mem_filter.mpr ⟨(List.mem_append_right _ (List.mem_of_getElem? (i := 919) rfl)), rfl⟩
set_option maxRecDepth 100000 in
theorem mw_632 : (Cond.fieldLink "LossyHandshakeModel" 110 "LossyHandshakeModel" "mtu" "I") ∈ tW := List.mem_filter.mpr ⟨(List.mem_append_right _ (List.mem_of_getElem? (i := 876) rfl)), rfl⟩
set_option maxRecDepth 100000 in
theorem mw_633 : (Cond.fieldLink "LossyHandshakeModel" 150 "LossyHandshakeModel" "sent" "I") ∈ tW := List.mem_filter.mpr ⟨(List.mem_append_right _ (List.mem_of_getElem? (i := 886) rfl)), rfl⟩
set_option maxRecDepth 100000 in
theorem mw_634 : (Cond.fieldLink "LossyHandshakeModel" 153 "LossyHandshakeModel" "count" "I") ∈ tW := List.mem_filter.mpr ⟨(List.mem_append_right _ (List.mem_of_getElem? (i := 884) rfl)), rfl⟩
set_option maxRecDepth 100000 in
theorem mw_635 : (Cond.fieldLink "LossyHandshakeModel" 156 "LossyHandshakeModel" "lost" "I") ∈ tW := List.mem_filter.mpr ⟨(List.mem_append_right _ (List.mem_of_getElem? (i := 885) rfl)), rfl⟩
set_option maxRecDepth 100000 in
theorem mw_636 : (Cond.fieldLink "LossyHandshakeModel" 174 "LossyHandshakeModel" "clock" "I") ∈ tW := List.mem_filter.mpr ⟨(List.mem_append_right _ (List.mem_of_getElem? (i := 883) rfl)), rfl⟩
set_option maxRecDepth 100000 in
theorem mw_637 : (Cond.code y_Asm_init b_Asm_init 3 none) ∈ tW := List.mem_filter.mpr ⟨(List.mem_append_right _ (List.mem_of_getElem? (i := 252) rfl)), rfl⟩
set_option maxRecDepth 100000 in
theorem mw_638 : (Cond.code y_Asm_startOf b_Asm_startOf 2 (some .int)) ∈ tW := List.mem_filter.mpr ⟨(List.mem_append_right _ (List.mem_of_getElem? (i := 656) rfl)), rfl⟩
set_option maxRecDepth 100000 in
theorem mw_639 : (Cond.code y_Asm_put b_Asm_put 4 none) ∈ tW := List.mem_filter.mpr ⟨(List.mem_append_right _ (List.mem_of_getElem? (i := 652) rfl)), rfl⟩
set_option maxRecDepth 100000 in
theorem mw_640 : (Cond.code y_Asm_isWhole b_Asm_isWhole 1 (some .boolean)) ∈ tW := List.mem_filter.mpr ⟨(List.mem_append_right _ (List.mem_of_getElem? (i := 673) rfl)), rfl⟩
set_option maxRecDepth 100000 in
theorem mw_641 : (Cond.code y_Asm_hasNextMessage b_Asm_hasNextMessage 3 (some .boolean)) ∈ tW := List.mem_filter.mpr ⟨(List.mem_append_right _ (List.mem_of_getElem? (i := 669) rfl)), rfl⟩
set_option maxRecDepth 100000 in
theorem mw_642 : (Cond.code y_Asm_countUntaken b_Asm_countUntaken 3 (some .int)) ∈ tW := List.mem_filter.mpr ⟨(List.mem_append_right _ (List.mem_of_getElem? (i := 833) rfl)), rfl⟩
set_option maxRecDepth 100000 in
theorem mw_643 : (Cond.code y_Noted_init b_Noted_init 1 none) ∈ tW := List.mem_filter.mpr ⟨(List.mem_append_right _ (List.mem_of_getElem? (i := 127) rfl)), rfl⟩
set_option maxRecDepth 100000 in
theorem mw_644 : (Cond.code y_Frag_init b_Frag_init 1 none) ∈ tW := List.mem_filter.mpr ⟨(List.mem_append_right _ (List.mem_of_getElem? (i := 151) rfl)), rfl⟩
set_option maxRecDepth 100000 in
theorem mw_645 : (Cond.code y_Flight_init b_Flight_init 3 none) ∈ tW := List.mem_filter.mpr ⟨(List.mem_append_right _ (List.mem_of_getElem? (i := 144) rfl)), rfl⟩
set_option maxRecDepth 100000 in
theorem mw_646 : (Cond.code y_Win_init b_Win_init 1 none) ∈ tW := List.mem_filter.mpr ⟨(List.mem_append_right _ (List.mem_of_getElem? (i := 207) rfl)), rfl⟩
set_option maxRecDepth 100000 in
theorem mw_647 : (Cond.code y_Side_init b_Side_init 6 none) ∈ tW := List.mem_filter.mpr ⟨(List.mem_append_right _ (List.mem_of_getElem? (i := 121) rfl)), rfl⟩
set_option maxRecDepth 100000 in
theorem mw_648 : (Cond.initialized "LossyHandshake$Side") ∈ tW := List.mem_filter.mpr ⟨(List.mem_append_right _ (List.mem_of_getElem? (i := 5) rfl)), rfl⟩
set_option maxRecDepth 100000 in
theorem mw_649 : (Cond.code y_Msg_init b_Msg_init 4 none) ∈ tW := List.mem_filter.mpr ⟨(List.mem_append_right _ (List.mem_of_getElem? (i := 220) rfl)), rfl⟩
set_option maxRecDepth 100000 in
theorem mw_650 : (Cond.code y_X_mix b_X_mix 3 (some .int)) ∈ tW := List.mem_filter.mpr ⟨(List.mem_append_right _ (List.mem_of_getElem? (i := 243) rfl)), rfl⟩
set_option maxRecDepth 100000 in
theorem mw_651 : (Cond.initialized "LossyHandshake") ∈ tW := List.mem_filter.mpr ⟨(List.mem_append_right _ (List.mem_of_getElem? (i := 1) rfl)), rfl⟩
set_option maxRecDepth 100000 in
theorem mw_652 : (Cond.code y_X_clientNumber b_X_clientNumber 1 (some .int)) ∈ tW := List.mem_filter.mpr ⟨(List.mem_append_right _ (List.mem_of_getElem? (i := 240) rfl)), rfl⟩
set_option maxRecDepth 100000 in
theorem mw_653 : (Cond.code y_X_proofLength b_X_proofLength 1 (some .int)) ∈ tW := List.mem_filter.mpr ⟨(List.mem_append_right _ (List.mem_of_getElem? (i := 249) rfl)), rfl⟩
set_option maxRecDepth 100000 in
theorem mw_654 : (Cond.code y_Client_init b_Client_init 4 none) ∈ tW := List.mem_filter.mpr ⟨(List.mem_append_right _ (List.mem_of_getElem? (i := 118) rfl)), rfl⟩
set_option maxRecDepth 100000 in
theorem mw_655 : (Cond.code y_Msg_writeInt b_Msg_writeInt 4 none) ∈ tW := List.mem_filter.mpr ⟨(List.mem_append_right _ (List.mem_of_getElem? (i := 432) rfl)), rfl⟩
set_option maxRecDepth 100000 in
theorem mw_656 : (Cond.code y_Side_addBytesToTranscript b_Side_addBytesToTranscript 5 none) ∈ tW := List.mem_filter.mpr ⟨(List.mem_append_right _ (List.mem_of_getElem? (i := 448) rfl)), rfl⟩
set_option maxRecDepth 100000 in
theorem mw_657 : (Cond.code y_Side_addToTranscript b_Side_addToTranscript 2 none) ∈ tW := List.mem_filter.mpr ⟨(List.mem_append_right _ (List.mem_of_getElem? (i := 442) rfl)), rfl⟩
set_option maxRecDepth 100000 in
theorem mw_658 : (Cond.code y_Flight_begin b_Flight_begin 1 none) ∈ tW := List.mem_filter.mpr ⟨(List.mem_append_right _ (List.mem_of_getElem? (i := 452) rfl)), rfl⟩
set_option maxRecDepth 100000 in
theorem mw_659 : (Cond.code y_Frag_cutFrom b_Frag_cutFrom 5 none) ∈ tW := List.mem_filter.mpr ⟨(List.mem_append_right _ (List.mem_of_getElem? (i := 460) rfl)), rfl⟩
set_option maxRecDepth 100000 in
theorem mw_660 : (Cond.code y_Flight_add b_Flight_add 4 none) ∈ tW := List.mem_filter.mpr ⟨(List.mem_append_right _ (List.mem_of_getElem? (i := 456) rfl)), rfl⟩
set_option maxRecDepth 100000 in
theorem mw_661 : (Cond.code y_Side_takeNumber b_Side_takeNumber 3 (some .int)) ∈ tW := List.mem_filter.mpr ⟨(List.mem_append_right _ (List.mem_of_getElem? (i := 473) rfl)), rfl⟩
set_option maxRecDepth 100000 in
theorem mw_662 : (Cond.code y_X_nameOf b_X_nameOf 2 (some .int)) ∈ tW := List.mem_filter.mpr ⟨(List.mem_append_right _ (List.mem_of_getElem? (i := 480) rfl)), rfl⟩
set_option maxRecDepth 100000 in
theorem mw_663 : (Cond.code y_Frag_rememberSending b_Frag_rememberSending 2 none) ∈ tW := List.mem_filter.mpr ⟨(List.mem_append_right _ (List.mem_of_getElem? (i := 477) rfl)), rfl⟩
set_option maxRecDepth 100000 in
theorem mw_664 : (Cond.code y_Rec_address b_Rec_address 5 none) ∈ tW := List.mem_filter.mpr ⟨(List.mem_append_right _ (List.mem_of_getElem? (i := 488) rfl)), rfl⟩
set_option maxRecDepth 100000 in
theorem mw_665 : (Cond.code y_Net_append b_Net_append 6 (some (.object "LossyHandshake$NetRecord"))) ∈ tW := List.mem_filter.mpr ⟨(List.mem_append_right _ (List.mem_of_getElem? (i := 484) rfl)), rfl⟩
set_option maxRecDepth 100000 in
theorem mw_666 : (Cond.code y_Rec_markAsPiece b_Rec_markAsPiece 3 none) ∈ tW := List.mem_filter.mpr ⟨(List.mem_append_right _ (List.mem_of_getElem? (i := 492) rfl)), rfl⟩
set_option maxRecDepth 100000 in
theorem mw_667 : (Cond.code y_Rec_hold b_Rec_hold 4 none) ∈ tW := List.mem_filter.mpr ⟨(List.mem_append_right _ (List.mem_of_getElem? (i := 496) rfl)), rfl⟩
set_option maxRecDepth 100000 in
theorem mw_668 : (Cond.code y_Side_sendOpenFragments b_Side_sendOpenFragments 5 none) ∈ tW := List.mem_filter.mpr ⟨(List.mem_append_right _ (List.mem_of_getElem? (i := 467) rfl)), rfl⟩
set_option maxRecDepth 100000 in
theorem mw_669 : (Cond.code y_Client_sendFlight b_Client_sendFlight 2 none) ∈ tW := List.mem_filter.mpr ⟨(List.mem_append_right _ (List.mem_of_getElem? (i := 436) rfl)), rfl⟩
set_option maxRecDepth 100000 in
theorem mw_670 : (Cond.code y_Side_enter b_Side_enter 2 none) ∈ tW := List.mem_filter.mpr ⟨(List.mem_append_right _ (List.mem_of_getElem? (i := 503) rfl)), rfl⟩
set_option maxRecDepth 100000 in
theorem mw_671 : (Cond.code y_Client_sendHello b_Client_sendHello 1 none) ∈ tW := List.mem_filter.mpr ⟨(List.mem_append_right _ (List.mem_of_getElem? (i := 428) rfl)), rfl⟩
set_option maxRecDepth 100000 in
theorem mw_672 : (Cond.code y_Win_isOld b_Win_isOld 3 (some .boolean)) ∈ tW := List.mem_filter.mpr ⟨(List.mem_append_right _ (List.mem_of_getElem? (i := 596) rfl)), rfl⟩
set_option maxRecDepth 100000 in
theorem mw_673 : (Cond.code y_Side_throwsAway b_Side_throwsAway 2 (some .boolean)) ∈ tW := List.mem_filter.mpr ⟨(List.mem_append_right _ (List.mem_of_getElem? (i := 592) rfl)), rfl⟩
set_option maxRecDepth 100000 in
theorem mw_674 : (Cond.code y_Win_letIn b_Win_letIn 3 none) ∈ tW := List.mem_filter.mpr ⟨(List.mem_append_right _ (List.mem_of_getElem? (i := 606) rfl)), rfl⟩
set_option maxRecDepth 100000 in
theorem mw_675 : (Cond.code y_Side_letIn b_Side_letIn 2 none) ∈ tW := List.mem_filter.mpr ⟨(List.mem_append_right _ (List.mem_of_getElem? (i := 602) rfl)), rfl⟩
set_option maxRecDepth 100000 in
theorem mw_676 : (Cond.code y_Frag_wasSentIn b_Frag_wasSentIn 3 (some .boolean)) ∈ tW := List.mem_filter.mpr ⟨(List.mem_append_right _ (List.mem_of_getElem? (i := 624) rfl)), rfl⟩
set_option maxRecDepth 100000 in
theorem mw_677 : (Cond.code y_Flight_closeSentIn b_Flight_closeSentIn 3 none) ∈ tW := List.mem_filter.mpr ⟨(List.mem_append_right _ (List.mem_of_getElem? (i := 620) rfl)), rfl⟩
set_option maxRecDepth 100000 in
theorem mw_678 : (Cond.code y_Side_closeNamed b_Side_closeNamed 3 none) ∈ tW := List.mem_filter.mpr ⟨(List.mem_append_right _ (List.mem_of_getElem? (i := 616) rfl)), rfl⟩
set_option maxRecDepth 100000 in
theorem mw_679 : (Cond.code y_Flight_countOpen b_Flight_countOpen 3 (some .int)) ∈ tW := List.mem_filter.mpr ⟨(List.mem_append_right _ (List.mem_of_getElem? (i := 527) rfl)), rfl⟩
set_option maxRecDepth 100000 in
theorem mw_680 : (Cond.code y_Client_takeAck b_Client_takeAck 2 none) ∈ tW := List.mem_filter.mpr ⟨(List.mem_append_right _ (List.mem_of_getElem? (i := 610) rfl)), rfl⟩
set_option maxRecDepth 100000 in
theorem mw_681 : (Cond.code y_Side_keepValue b_Side_keepValue 2 none) ∈ tW := List.mem_filter.mpr ⟨(List.mem_append_right _ (List.mem_of_getElem? (i := 631) rfl)), rfl⟩
set_option maxRecDepth 100000 in
theorem mw_682 : (Cond.code y_Rec_readFirstInt b_Rec_readFirstInt 3 (some .int)) ∈ tW := List.mem_filter.mpr ⟨(List.mem_append_right _ (List.mem_of_getElem? (i := 643) rfl)), rfl⟩
set_option maxRecDepth 100000 in
theorem mw_683 : (Cond.code y_Client_takeRetry b_Client_takeRetry 2 none) ∈ tW := List.mem_filter.mpr ⟨(List.mem_append_right _ (List.mem_of_getElem? (i := 635) rfl)), rfl⟩
set_option maxRecDepth 100000 in
theorem mw_684 : (Cond.code y_Flight_forget b_Flight_forget 1 none) ∈ tW := List.mem_filter.mpr ⟨(List.mem_append_right _ (List.mem_of_getElem? (i := 537) rfl)), rfl⟩
set_option maxRecDepth 100000 in
theorem mw_685 : (Cond.code y_Rec_name b_Rec_name 1 (some .int)) ∈ tW := List.mem_filter.mpr ⟨(List.mem_append_right _ (List.mem_of_getElem? (i := 660) rfl)), rfl⟩
set_option maxRecDepth 100000 in
theorem mw_686 : (Cond.code y_Noted_add b_Noted_add 3 none) ∈ tW := List.mem_filter.mpr ⟨(List.mem_append_right _ (List.mem_of_getElem? (i := 665) rfl)), rfl⟩
set_option maxRecDepth 100000 in
theorem mw_687 : (Cond.code y_Client_takeNextMessage b_Client_takeNextMessage 2 none) ∈ tW := List.mem_filter.mpr ⟨(List.mem_append_right _ (List.mem_of_getElem? (i := 677) rfl)), rfl⟩
set_option maxRecDepth 100000 in
theorem mw_688 : (Cond.code y_Client_takeFlightPiece b_Client_takeFlightPiece 3 none) ∈ tW := List.mem_filter.mpr ⟨(List.mem_append_right _ (List.mem_of_getElem? (i := 647) rfl)), rfl⟩
set_option maxRecDepth 100000 in
theorem mw_689 : (Cond.code y_Client_answerFlight b_Client_answerFlight 1 none) ∈ tW := List.mem_filter.mpr ⟨(List.mem_append_right _ (List.mem_of_getElem? (i := 682) rfl)), rfl⟩
set_option maxRecDepth 100000 in
theorem mw_690 : (Cond.code y_Client_accept b_Client_accept 2 (some .boolean)) ∈ tW := List.mem_filter.mpr ⟨(List.mem_append_right _ (List.mem_of_getElem? (i := 586) rfl)), rfl⟩
set_option maxRecDepth 100000 in
theorem mw_691 : (Cond.code y_Flight_waitTwiceAsLong b_Flight_waitTwiceAsLong 1 none) ∈ tW := List.mem_filter.mpr ⟨(List.mem_append_right _ (List.mem_of_getElem? (i := 543) rfl)), rfl⟩
set_option maxRecDepth 100000 in
theorem mw_692 : (Cond.code y_Flight_hasWaited b_Flight_hasWaited 1 (some .boolean)) ∈ tW := List.mem_filter.mpr ⟨(List.mem_append_right _ (List.mem_of_getElem? (i := 523) rfl)), rfl⟩
set_option maxRecDepth 100000 in
theorem mw_693 : (Cond.code y_Msg_writeMixes b_Msg_writeMixes 3 none) ∈ tW := List.mem_filter.mpr ⟨(List.mem_append_right _ (List.mem_of_getElem? (i := 732) rfl)), rfl⟩
set_option maxRecDepth 100000 in
theorem mw_694 : (Cond.code y_Rec_init b_Rec_init 1 none) ∈ tW := List.mem_filter.mpr ⟨(List.mem_append_right _ (List.mem_of_getElem? (i := 40) rfl)), rfl⟩
set_option maxRecDepth 100000 in
theorem mw_695 : (Cond.code y_Net_init b_Net_init 2 none) ∈ tW := List.mem_filter.mpr ⟨(List.mem_append_right _ (List.mem_of_getElem? (i := 33) rfl)), rfl⟩
set_option maxRecDepth 100000 in
theorem mw_696 : (Cond.code y_Net_has b_Net_has 2 (some .boolean)) ∈ tW := List.mem_filter.mpr ⟨(List.mem_append_right _ (List.mem_of_getElem? (i := 576) rfl)), rfl⟩
set_option maxRecDepth 100000 in
theorem mw_697 : (Cond.code y_Rec_becomeLike b_Rec_becomeLike 2 none) ∈ tW := List.mem_filter.mpr ⟨(List.mem_append_right _ (List.mem_of_getElem? (i := 771) rfl)), rfl⟩
set_option maxRecDepth 100000 in
theorem mw_698 : (Cond.code y_Net_appendLike b_Net_appendLike 2 (some .boolean)) ∈ tW := List.mem_filter.mpr ⟨(List.mem_append_right _ (List.mem_of_getElem? (i := 767) rfl)), rfl⟩
set_option maxRecDepth 100000 in
theorem mw_699 : (Cond.code y_Net_takeOut b_Net_takeOut 4 (some (.object "LossyHandshake$NetRecord"))) ∈ tW := List.mem_filter.mpr ⟨(List.mem_append_right _ (List.mem_of_getElem? (i := 580) rfl)), rfl⟩
set_option maxRecDepth 100000 in
theorem mw_700 : (Cond.code y_Rec_holdValue b_Rec_holdValue 2 none) ∈ tW := List.mem_filter.mpr ⟨(List.mem_append_right _ (List.mem_of_getElem? (i := 568) rfl)), rfl⟩
set_option maxRecDepth 100000 in
theorem mw_701 : (Cond.code y_Rec_isPieceOf b_Rec_isPieceOf 2 (some .boolean)) ∈ tW := List.mem_filter.mpr ⟨(List.mem_append_right _ (List.mem_of_getElem? (i := 694) rfl)), rfl⟩
set_option maxRecDepth 100000 in
theorem mw_702 : (Cond.code y_Rec_headline b_Rec_headline 1 (some .int)) ∈ tW := List.mem_filter.mpr ⟨(List.mem_append_right _ (List.mem_of_getElem? (i := 794) rfl)), rfl⟩
set_option maxRecDepth 100000 in
theorem mw_703 : (Cond.code y_Rec_summary b_Rec_summary 1 (some .int)) ∈ tW := List.mem_filter.mpr ⟨(List.mem_append_right _ (List.mem_of_getElem? (i := 804) rfl)), rfl⟩
set_option maxRecDepth 100000 in
theorem mw_704 : (Cond.code y_Rec_fragmentByte b_Rec_fragmentByte 2 (some .int)) ∈ tW := List.mem_filter.mpr ⟨(List.mem_append_right _ (List.mem_of_getElem? (i := 812) rfl)), rfl⟩
set_option maxRecDepth 100000 in
theorem mw_705 : (Cond.code y_X_serverSecret b_X_serverSecret 1 (some .int)) ∈ tW := List.mem_filter.mpr ⟨(List.mem_append_right _ (List.mem_of_getElem? (i := 376) rfl)), rfl⟩
set_option maxRecDepth 100000 in
theorem mw_706 : (Cond.code y_Server_init b_Server_init 4 none) ∈ tW := List.mem_filter.mpr ⟨(List.mem_append_right _ (List.mem_of_getElem? (i := 370) rfl)), rfl⟩
set_option maxRecDepth 100000 in
theorem mw_707 : (Cond.code y_Server_sendRetry b_Server_sendRetry 3 none) ∈ tW := List.mem_filter.mpr ⟨(List.mem_append_right _ (List.mem_of_getElem? (i := 698) rfl)), rfl⟩
set_option maxRecDepth 100000 in
theorem mw_708 : (Cond.code y_Server_addFirstThreeToTranscript b_Server_addFirstThreeToTranscript 3 none) ∈ tW := List.mem_filter.mpr ⟨(List.mem_append_right _ (List.mem_of_getElem? (i := 721) rfl)), rfl⟩
set_option maxRecDepth 100000 in
theorem mw_709 : (Cond.code y_Server_workOutFlight b_Server_workOutFlight 2 none) ∈ tW := List.mem_filter.mpr ⟨(List.mem_append_right _ (List.mem_of_getElem? (i := 728) rfl)), rfl⟩
set_option maxRecDepth 100000 in
theorem mw_710 : (Cond.code y_Server_takeHelloAgain b_Server_takeHelloAgain 2 none) ∈ tW := List.mem_filter.mpr ⟨(List.mem_append_right _ (List.mem_of_getElem? (i := 717) rfl)), rfl⟩
set_option maxRecDepth 100000 in
theorem mw_711 : (Cond.code y_Side_sendAck b_Side_sendAck 1 none) ∈ tW := List.mem_filter.mpr ⟨(List.mem_append_right _ (List.mem_of_getElem? (i := 519) rfl)), rfl⟩
set_option maxRecDepth 100000 in
theorem mw_712 : (Cond.code y_Server_takeClientDone b_Server_takeClientDone 2 none) ∈ tW := List.mem_filter.mpr ⟨(List.mem_append_right _ (List.mem_of_getElem? (i := 748) rfl)), rfl⟩
set_option maxRecDepth 100000 in
theorem mw_713 : (Cond.code y_Server_accept b_Server_accept 2 (some .boolean)) ∈ tW := List.mem_filter.mpr ⟨(List.mem_append_right _ (List.mem_of_getElem? (i := 687) rfl)), rfl⟩
set_option maxRecDepth 100000 in
theorem mw_714 : (Cond.code y_Side_sendData b_Side_sendData 2 (some .boolean)) ∈ tW := List.mem_filter.mpr ⟨(List.mem_append_right _ (List.mem_of_getElem? (i := 564) rfl)), rfl⟩
set_option maxRecDepth 100000 in
theorem mw_715 : (Cond.code y_Side_valueAt b_Side_valueAt 2 (some .int)) ∈ tW := List.mem_filter.mpr ⟨(List.mem_append_right _ (List.mem_of_getElem? (i := 847) rfl)), rfl⟩
set_option maxRecDepth 100000 in
theorem mw_716 : (Cond.code y_Side_sendAgainOrFail b_Side_sendAgainOrFail 1 none) ∈ tW := List.mem_filter.mpr ⟨(List.mem_append_right _ (List.mem_of_getElem? (i := 533) rfl)), rfl⟩
set_option maxRecDepth 100000 in
theorem mw_717 : (Cond.code y_Side_passTick b_Side_passTick 1 none) ∈ tW := List.mem_filter.mpr ⟨(List.mem_append_right _ (List.mem_of_getElem? (i := 513) rfl)), rfl⟩
set_option maxRecDepth 100000 in
theorem mw_718 : (Cond.code y_X_init b_X_init 4 none) ∈ tW := List.mem_filter.mpr ⟨(List.mem_append_right _ (List.mem_of_getElem? (i := 19) rfl)), rfl⟩
set_option maxRecDepth 100000 in
theorem mw_719 : (Cond.code y_X_start b_X_start 1 (some .boolean)) ∈ tW := List.mem_filter.mpr ⟨(List.mem_append_right _ (List.mem_of_getElem? (i := 424) rfl)), rfl⟩
set_option maxRecDepth 100000 in
theorem mw_720 : (Cond.code y_X_tick b_X_tick 2 (some .int)) ∈ tW := List.mem_filter.mpr ⟨(List.mem_append_right _ (List.mem_of_getElem? (i := 507) rfl)), rfl⟩
set_option maxRecDepth 100000 in
theorem mw_721 : (Cond.code y_X_isSide b_X_isSide 1 (some .boolean)) ∈ tW := List.mem_filter.mpr ⟨(List.mem_append_right _ (List.mem_of_getElem? (i := 554) rfl)), rfl⟩
set_option maxRecDepth 100000 in
theorem mw_722 : (Cond.code y_X_sideOf b_X_sideOf 2 (some (.object "LossyHandshake$Side"))) ∈ tW := List.mem_filter.mpr ⟨(List.mem_append_right _ (List.mem_of_getElem? (i := 558) rfl)), rfl⟩
set_option maxRecDepth 100000 in
theorem mw_723 : (Cond.code y_X_send b_X_send 3 (some .boolean)) ∈ tW := List.mem_filter.mpr ⟨(List.mem_append_right _ (List.mem_of_getElem? (i := 551) rfl)), rfl⟩
set_option maxRecDepth 100000 in
theorem mw_724 : (Cond.code y_X_deliver b_X_deliver 4 (some .int)) ∈ tW := List.mem_filter.mpr ⟨(List.mem_append_right _ (List.mem_of_getElem? (i := 572) rfl)), rfl⟩
set_option maxRecDepth 100000 in
theorem mw_725 : (Cond.code y_X_drop b_X_drop 2 (some .boolean)) ∈ tW := List.mem_filter.mpr ⟨(List.mem_append_right _ (List.mem_of_getElem? (i := 759) rfl)), rfl⟩
set_option maxRecDepth 100000 in
theorem mw_726 : (Cond.code y_X_copy b_X_copy 2 (some .boolean)) ∈ tW := List.mem_filter.mpr ⟨(List.mem_append_right _ (List.mem_of_getElem? (i := 763) rfl)), rfl⟩
set_option maxRecDepth 100000 in
theorem mw_727 : (Cond.code y_X_spoil b_X_spoil 2 (some .boolean)) ∈ tW := List.mem_filter.mpr ⟨(List.mem_append_right _ (List.mem_of_getElem? (i := 778) rfl)), rfl⟩
set_option maxRecDepth 100000 in
theorem mw_728 : (Cond.code y_X_waiting b_X_waiting 1 (some .int)) ∈ tW := List.mem_filter.mpr ⟨(List.mem_append_right _ (List.mem_of_getElem? (i := 782) rfl)), rfl⟩
set_option maxRecDepth 100000 in
theorem mw_729 : (Cond.code y_X_lost b_X_lost 1 (some .int)) ∈ tW := List.mem_filter.mpr ⟨(List.mem_append_right _ (List.mem_of_getElem? (i := 786) rfl)), rfl⟩
set_option maxRecDepth 100000 in
theorem mw_730 : (Cond.code y_X_record b_X_record 2 (some .int)) ∈ tW := List.mem_filter.mpr ⟨(List.mem_append_right _ (List.mem_of_getElem? (i := 790) rfl)), rfl⟩
set_option maxRecDepth 100000 in
theorem mw_731 : (Cond.code y_X_content b_X_content 2 (some .int)) ∈ tW := List.mem_filter.mpr ⟨(List.mem_append_right _ (List.mem_of_getElem? (i := 800) rfl)), rfl⟩
set_option maxRecDepth 100000 in
theorem mw_732 : (Cond.code y_X_byteOf b_X_byteOf 3 (some .int)) ∈ tW := List.mem_filter.mpr ⟨(List.mem_append_right _ (List.mem_of_getElem? (i := 808) rfl)), rfl⟩
set_option maxRecDepth 100000 in
theorem mw_733 : (Cond.code y_X_state b_X_state 2 (some .int)) ∈ tW := List.mem_filter.mpr ⟨(List.mem_append_right _ (List.mem_of_getElem? (i := 816) rfl)), rfl⟩
set_option maxRecDepth 100000 in
theorem mw_734 : (Cond.code y_X_transcript b_X_transcript 2 (some .int)) ∈ tW := List.mem_filter.mpr ⟨(List.mem_append_right _ (List.mem_of_getElem? (i := 820) rfl)), rfl⟩
set_option maxRecDepth 100000 in
theorem mw_735 : (Cond.code y_X_open b_X_open 2 (some .int)) ∈ tW := List.mem_filter.mpr ⟨(List.mem_append_right _ (List.mem_of_getElem? (i := 824) rfl)), rfl⟩
set_option maxRecDepth 100000 in
theorem mw_736 : (Cond.code y_X_kept b_X_kept 2 (some .int)) ∈ tW := List.mem_filter.mpr ⟨(List.mem_append_right _ (List.mem_of_getElem? (i := 829) rfl)), rfl⟩
set_option maxRecDepth 100000 in
theorem mw_737 : (Cond.code y_X_received b_X_received 2 (some .int)) ∈ tW := List.mem_filter.mpr ⟨(List.mem_append_right _ (List.mem_of_getElem? (i := 837) rfl)), rfl⟩
set_option maxRecDepth 100000 in
theorem mw_738 : (Cond.code y_X_value b_X_value 3 (some .int)) ∈ tW := List.mem_filter.mpr ⟨(List.mem_append_right _ (List.mem_of_getElem? (i := 841) rfl)), rfl⟩
set_option maxRecDepth 100000 in
theorem mw_739 : (Cond.code y_Mo_mix b_Mo_mix 3 (some .int)) ∈ tW := List.mem_filter.mpr ⟨(List.mem_append_right _ (List.mem_of_getElem? (i := 859) rfl)), rfl⟩
set_option maxRecDepth 100000 in
theorem mw_740 : (Cond.initialized "LossyHandshakeModel") ∈ tW := List.mem_filter.mpr ⟨(List.mem_append_right _ (List.mem_of_getElem? (i := 14) rfl)), rfl⟩
set_option maxRecDepth 100000 in
theorem mw_741 : (Cond.code y_Mo_sizeOf b_Mo_sizeOf 2 (some .int)) ∈ tW := List.mem_filter.mpr ⟨(List.mem_append_right _ (List.mem_of_getElem? (i := 868) rfl)), rfl⟩
set_option maxRecDepth 100000 in
theorem mw_742 : (Cond.code y_Mo_byteAt b_Mo_byteAt 2 (some .int)) ∈ tW := List.mem_filter.mpr ⟨(List.mem_append_right _ (List.mem_of_getElem? (i := 875) rfl)), rfl⟩
set_option maxRecDepth 100000 in
theorem mw_743 : (Cond.code y_Mo_content2 b_Mo_content2 3 (some .int)) ∈ tW := List.mem_filter.mpr ⟨(List.mem_append_right _ (List.mem_of_getElem? (i := 872) rfl)), rfl⟩
set_option maxRecDepth 100000 in
theorem mw_744 : (Cond.code y_Mo_told b_Mo_told 5 (some .int)) ∈ tW := List.mem_filter.mpr ⟨(List.mem_append_right _ (List.mem_of_getElem? (i := 864) rfl)), rfl⟩
set_option maxRecDepth 100000 in
theorem mw_745 : (Cond.code y_Mo_init b_Mo_init 4 none) ∈ tW := List.mem_filter.mpr ⟨(List.mem_append_right _ (List.mem_of_getElem? (i := 855) rfl)), rfl⟩
set_option maxRecDepth 100000 in
theorem mw_746 : (Cond.code y_Mo_become b_Mo_become 3 none) ∈ tW := List.mem_filter.mpr ⟨(List.mem_append_right _ (List.mem_of_getElem? (i := 1037) rfl)), rfl⟩
set_option maxRecDepth 100000 in
theorem mw_747 : (Cond.code y_Mo_put b_Mo_put 5 (some .int)) ∈ tW := List.mem_filter.mpr ⟨(List.mem_append_right _ (List.mem_of_getElem? (i := 1049) rfl)), rfl⟩
set_option maxRecDepth 100000 in
theorem mw_748 : (Cond.code y_Mo_sendPiece b_Mo_sendPiece 9 none) ∈ tW := List.mem_filter.mpr ⟨(List.mem_append_right _ (List.mem_of_getElem? (i := 1045) rfl)), rfl⟩
set_option maxRecDepth 100000 in
theorem mw_749 : (Cond.code y_Mo_fly b_Mo_fly 6 none) ∈ tW := List.mem_filter.mpr ⟨(List.mem_append_right _ (List.mem_of_getElem? (i := 1041) rfl)), rfl⟩
set_option maxRecDepth 100000 in
theorem mw_750 : (Cond.code y_Mo_start b_Mo_start 1 (some .boolean)) ∈ tW := List.mem_filter.mpr ⟨(List.mem_append_right _ (List.mem_of_getElem? (i := 1033) rfl)), rfl⟩
set_option maxRecDepth 100000 in
theorem mw_751 : (Cond.code y_Mo_writes b_Mo_writes 4 (some .boolean)) ∈ tW := List.mem_filter.mpr ⟨(List.mem_append_right _ (List.mem_of_getElem? (i := 1065) rfl)), rfl⟩
set_option maxRecDepth 100000 in
theorem mw_752 : (Cond.code y_Mo_sendAck b_Mo_sendAck 6 none) ∈ tW := List.mem_filter.mpr ⟨(List.mem_append_right _ (List.mem_of_getElem? (i := 1061) rfl)), rfl⟩
set_option maxRecDepth 100000 in
theorem mw_753 : (Cond.code y_Mo_openOf b_Mo_openOf 4 (some .int)) ∈ tW := List.mem_filter.mpr ⟨(List.mem_append_right _ (List.mem_of_getElem? (i := 1069) rfl)), rfl⟩
set_option maxRecDepth 100000 in
theorem mw_754 : (Cond.code y_Mo_pass b_Mo_pass 3 none) ∈ tW := List.mem_filter.mpr ⟨(List.mem_append_right _ (List.mem_of_getElem? (i := 1057) rfl)), rfl⟩
set_option maxRecDepth 100000 in
theorem mw_755 : (Cond.code y_Mo_tick b_Mo_tick 1 (some .int)) ∈ tW := List.mem_filter.mpr ⟨(List.mem_append_right _ (List.mem_of_getElem? (i := 1053) rfl)), rfl⟩
set_option maxRecDepth 100000 in
theorem mw_756 : (Cond.code y_Mo_send b_Mo_send 5 (some .boolean)) ∈ tW := List.mem_filter.mpr ⟨(List.mem_append_right _ (List.mem_of_getElem? (i := 1073) rfl)), rfl⟩
set_option maxRecDepth 100000 in
theorem mw_757 : (Cond.code y_Mo_isRecord b_Mo_isRecord 2 (some .boolean)) ∈ tW := List.mem_filter.mpr ⟨(List.mem_append_right _ (List.mem_of_getElem? (i := 1017) rfl)), rfl⟩
set_option maxRecDepth 100000 in
theorem mw_758 : (Cond.code y_Mo_reads b_Mo_reads 4 (some .boolean)) ∈ tW := List.mem_filter.mpr ⟨(List.mem_append_right _ (List.mem_of_getElem? (i := 1081) rfl)), rfl⟩
set_option maxRecDepth 100000 in
theorem mw_759 : (Cond.code y_Mo_isOld b_Mo_isOld 5 (some .boolean)) ∈ tW := List.mem_filter.mpr ⟨(List.mem_append_right _ (List.mem_of_getElem? (i := 1085) rfl)), rfl⟩
set_option maxRecDepth 100000 in
theorem mw_760 : (Cond.code y_Mo_close b_Mo_close 6 none) ∈ tW := List.mem_filter.mpr ⟨(List.mem_append_right _ (List.mem_of_getElem? (i := 1089) rfl)), rfl⟩
set_option maxRecDepth 100000 in
theorem mw_761 : (Cond.code y_Mo_copyTo b_Mo_copyTo 4 none) ∈ tW := List.mem_filter.mpr ⟨(List.mem_append_right _ (List.mem_of_getElem? (i := 1021) rfl)), rfl⟩
set_option maxRecDepth 100000 in
theorem mw_762 : (Cond.code y_Mo_drop b_Mo_drop 3 (some .boolean)) ∈ tW := List.mem_filter.mpr ⟨(List.mem_append_right _ (List.mem_of_getElem? (i := 1013) rfl)), rfl⟩
set_option maxRecDepth 100000 in
theorem mw_763 : (Cond.code y_Mo_retry b_Mo_retry 3 none) ∈ tW := List.mem_filter.mpr ⟨(List.mem_append_right _ (List.mem_of_getElem? (i := 1098) rfl)), rfl⟩
set_option maxRecDepth 100000 in
theorem mw_764 : (Cond.code y_Mo_let b_Mo_let 5 none) ∈ tW := List.mem_filter.mpr ⟨(List.mem_append_right _ (List.mem_of_getElem? (i := 1102) rfl)), rfl⟩
set_option maxRecDepth 100000 in
theorem mw_765 : (Cond.code y_Mo_welcome b_Mo_welcome 3 (some .boolean)) ∈ tW := List.mem_filter.mpr ⟨(List.mem_append_right _ (List.mem_of_getElem? (i := 1094) rfl)), rfl⟩
set_option maxRecDepth 100000 in
theorem mw_766 : (Cond.code y_Mo_note b_Mo_note 5 none) ∈ tW := List.mem_filter.mpr ⟨(List.mem_append_right _ (List.mem_of_getElem? (i := 1110) rfl)), rfl⟩
set_option maxRecDepth 100000 in
theorem mw_767 : (Cond.code y_Mo_isWhole b_Mo_isWhole 4 (some .boolean)) ∈ tW := List.mem_filter.mpr ⟨(List.mem_append_right _ (List.mem_of_getElem? (i := 1118) rfl)), rfl⟩
set_option maxRecDepth 100000 in
theorem mw_768 : (Cond.code y_Mo_gather b_Mo_gather 5 none) ∈ tW := List.mem_filter.mpr ⟨(List.mem_append_right _ (List.mem_of_getElem? (i := 1114) rfl)), rfl⟩
set_option maxRecDepth 100000 in
theorem mw_769 : (Cond.code y_Mo_takeFragment b_Mo_takeFragment 7 none) ∈ tW := List.mem_filter.mpr ⟨(List.mem_append_right _ (List.mem_of_getElem? (i := 1106) rfl)), rfl⟩
set_option maxRecDepth 100000 in
theorem mw_770 : (Cond.code y_Mo_deliver b_Mo_deliver 11 (some .int)) ∈ tW := List.mem_filter.mpr ⟨(List.mem_append_right _ (List.mem_of_getElem? (i := 1077) rfl)), rfl⟩
set_option maxRecDepth 100000 in
theorem mw_771 : (Cond.code y_Mo_copy b_Mo_copy 2 (some .boolean)) ∈ tW := List.mem_filter.mpr ⟨(List.mem_append_right _ (List.mem_of_getElem? (i := 1025) rfl)), rfl⟩
set_option maxRecDepth 100000 in
theorem mw_772 : (Cond.code y_Mo_spoil b_Mo_spoil 2 (some .boolean)) ∈ tW := List.mem_filter.mpr ⟨(List.mem_append_right _ (List.mem_of_getElem? (i := 1029) rfl)), rfl⟩
set_option maxRecDepth 100000 in
theorem mw_773 : (Cond.code y_Mo_waiting b_Mo_waiting 1 (some .int)) ∈ tW := List.mem_filter.mpr ⟨(List.mem_append_right _ (List.mem_of_getElem? (i := 1122) rfl)), rfl⟩
set_option maxRecDepth 100000 in
theorem mw_774 : (Cond.code y_Mo_lost b_Mo_lost 1 (some .int)) ∈ tW := List.mem_filter.mpr ⟨(List.mem_append_right _ (List.mem_of_getElem? (i := 1126) rfl)), rfl⟩
set_option maxRecDepth 100000 in
theorem mw_775 : (Cond.code y_Mo_record b_Mo_record 2 (some .int)) ∈ tW := List.mem_filter.mpr ⟨(List.mem_append_right _ (List.mem_of_getElem? (i := 1130) rfl)), rfl⟩
set_option maxRecDepth 100000 in
theorem mw_776 : (Cond.code y_Mo_numberOf b_Mo_numberOf 1 (some .int)) ∈ tW := List.mem_filter.mpr ⟨(List.mem_append_right _ (List.mem_of_getElem? (i := 1139) rfl)), rfl⟩
set_option maxRecDepth 100000 in
theorem mw_777 : (Cond.code y_Mo_content1 b_Mo_content1 2 (some .int)) ∈ tW := List.mem_filter.mpr ⟨(List.mem_append_right _ (List.mem_of_getElem? (i := 1136) rfl)), rfl⟩
set_option maxRecDepth 100000 in
theorem mw_778 : (Cond.code y_Mo_byteOf b_Mo_byteOf 3 (some .int)) ∈ tW := List.mem_filter.mpr ⟨(List.mem_append_right _ (List.mem_of_getElem? (i := 1143) rfl)), rfl⟩
set_option maxRecDepth 100000 in
theorem mw_779 : (Cond.code y_Mo_noSide b_Mo_noSide 1 (some .boolean)) ∈ tW := List.mem_filter.mpr ⟨(List.mem_append_right _ (List.mem_of_getElem? (i := 1150) rfl)), rfl⟩
set_option maxRecDepth 100000 in
theorem mw_780 : (Cond.code y_Mo_state b_Mo_state 2 (some .int)) ∈ tW := List.mem_filter.mpr ⟨(List.mem_append_right _ (List.mem_of_getElem? (i := 1147) rfl)), rfl⟩
set_option maxRecDepth 100000 in
theorem mw_781 : (Cond.code y_Mo_transcript b_Mo_transcript 2 (some .int)) ∈ tW := List.mem_filter.mpr ⟨(List.mem_append_right _ (List.mem_of_getElem? (i := 1154) rfl)), rfl⟩
set_option maxRecDepth 100000 in
theorem mw_782 : (Cond.code y_Mo_open b_Mo_open 2 (some .int)) ∈ tW := List.mem_filter.mpr ⟨(List.mem_append_right _ (List.mem_of_getElem? (i := 1158) rfl)), rfl⟩
set_option maxRecDepth 100000 in
theorem mw_783 : (Cond.code y_Mo_kept b_Mo_kept 5 (some .int)) ∈ tW := List.mem_filter.mpr ⟨(List.mem_append_right _ (List.mem_of_getElem? (i := 1162) rfl)), rfl⟩
set_option maxRecDepth 100000 in
theorem mw_784 : (Cond.code y_Mo_received b_Mo_received 2 (some .int)) ∈ tW := List.mem_filter.mpr ⟨(List.mem_append_right _ (List.mem_of_getElem? (i := 1166) rfl)), rfl⟩
set_option maxRecDepth 100000 in
theorem mw_785 : (Cond.code y_Mo_value b_Mo_value 3 (some .int)) ∈ tW := List.mem_filter.mpr ⟨(List.mem_append_right _ (List.mem_of_getElem? (i := 1170) rfl)), rfl⟩
