set_option maxRecDepth 100000 in
theorem mv_0 : (Cond.instantiable "LossyHandshake" 3) ∈ tW := List.mem_filter.mpr ⟨(List.mem_append_right _ (List.mem_of_getElem? (i := 16) rfl)), rfl⟩
set_option maxRecDepth 100000 in
theorem mv_1 : (Cond.instantiable "LossyHandshakeModel" 44) ∈ tW := List.mem_filter.mpr ⟨(List.mem_append_right _ (List.mem_of_getElem? (i := 852) rfl)), rfl⟩
set_option maxRecDepth 100000 in
theorem mv_2 : (Cond.methodLink "LossyHandshakeLaw" 21 y_X_start) ∈ tW := List.mem_filter.mpr ⟨(List.mem_append_right _ (List.mem_of_getElem? (i := 421) rfl)), rfl⟩
set_option maxRecDepth 100000 in
theorem mv_3 : (Cond.instanceMethod y_X_start) ∈ tW := List.mem_filter.mpr ⟨(List.mem_append_right _ (List.mem_of_getElem? (i := 422) rfl)), rfl⟩
set_option maxRecDepth 100000 in
theorem mv_4 : (Cond.selects "LossyHandshake" y_X_start y_X_start) ∈ tW := List.mem_filter.mpr ⟨(List.mem_append_right _ (List.mem_of_getElem? (i := 423) rfl)), rfl⟩
set_option maxRecDepth 100000 in
theorem mv_5 : (Cond.methodLink "LossyHandshakeLaw" 25 y_Mo_start) ∈ tW := List.mem_filter.mpr ⟨(List.mem_append_right _ (List.mem_of_getElem? (i := 1030) rfl)), rfl⟩
set_option maxRecDepth 100000 in
theorem mv_6 : (Cond.instanceMethod y_Mo_start) ∈ tW := List.mem_filter.mpr ⟨(List.mem_append_right _ (List.mem_of_getElem? (i := 1031) rfl)), rfl⟩
set_option maxRecDepth 100000 in
theorem mv_7 : (Cond.selects "LossyHandshakeModel" y_Mo_start y_Mo_start) ∈ tW := List.mem_filter.mpr ⟨(List.mem_append_right _ (List.mem_of_getElem? (i := 1032) rfl)), rfl⟩
set_option maxRecDepth 100000 in
theorem mv_8 : (Cond.methodLink "LossyHandshakeLaw" 26 y_X_tick) ∈ tW := List.mem_filter.mpr ⟨(List.mem_append_right _ (List.mem_of_getElem? (i := 504) rfl)), rfl⟩
set_option maxRecDepth 100000 in
theorem mv_9 : (Cond.instanceMethod y_X_tick) ∈ tW := List.mem_filter.mpr ⟨(List.mem_append_right _ (List.mem_of_getElem? (i := 505) rfl)), rfl⟩
set_option maxRecDepth 100000 in
theorem mv_10 : (Cond.selects "LossyHandshake" y_X_tick y_X_tick) ∈ tW := List.mem_filter.mpr ⟨(List.mem_append_right _ (List.mem_of_getElem? (i := 506) rfl)), rfl⟩
set_option maxRecDepth 100000 in
theorem mv_11 : (Cond.methodLink "LossyHandshakeLaw" 30 y_Mo_tick) ∈ tW := List.mem_filter.mpr ⟨(List.mem_append_right _ (List.mem_of_getElem? (i := 1050) rfl)), rfl⟩
set_option maxRecDepth 100000 in
theorem mv_12 : (Cond.instanceMethod y_Mo_tick) ∈ tW := List.mem_filter.mpr ⟨(List.mem_append_right _ (List.mem_of_getElem? (i := 1051) rfl)), rfl⟩
set_option maxRecDepth 100000 in
theorem mv_13 : (Cond.selects "LossyHandshakeModel" y_Mo_tick y_Mo_tick) ∈ tW := List.mem_filter.mpr ⟨(List.mem_append_right _ (List.mem_of_getElem? (i := 1052) rfl)), rfl⟩
set_option maxRecDepth 100000 in
theorem mv_14 : (Cond.methodLink "LossyHandshakeLaw" 31 y_X_send) ∈ tW := List.mem_filter.mpr ⟨(List.mem_append_right _ (List.mem_of_getElem? (i := 548) rfl)), rfl⟩
set_option maxRecDepth 100000 in
theorem mv_15 : (Cond.instanceMethod y_X_send) ∈ tW := List.mem_filter.mpr ⟨(List.mem_append_right _ (List.mem_of_getElem? (i := 549) rfl)), rfl⟩
set_option maxRecDepth 100000 in
theorem mv_16 : (Cond.selects "LossyHandshake" y_X_send y_X_send) ∈ tW := List.mem_filter.mpr ⟨(List.mem_append_right _ (List.mem_of_getElem? (i := 550) rfl)), rfl⟩
set_option maxRecDepth 100000 in
theorem mv_17 : (Cond.methodLink "LossyHandshakeLaw" 35 y_Mo_send) ∈ tW := List.mem_filter.mpr ⟨(List.mem_append_right _ (List.mem_of_getElem? (i := 1070) rfl)), rfl⟩
set_option maxRecDepth 100000 in
theorem mv_18 : (Cond.instanceMethod y_Mo_send) ∈ tW := List.mem_filter.mpr ⟨(List.mem_append_right _ (List.mem_of_getElem? (i := 1071) rfl)), rfl⟩
set_option maxRecDepth 100000 in
theorem mv_19 : (Cond.selects "LossyHandshakeModel" y_Mo_send y_Mo_send) ∈ tW := List.mem_filter.mpr ⟨(List.mem_append_right _ (List.mem_of_getElem? (i := 1072) rfl)), rfl⟩
set_option maxRecDepth 100000 in
theorem mv_20 : (Cond.methodLink "LossyHandshakeLaw" 36 y_X_deliver) ∈ tW := List.mem_filter.mpr ⟨(List.mem_append_right _ (List.mem_of_getElem? (i := 569) rfl)), rfl⟩
set_option maxRecDepth 100000 in
theorem mv_21 : (Cond.instanceMethod y_X_deliver) ∈ tW := List.mem_filter.mpr ⟨(List.mem_append_right _ (List.mem_of_getElem? (i := 570) rfl)), rfl⟩
set_option maxRecDepth 100000 in
theorem mv_22 : (Cond.selects "LossyHandshake" y_X_deliver y_X_deliver) ∈ tW := List.mem_filter.mpr ⟨(List.mem_append_right _ (List.mem_of_getElem? (i := 571) rfl)), rfl⟩
set_option maxRecDepth 100000 in
theorem mv_23 : (Cond.methodLink "LossyHandshakeLaw" 40 y_Mo_deliver) ∈ tW := List.mem_filter.mpr ⟨(List.mem_append_right _ (List.mem_of_getElem? (i := 1074) rfl)), rfl⟩
set_option maxRecDepth 100000 in
theorem mv_24 : (Cond.instanceMethod y_Mo_deliver) ∈ tW := List.mem_filter.mpr ⟨(List.mem_append_right _ (List.mem_of_getElem? (i := 1075) rfl)), rfl⟩
set_option maxRecDepth 100000 in
theorem mv_25 : (Cond.selects "LossyHandshakeModel" y_Mo_deliver y_Mo_deliver) ∈ tW := List.mem_filter.mpr ⟨(List.mem_append_right _ (List.mem_of_getElem? (i := 1076) rfl)), rfl⟩
set_option maxRecDepth 100000 in
theorem mv_26 : (Cond.methodLink "LossyHandshakeLaw" 41 y_X_drop) ∈ tW := List.mem_filter.mpr ⟨(List.mem_append_right _ (List.mem_of_getElem? (i := 756) rfl)), rfl⟩
set_option maxRecDepth 100000 in
theorem mv_27 : (Cond.instanceMethod y_X_drop) ∈ tW := List.mem_filter.mpr ⟨(List.mem_append_right _ (List.mem_of_getElem? (i := 757) rfl)), rfl⟩
set_option maxRecDepth 100000 in
theorem mv_28 : (Cond.selects "LossyHandshake" y_X_drop y_X_drop) ∈ tW := List.mem_filter.mpr ⟨(List.mem_append_right _ (List.mem_of_getElem? (i := 758) rfl)), rfl⟩
set_option maxRecDepth 100000 in
theorem mv_29 : (Cond.methodLink "LossyHandshakeLaw" 45 y_Mo_drop) ∈ tW := List.mem_filter.mpr ⟨(List.mem_append_right _ (List.mem_of_getElem? (i := 1010) rfl)), rfl⟩
set_option maxRecDepth 100000 in
theorem mv_30 : (Cond.methodLink "LossyHandshakeLaw" 46 y_X_copy) ∈ tW := List.mem_filter.mpr ⟨(List.mem_append_right _ (List.mem_of_getElem? (i := 760) rfl)), rfl⟩
set_option maxRecDepth 100000 in
theorem mv_31 : (Cond.instanceMethod y_X_copy) ∈ tW := List.mem_filter.mpr ⟨(List.mem_append_right _ (List.mem_of_getElem? (i := 761) rfl)), rfl⟩
set_option maxRecDepth 100000 in
theorem mv_32 : (Cond.selects "LossyHandshake" y_X_copy y_X_copy) ∈ tW := List.mem_filter.mpr ⟨(List.mem_append_right _ (List.mem_of_getElem? (i := 762) rfl)), rfl⟩
set_option maxRecDepth 100000 in
theorem mv_33 : (Cond.methodLink "LossyHandshakeLaw" 49 y_Mo_copy) ∈ tW := List.mem_filter.mpr ⟨(List.mem_append_right _ (List.mem_of_getElem? (i := 1022) rfl)), rfl⟩
set_option maxRecDepth 100000 in
theorem mv_34 : (Cond.instanceMethod y_Mo_copy) ∈ tW := List.mem_filter.mpr ⟨(List.mem_append_right _ (List.mem_of_getElem? (i := 1023) rfl)), rfl⟩
set_option maxRecDepth 100000 in
theorem mv_35 : (Cond.selects "LossyHandshakeModel" y_Mo_copy y_Mo_copy) ∈ tW := List.mem_filter.mpr ⟨(List.mem_append_right _ (List.mem_of_getElem? (i := 1024) rfl)), rfl⟩
set_option maxRecDepth 100000 in
theorem mv_36 : (Cond.methodLink "LossyHandshakeLaw" 50 y_X_spoil) ∈ tW := List.mem_filter.mpr ⟨(List.mem_append_right _ (List.mem_of_getElem? (i := 775) rfl)), rfl⟩
set_option maxRecDepth 100000 in
theorem mv_37 : (Cond.instanceMethod y_X_spoil) ∈ tW := List.mem_filter.mpr ⟨(List.mem_append_right _ (List.mem_of_getElem? (i := 776) rfl)), rfl⟩
set_option maxRecDepth 100000 in
theorem mv_38 : (Cond.selects "LossyHandshake" y_X_spoil y_X_spoil) ∈ tW := List.mem_filter.mpr ⟨(List.mem_append_right _ (List.mem_of_getElem? (i := 777) rfl)), rfl⟩
set_option maxRecDepth 100000 in
theorem mv_39 : (Cond.methodLink "LossyHandshakeLaw" 53 y_Mo_spoil) ∈ tW := List.mem_filter.mpr ⟨(List.mem_append_right _ (List.mem_of_getElem? (i := 1026) rfl)), rfl⟩
set_option maxRecDepth 100000 in
theorem mv_40 : (Cond.instanceMethod y_Mo_spoil) ∈ tW := List.mem_filter.mpr ⟨(List.mem_append_right _ (List.mem_of_getElem? (i := 1027) rfl)), rfl⟩
set_option maxRecDepth 100000 in
theorem mv_41 : (Cond.selects "LossyHandshakeModel" y_Mo_spoil y_Mo_spoil) ∈ tW := List.mem_filter.mpr ⟨(List.mem_append_right _ (List.mem_of_getElem? (i := 1028) rfl)), rfl⟩
set_option maxRecDepth 100000 in
theorem mv_42 : (Cond.methodLink "LossyHandshakeLaw" 54 y_X_waiting) ∈ tW := List.mem_filter.mpr ⟨(List.mem_append_right _ (List.mem_of_getElem? (i := 779) rfl)), rfl⟩
set_option maxRecDepth 100000 in
theorem mv_43 : (Cond.instanceMethod y_X_waiting) ∈ tW := List.mem_filter.mpr ⟨(List.mem_append_right _ (List.mem_of_getElem? (i := 780) rfl)), rfl⟩
set_option maxRecDepth 100000 in
theorem mv_44 : (Cond.selects "LossyHandshake" y_X_waiting y_X_waiting) ∈ tW := List.mem_filter.mpr ⟨(List.mem_append_right _ (List.mem_of_getElem? (i := 781) rfl)), rfl⟩
set_option maxRecDepth 100000 in
theorem mv_45 : (Cond.methodLink "LossyHandshakeLaw" 57 y_Mo_waiting) ∈ tW := List.mem_filter.mpr ⟨(List.mem_append_right _ (List.mem_of_getElem? (i := 1119) rfl)), rfl⟩
set_option maxRecDepth 100000 in
theorem mv_46 : (Cond.instanceMethod y_Mo_waiting) ∈ tW := List.mem_filter.mpr ⟨(List.mem_append_right _ (List.mem_of_getElem? (i := 1120) rfl)), rfl⟩
set_option maxRecDepth 100000 in
theorem mv_47 : (Cond.selects "LossyHandshakeModel" y_Mo_waiting y_Mo_waiting) ∈ tW := List.mem_filter.mpr ⟨(List.mem_append_right _ (List.mem_of_getElem? (i := 1121) rfl)), rfl⟩
set_option maxRecDepth 100000 in
theorem mv_48 : (Cond.methodLink "LossyHandshakeLaw" 58 y_X_lost) ∈ tW := List.mem_filter.mpr ⟨(List.mem_append_right _ (List.mem_of_getElem? (i := 783) rfl)), rfl⟩
set_option maxRecDepth 100000 in
theorem mv_49 : (Cond.instanceMethod y_X_lost) ∈ tW := List.mem_filter.mpr ⟨(List.mem_append_right _ (List.mem_of_getElem? (i := 784) rfl)), rfl⟩
set_option maxRecDepth 100000 in
theorem mv_50 : (Cond.selects "LossyHandshake" y_X_lost y_X_lost) ∈ tW := List.mem_filter.mpr ⟨(List.mem_append_right _ (List.mem_of_getElem? (i := 785) rfl)), rfl⟩
set_option maxRecDepth 100000 in
theorem mv_51 : (Cond.methodLink "LossyHandshakeLaw" 61 y_Mo_lost) ∈ tW := List.mem_filter.mpr ⟨(List.mem_append_right _ (List.mem_of_getElem? (i := 1123) rfl)), rfl⟩
set_option maxRecDepth 100000 in
theorem mv_52 : (Cond.instanceMethod y_Mo_lost) ∈ tW := List.mem_filter.mpr ⟨(List.mem_append_right _ (List.mem_of_getElem? (i := 1124) rfl)), rfl⟩
set_option maxRecDepth 100000 in
theorem mv_53 : (Cond.selects "LossyHandshakeModel" y_Mo_lost y_Mo_lost) ∈ tW := List.mem_filter.mpr ⟨(List.mem_append_right _ (List.mem_of_getElem? (i := 1125) rfl)), rfl⟩
set_option maxRecDepth 100000 in
theorem mv_54 : (Cond.methodLink "LossyHandshakeLaw" 62 y_X_record) ∈ tW := List.mem_filter.mpr ⟨(List.mem_append_right _ (List.mem_of_getElem? (i := 787) rfl)), rfl⟩
set_option maxRecDepth 100000 in
theorem mv_55 : (Cond.instanceMethod y_X_record) ∈ tW := List.mem_filter.mpr ⟨(List.mem_append_right _ (List.mem_of_getElem? (i := 788) rfl)), rfl⟩
set_option maxRecDepth 100000 in
theorem mv_56 : (Cond.selects "LossyHandshake" y_X_record y_X_record) ∈ tW := List.mem_filter.mpr ⟨(List.mem_append_right _ (List.mem_of_getElem? (i := 789) rfl)), rfl⟩
set_option maxRecDepth 100000 in
theorem mv_57 : (Cond.methodLink "LossyHandshakeLaw" 65 y_Mo_record) ∈ tW := List.mem_filter.mpr ⟨(List.mem_append_right _ (List.mem_of_getElem? (i := 1127) rfl)), rfl⟩
set_option maxRecDepth 100000 in
theorem mv_58 : (Cond.instanceMethod y_Mo_record) ∈ tW := List.mem_filter.mpr ⟨(List.mem_append_right _ (List.mem_of_getElem? (i := 1128) rfl)), rfl⟩
set_option maxRecDepth 100000 in
theorem mv_59 : (Cond.selects "LossyHandshakeModel" y_Mo_record y_Mo_record) ∈ tW := List.mem_filter.mpr ⟨(List.mem_append_right _ (List.mem_of_getElem? (i := 1129) rfl)), rfl⟩
set_option maxRecDepth 100000 in
theorem mv_60 : (Cond.methodLink "LossyHandshakeLaw" 66 y_X_content) ∈ tW := List.mem_filter.mpr ⟨(List.mem_append_right _ (List.mem_of_getElem? (i := 797) rfl)), rfl⟩
set_option maxRecDepth 100000 in
theorem mv_61 : (Cond.instanceMethod y_X_content) ∈ tW := List.mem_filter.mpr ⟨(List.mem_append_right _ (List.mem_of_getElem? (i := 798) rfl)), rfl⟩
set_option maxRecDepth 100000 in
theorem mv_62 : (Cond.selects "LossyHandshake" y_X_content y_X_content) ∈ tW := List.mem_filter.mpr ⟨(List.mem_append_right _ (List.mem_of_getElem? (i := 799) rfl)), rfl⟩
set_option maxRecDepth 100000 in
theorem mv_63 : (Cond.methodLink "LossyHandshakeLaw" 69 y_Mo_content1) ∈ tW := List.mem_filter.mpr ⟨(List.mem_append_right _ (List.mem_of_getElem? (i := 1133) rfl)), rfl⟩
set_option maxRecDepth 100000 in
theorem mv_64 : (Cond.instanceMethod y_Mo_content1) ∈ tW := List.mem_filter.mpr ⟨(List.mem_append_right _ (List.mem_of_getElem? (i := 1134) rfl)), rfl⟩
set_option maxRecDepth 100000 in
theorem mv_65 : (Cond.selects "LossyHandshakeModel" y_Mo_content1 y_Mo_content1) ∈ tW := List.mem_filter.mpr ⟨(List.mem_append_right _ (List.mem_of_getElem? (i := 1135) rfl)), rfl⟩
set_option maxRecDepth 100000 in
theorem mv_66 : (Cond.methodLink "LossyHandshakeLaw" 70 y_X_byteOf) ∈ tW := List.mem_filter.mpr ⟨(List.mem_append_right _ (List.mem_of_getElem? (i := 805) rfl)), rfl⟩
set_option maxRecDepth 100000 in
theorem mv_67 : (Cond.instanceMethod y_X_byteOf) ∈ tW := List.mem_filter.mpr ⟨(List.mem_append_right _ (List.mem_of_getElem? (i := 806) rfl)), rfl⟩
set_option maxRecDepth 100000 in
theorem mv_68 : (Cond.selects "LossyHandshake" y_X_byteOf y_X_byteOf) ∈ tW := List.mem_filter.mpr ⟨(List.mem_append_right _ (List.mem_of_getElem? (i := 807) rfl)), rfl⟩
set_option maxRecDepth 100000 in
theorem mv_69 : (Cond.methodLink "LossyHandshakeLaw" 74 y_Mo_byteOf) ∈ tW := List.mem_filter.mpr ⟨(List.mem_append_right _ (List.mem_of_getElem? (i := 1140) rfl)), rfl⟩
set_option maxRecDepth 100000 in
theorem mv_70 : (Cond.instanceMethod y_Mo_byteOf) ∈ tW := List.mem_filter.mpr ⟨(List.mem_append_right _ (List.mem_of_getElem? (i := 1141) rfl)), rfl⟩
set_option maxRecDepth 100000 in
theorem mv_71 : (Cond.selects "LossyHandshakeModel" y_Mo_byteOf y_Mo_byteOf) ∈ tW := List.mem_filter.mpr ⟨(List.mem_append_right _ (List.mem_of_getElem? (i := 1142) rfl)), rfl⟩
set_option maxRecDepth 100000 in
theorem mv_72 : (Cond.methodLink "LossyHandshakeLaw" 75 y_X_state) ∈ tW := List.mem_filter.mpr ⟨(List.mem_append_right _ (List.mem_of_getElem? (i := 813) rfl)), rfl⟩
set_option maxRecDepth 100000 in
theorem mv_73 : (Cond.instanceMethod y_X_state) ∈ tW := List.mem_filter.mpr ⟨(List.mem_append_right _ (List.mem_of_getElem? (i := 814) rfl)), rfl⟩
set_option maxRecDepth 100000 in
theorem mv_74 : (Cond.selects "LossyHandshake" y_X_state y_X_state) ∈ tW := List.mem_filter.mpr ⟨(List.mem_append_right _ (List.mem_of_getElem? (i := 815) rfl)), rfl⟩
set_option maxRecDepth 100000 in
theorem mv_75 : (Cond.methodLink "LossyHandshakeLaw" 78 y_Mo_state) ∈ tW := List.mem_filter.mpr ⟨(List.mem_append_right _ (List.mem_of_getElem? (i := 1144) rfl)), rfl⟩
set_option maxRecDepth 100000 in
theorem mv_76 : (Cond.instanceMethod y_Mo_state) ∈ tW := List.mem_filter.mpr ⟨(List.mem_append_right _ (List.mem_of_getElem? (i := 1145) rfl)), rfl⟩
set_option maxRecDepth 100000 in
theorem mv_77 : (Cond.selects "LossyHandshakeModel" y_Mo_state y_Mo_state) ∈ tW := List.mem_filter.mpr ⟨(List.mem_append_right _ (List.mem_of_getElem? (i := 1146) rfl)), rfl⟩
set_option maxRecDepth 100000 in
theorem mv_78 : (Cond.methodLink "LossyHandshakeLaw" 79 y_X_transcript) ∈ tW := List.mem_filter.mpr ⟨(List.mem_append_right _ (List.mem_of_getElem? (i := 817) rfl)), rfl⟩
set_option maxRecDepth 100000 in
theorem mv_79 : (Cond.instanceMethod y_X_transcript) ∈ tW := List.mem_filter.mpr ⟨(List.mem_append_right _ (List.mem_of_getElem? (i := 818) rfl)), rfl⟩
set_option maxRecDepth 100000 in
theorem mv_80 : (Cond.selects "LossyHandshake" y_X_transcript y_X_transcript) ∈ tW := List.mem_filter.mpr ⟨(List.mem_append_right _ (List.mem_of_getElem? (i := 819) rfl)), rfl⟩
set_option maxRecDepth 100000 in
theorem mv_81 : (Cond.methodLink "LossyHandshakeLaw" 82 y_Mo_transcript) ∈ tW := List.mem_filter.mpr ⟨(List.mem_append_right _ (List.mem_of_getElem? (i := 1151) rfl)), rfl⟩
set_option maxRecDepth 100000 in
theorem mv_82 : (Cond.instanceMethod y_Mo_transcript) ∈ tW := List.mem_filter.mpr ⟨(List.mem_append_right _ (List.mem_of_getElem? (i := 1152) rfl)), rfl⟩
set_option maxRecDepth 100000 in
theorem mv_83 : (Cond.selects "LossyHandshakeModel" y_Mo_transcript y_Mo_transcript) ∈ tW := List.mem_filter.mpr ⟨(List.mem_append_right _ (List.mem_of_getElem? (i := 1153) rfl)), rfl⟩
set_option maxRecDepth 100000 in
theorem mv_84 : (Cond.methodLink "LossyHandshakeLaw" 83 y_X_open) ∈ tW := List.mem_filter.mpr ⟨(List.mem_append_right _ (List.mem_of_getElem? (i := 821) rfl)), rfl⟩
set_option maxRecDepth 100000 in
theorem mv_85 : (Cond.instanceMethod y_X_open) ∈ tW := List.mem_filter.mpr ⟨(List.mem_append_right _ (List.mem_of_getElem? (i := 822) rfl)), rfl⟩
set_option maxRecDepth 100000 in
theorem mv_86 : (Cond.selects "LossyHandshake" y_X_open y_X_open) ∈ tW := List.mem_filter.mpr ⟨(List.mem_append_right _ (List.mem_of_getElem? (i := 823) rfl)), rfl⟩
set_option maxRecDepth 100000 in
theorem mv_87 : (Cond.methodLink "LossyHandshakeLaw" 86 y_Mo_open) ∈ tW := List.mem_filter.mpr ⟨(List.mem_append_right _ (List.mem_of_getElem? (i := 1155) rfl)), rfl⟩
set_option maxRecDepth 100000 in
theorem mv_88 : (Cond.instanceMethod y_Mo_open) ∈ tW := List.mem_filter.mpr ⟨(List.mem_append_right _ (List.mem_of_getElem? (i := 1156) rfl)), rfl⟩
set_option maxRecDepth 100000 in
theorem mv_89 : (Cond.selects "LossyHandshakeModel" y_Mo_open y_Mo_open) ∈ tW := List.mem_filter.mpr ⟨(List.mem_append_right _ (List.mem_of_getElem? (i := 1157) rfl)), rfl⟩
set_option maxRecDepth 100000 in
theorem mv_90 : (Cond.methodLink "LossyHandshakeLaw" 87 y_X_kept) ∈ tW := List.mem_filter.mpr ⟨(List.mem_append_right _ (List.mem_of_getElem? (i := 826) rfl)), rfl⟩
set_option maxRecDepth 100000 in
theorem mv_91 : (Cond.instanceMethod y_X_kept) ∈ tW := List.mem_filter.mpr ⟨(List.mem_append_right _ (List.mem_of_getElem? (i := 827) rfl)), rfl⟩
set_option maxRecDepth 100000 in
theorem mv_92 : (Cond.selects "LossyHandshake" y_X_kept y_X_kept) ∈ tW := List.mem_filter.mpr ⟨(List.mem_append_right _ (List.mem_of_getElem? (i := 828) rfl)), rfl⟩
set_option maxRecDepth 100000 in
theorem mv_93 : (Cond.methodLink "LossyHandshakeLaw" 90 y_Mo_kept) ∈ tW := List.mem_filter.mpr ⟨(List.mem_append_right _ (List.mem_of_getElem? (i := 1159) rfl)), rfl⟩
set_option maxRecDepth 100000 in
theorem mv_94 : (Cond.instanceMethod y_Mo_kept) ∈ tW := List.mem_filter.mpr ⟨(List.mem_append_right _ (List.mem_of_getElem? (i := 1160) rfl)), rfl⟩
set_option maxRecDepth 100000 in
theorem mv_95 : (Cond.selects "LossyHandshakeModel" y_Mo_kept y_Mo_kept) ∈ tW := List.mem_filter.mpr ⟨(List.mem_append_right _ (List.mem_of_getElem? (i := 1161) rfl)), rfl⟩
set_option maxRecDepth 100000 in
theorem mv_96 : (Cond.methodLink "LossyHandshakeLaw" 91 y_X_received) ∈ tW := List.mem_filter.mpr ⟨(List.mem_append_right _ (List.mem_of_getElem? (i := 834) rfl)), rfl⟩
set_option maxRecDepth 100000 in
theorem mv_97 : (Cond.instanceMethod y_X_received) ∈ tW := List.mem_filter.mpr ⟨(List.mem_append_right _ (List.mem_of_getElem? (i := 835) rfl)), rfl⟩
set_option maxRecDepth 100000 in
theorem mv_98 : (Cond.selects "LossyHandshake" y_X_received y_X_received) ∈ tW := List.mem_filter.mpr ⟨(List.mem_append_right _ (List.mem_of_getElem? (i := 836) rfl)), rfl⟩
set_option maxRecDepth 100000 in
theorem mv_99 : (Cond.methodLink "LossyHandshakeLaw" 94 y_Mo_received) ∈ tW := List.mem_filter.mpr ⟨(List.mem_append_right _ (List.mem_of_getElem? (i := 1163) rfl)), rfl⟩
set_option maxRecDepth 100000 in
theorem mv_100 : (Cond.instanceMethod y_Mo_received) ∈ tW := List.mem_filter.mpr ⟨(List.mem_append_right _ (List.mem_of_getElem? (i := 1164) rfl)), rfl⟩
set_option maxRecDepth 100000 in
theorem mv_101 : (Cond.selects "LossyHandshakeModel" y_Mo_received y_Mo_received) ∈ tW := List.mem_filter.mpr ⟨(List.mem_append_right _ (List.mem_of_getElem? (i := 1165) rfl)), rfl⟩
set_option maxRecDepth 100000 in
theorem mv_102 : (Cond.methodLink "LossyHandshakeLaw" 95 y_X_value) ∈ tW := List.mem_filter.mpr ⟨(List.mem_append_right _ (List.mem_of_getElem? (i := 838) rfl)), rfl⟩
set_option maxRecDepth 100000 in
theorem mv_103 : (Cond.instanceMethod y_X_value) ∈ tW := List.mem_filter.mpr ⟨(List.mem_append_right _ (List.mem_of_getElem? (i := 839) rfl)), rfl⟩
set_option maxRecDepth 100000 in
theorem mv_104 : (Cond.selects "LossyHandshake" y_X_value y_X_value) ∈ tW := List.mem_filter.mpr ⟨(List.mem_append_right _ (List.mem_of_getElem? (i := 840) rfl)), rfl⟩
set_option maxRecDepth 100000 in
theorem mv_105 : (Cond.methodLink "LossyHandshakeLaw" 98 y_Mo_value) ∈ tW := List.mem_filter.mpr ⟨(List.mem_append_right _ (List.mem_of_getElem? (i := 1167) rfl)), rfl⟩
set_option maxRecDepth 100000 in
theorem mv_106 : (Cond.instanceMethod y_Mo_value) ∈ tW := List.mem_filter.mpr ⟨(List.mem_append_right _ (List.mem_of_getElem? (i := 1168) rfl)), rfl⟩
set_option maxRecDepth 100000 in
theorem mv_107 : (Cond.selects "LossyHandshakeModel" y_Mo_value y_Mo_value) ∈ tW := List.mem_filter.mpr ⟨(List.mem_append_right _ (List.mem_of_getElem? (i := 1169) rfl)), rfl⟩
set_option maxRecDepth 100000 in
theorem mv_108 : (Cond.classLink "LossyHandshakeLaw" 7 "LossyHandshake") ∈ tW := List.mem_filter.mpr ⟨(List.mem_append_right _ (List.mem_of_getElem? (i := 15) rfl)), rfl⟩
set_option maxRecDepth 100000 in
theorem mv_109 : (Cond.code y_Law_cell b_Law_cell 2 (some .int)) ∈ tW := List.mem_filter.mpr ⟨(List.mem_append_right _ (List.mem_of_getElem? (i := 850) rfl)), rfl⟩
set_option maxRecDepth 100000 in
theorem mv_110 : (Cond.initialized "LossyHandshakeLaw") ∈ tW := List.mem_filter.mpr ⟨(List.mem_append_right _ (List.mem_of_getElem? (i := 0) rfl)), rfl⟩
set_option maxRecDepth 100000 in
theorem mv_111 : (Cond.methodLink "LossyHandshakeLaw" 9 y_Law_cell) ∈ tW := List.mem_filter.mpr ⟨(List.mem_append_right _ (List.mem_of_getElem? (i := 848) rfl)), rfl⟩
set_option maxRecDepth 100000 in
theorem mv_112 : (Cond.static y_Law_cell) ∈ tW := List.mem_filter.mpr ⟨(List.mem_append_right _ (List.mem_of_getElem? (i := 849) rfl)), rfl⟩
set_option maxRecDepth 100000 in
theorem mv_113 : (Cond.methodLink "LossyHandshakeLaw" 15 y_X_init) ∈ tW := List.mem_filter.mpr ⟨(List.mem_append_right _ (List.mem_of_getElem? (i := 17) rfl)), rfl⟩
set_option maxRecDepth 100000 in
theorem mv_114 : (Cond.instanceMethod y_X_init) ∈ tW := List.mem_filter.mpr ⟨(List.mem_append_right _ (List.mem_of_getElem? (i := 18) rfl)), rfl⟩
set_option maxRecDepth 100000 in
theorem mv_115 : (Cond.classLink "LossyHandshakeLaw" 18 "LossyHandshakeModel") ∈ tW := List.mem_filter.mpr ⟨(List.mem_append_right _ (List.mem_of_getElem? (i := 851) rfl)), rfl⟩
set_option maxRecDepth 100000 in
theorem mv_116 : (Cond.methodLink "LossyHandshakeLaw" 20 y_Mo_init) ∈ tW := List.mem_filter.mpr ⟨(List.mem_append_right _ (List.mem_of_getElem? (i := 853) rfl)), rfl⟩
set_option maxRecDepth 100000 in
theorem mv_117 : (Cond.instanceMethod y_Mo_init) ∈ tW := List.mem_filter.mpr ⟨(List.mem_append_right _ (List.mem_of_getElem? (i := 854) rfl)), rfl⟩
