theorem d_Rec_hold_29 : decode b_Rec_hold 29 = .ok (.getfield 9, 3) := by decide +kernel
theorem d_Rec_hold_32 : decode b_Rec_hold 32 = .ok (.iload_n 3, 1) := by decide +kernel
theorem d_Rec_hold_33 : decode b_Rec_hold 33 = .ok (.aload_n 1, 1) := by decide +kernel
theorem d_Rec_hold_34 : decode b_Rec_hold 34 = .ok (.iload_n 3, 1) := by decide +kernel
theorem d_Rec_hold_35 : decode b_Rec_hold 35 = .ok (.iaload, 1) := by decide +kernel
theorem d_Rec_hold_36 : decode b_Rec_hold 36 = .ok (.iastore, 1) := by decide +kernel
theorem d_Rec_hold_37 : decode b_Rec_hold 37 = .ok (.iinc 3 (1), 3) := by decide +kernel
theorem d_Rec_hold_40 : decode b_Rec_hold 40 = .ok (.goto (-20), 3) := by decide +kernel
theorem d_Rec_hold_43 : decode b_Rec_hold 43 = .ok (.return_, 1) := by decide +kernel
theorem d_Side_sendOpenFragments_0 : decode b_Side_sendOpenFragments 0 = .ok (.iconst (0), 1) := by decide +kernel
theorem d_Side_sendOpenFragments_1 : decode b_Side_sendOpenFragments 1 = .ok (.istore_n 1, 1) := by decide +kernel
theorem d_Side_sendOpenFragments_2 : decode b_Side_sendOpenFragments 2 = .ok (.iload_n 1, 1) := by decide +kernel
theorem d_Side_sendOpenFragments_3 : decode b_Side_sendOpenFragments 3 = .ok (.aload_n 0, 1) := by decide +kernel
theorem d_Side_sendOpenFragments_4 : decode b_Side_sendOpenFragments 4 = .ok (.getfield 53, 3) := by decide +kernel
theorem d_Side_sendOpenFragments_7 : decode b_Side_sendOpenFragments 7 = .ok (.getfield 130, 3) := by decide +kernel
theorem d_Side_sendOpenFragments_10 : decode b_Side_sendOpenFragments 10 = .ok (.if_icmp .ge (85), 3) := by decide +kernel
theorem d_Side_sendOpenFragments_13 : decode b_Side_sendOpenFragments 13 = .ok (.aload_n 0, 1) := by decide +kernel
theorem d_Side_sendOpenFragments_14 : decode b_Side_sendOpenFragments 14 = .ok (.getfield 53, 3) := by decide +kernel
theorem d_Side_sendOpenFragments_17 : decode b_Side_sendOpenFragments 17 = .ok (.getfield 131, 3) := by decide +kernel
theorem d_Side_sendOpenFragments_20 : decode b_Side_sendOpenFragments 20 = .ok (.iload_n 1, 1) := by decide +kernel
theorem d_Side_sendOpenFragments_21 : decode b_Side_sendOpenFragments 21 = .ok (.aaload, 1) := by decide +kernel
theorem d_Side_sendOpenFragments_22 : decode b_Side_sendOpenFragments 22 = .ok (.astore_n 2, 1) := by decide +kernel
theorem d_Side_sendOpenFragments_23 : decode b_Side_sendOpenFragments 23 = .ok (.aload_n 2, 1) := by decide +kernel
theorem d_Side_sendOpenFragments_24 : decode b_Side_sendOpenFragments 24 = .ok (.getfield 135, 3) := by decide +kernel
theorem d_Side_sendOpenFragments_27 : decode b_Side_sendOpenFragments 27 = .ok (.ifCond .eq (62), 3) := by decide +kernel
theorem d_Side_sendOpenFragments_30 : decode b_Side_sendOpenFragments 30 = .ok (.aload_n 0, 1) := by decide +kernel
theorem d_Side_sendOpenFragments_31 : decode b_Side_sendOpenFragments 31 = .ok (.aload_n 2, 1) := by decide +kernel
theorem d_Side_sendOpenFragments_32 : decode b_Side_sendOpenFragments 32 = .ok (.getfield 140, 3) := by decide +kernel
theorem d_Side_sendOpenFragments_35 : decode b_Side_sendOpenFragments 35 = .ok (.invokevirtual 95, 3) := by decide +kernel
theorem d_Side_sendOpenFragments_38 : decode b_Side_sendOpenFragments 38 = .ok (.istore_n 3, 1) := by decide +kernel
theorem d_Side_sendOpenFragments_39 : decode b_Side_sendOpenFragments 39 = .ok (.aload_n 2, 1) := by decide +kernel
theorem d_Side_sendOpenFragments_40 : decode b_Side_sendOpenFragments 40 = .ok (.iload_n 3, 1) := by decide +kernel
theorem d_Side_sendOpenFragments_41 : decode b_Side_sendOpenFragments 41 = .ok (.invokevirtual 141, 3) := by decide +kernel
theorem d_Side_sendOpenFragments_44 : decode b_Side_sendOpenFragments 44 = .ok (.aload_n 0, 1) := by decide +kernel
theorem d_Side_sendOpenFragments_45 : decode b_Side_sendOpenFragments 45 = .ok (.getfield 44, 3) := by decide +kernel
theorem d_Side_sendOpenFragments_48 : decode b_Side_sendOpenFragments 48 = .ok (.aload_n 0, 1) := by decide +kernel
theorem d_Side_sendOpenFragments_49 : decode b_Side_sendOpenFragments 49 = .ok (.getfield 38, 3) := by decide +kernel
theorem d_Side_sendOpenFragments_52 : decode b_Side_sendOpenFragments 52 = .ok (.iconst (0), 1) := by decide +kernel
theorem d_Side_sendOpenFragments_53 : decode b_Side_sendOpenFragments 53 = .ok (.aload_n 2, 1) := by decide +kernel
theorem d_Side_sendOpenFragments_54 : decode b_Side_sendOpenFragments 54 = .ok (.getfield 140, 3) := by decide +kernel
theorem d_Side_sendOpenFragments_57 : decode b_Side_sendOpenFragments 57 = .ok (.iload_n 3, 1) := by decide +kernel
theorem d_Side_sendOpenFragments_58 : decode b_Side_sendOpenFragments 58 = .ok (.invokevirtual 99, 3) := by decide +kernel
theorem d_Side_sendOpenFragments_61 : decode b_Side_sendOpenFragments 61 = .ok (.astore 4, 2) := by decide +kernel
theorem d_Side_sendOpenFragments_63 : decode b_Side_sendOpenFragments 63 = .ok (.aload 4, 2) := by decide +kernel
theorem d_Side_sendOpenFragments_65 : decode b_Side_sendOpenFragments 65 = .ok (.aload_n 2, 1) := by decide +kernel
theorem d_Side_sendOpenFragments_66 : decode b_Side_sendOpenFragments 66 = .ok (.getfield 144, 3) := by decide +kernel
theorem d_Side_sendOpenFragments_69 : decode b_Side_sendOpenFragments 69 = .ok (.aload_n 2, 1) := by decide +kernel
theorem d_Side_sendOpenFragments_70 : decode b_Side_sendOpenFragments 70 = .ok (.getfield 147, 3) := by decide +kernel
theorem d_Side_sendOpenFragments_73 : decode b_Side_sendOpenFragments 73 = .ok (.invokevirtual 150, 3) := by decide +kernel
theorem d_Side_sendOpenFragments_76 : decode b_Side_sendOpenFragments 76 = .ok (.aload 4, 2) := by decide +kernel
theorem d_Side_sendOpenFragments_78 : decode b_Side_sendOpenFragments 78 = .ok (.aload_n 2, 1) := by decide +kernel
theorem d_Side_sendOpenFragments_79 : decode b_Side_sendOpenFragments 79 = .ok (.getfield 154, 3) := by decide +kernel
theorem d_Side_sendOpenFragments_82 : decode b_Side_sendOpenFragments 82 = .ok (.aload_n 2, 1) := by decide +kernel
theorem d_Side_sendOpenFragments_83 : decode b_Side_sendOpenFragments 83 = .ok (.getfield 155, 3) := by decide +kernel
theorem d_Side_sendOpenFragments_86 : decode b_Side_sendOpenFragments 86 = .ok (.invokevirtual 117, 3) := by decide +kernel
theorem d_Side_sendOpenFragments_89 : decode b_Side_sendOpenFragments 89 = .ok (.iinc 1 (1), 3) := by decide +kernel
theorem d_Side_sendOpenFragments_92 : decode b_Side_sendOpenFragments 92 = .ok (.goto (-90), 3) := by decide +kernel
theorem d_Side_sendOpenFragments_95 : decode b_Side_sendOpenFragments 95 = .ok (.return_, 1) := by decide +kernel
theorem d_Client_sendFlight_0 : decode b_Client_sendFlight 0 = .ok (.aload_n 0, 1) := by decide +kernel
theorem d_Client_sendFlight_1 : decode b_Client_sendFlight 1 = .ok (.aload_n 1, 1) := by decide +kernel
theorem d_Client_sendFlight_2 : decode b_Client_sendFlight 2 = .ok (.invokevirtual 57, 3) := by decide +kernel
theorem d_Client_sendFlight_5 : decode b_Client_sendFlight 5 = .ok (.aload_n 0, 1) := by decide +kernel
theorem d_Client_sendFlight_6 : decode b_Client_sendFlight 6 = .ok (.getfield 60, 3) := by decide +kernel
theorem d_Client_sendFlight_9 : decode b_Client_sendFlight 9 = .ok (.invokevirtual 64, 3) := by decide +kernel
theorem d_Client_sendFlight_12 : decode b_Client_sendFlight 12 = .ok (.aload_n 0, 1) := by decide +kernel
theorem d_Client_sendFlight_13 : decode b_Client_sendFlight 13 = .ok (.getfield 60, 3) := by decide +kernel
theorem d_Client_sendFlight_16 : decode b_Client_sendFlight 16 = .ok (.aload_n 1, 1) := by decide +kernel
theorem d_Client_sendFlight_17 : decode b_Client_sendFlight 17 = .ok (.aload_n 0, 1) := by decide +kernel
theorem d_Client_sendFlight_18 : decode b_Client_sendFlight 18 = .ok (.getfield 70, 3) := by decide +kernel
theorem d_Client_sendFlight_21 : decode b_Client_sendFlight 21 = .ok (.invokevirtual 73, 3) := by decide +kernel
theorem d_Client_sendFlight_24 : decode b_Client_sendFlight 24 = .ok (.aload_n 0, 1) := by decide +kernel
theorem d_Client_sendFlight_25 : decode b_Client_sendFlight 25 = .ok (.invokevirtual 77, 3) := by decide +kernel
theorem d_Client_sendFlight_28 : decode b_Client_sendFlight 28 = .ok (.return_, 1) := by decide +kernel
theorem d_Side_enter_0 : decode b_Side_enter 0 = .ok (.aload_n 0, 1) := by decide +kernel
theorem d_Side_enter_1 : decode b_Side_enter 1 = .ok (.iload_n 1, 1) := by decide +kernel
theorem d_Side_enter_2 : decode b_Side_enter 2 = .ok (.putfield 58, 3) := by decide +kernel
theorem d_Side_enter_5 : decode b_Side_enter 5 = .ok (.aload_n 0, 1) := by decide +kernel
theorem d_Side_enter_6 : decode b_Side_enter 6 = .ok (.iconst (0), 1) := by decide +kernel
theorem d_Side_enter_7 : decode b_Side_enter 7 = .ok (.putfield 61, 3) := by decide +kernel
theorem d_Side_enter_10 : decode b_Side_enter 10 = .ok (.return_, 1) := by decide +kernel
theorem d_Client_sendHello_0 : decode b_Client_sendHello 0 = .ok (.aload_n 0, 1) := by decide +kernel
theorem d_Client_sendHello_1 : decode b_Client_sendHello 1 = .ok (.getfield 14, 3) := by decide +kernel
theorem d_Client_sendHello_4 : decode b_Client_sendHello 4 = .ok (.iconst (0), 1) := by decide +kernel
theorem d_Client_sendHello_5 : decode b_Client_sendHello 5 = .ok (.aload_n 0, 1) := by decide +kernel
theorem d_Client_sendHello_6 : decode b_Client_sendHello 6 = .ok (.getfield 30, 3) := by decide +kernel
theorem d_Client_sendHello_9 : decode b_Client_sendHello 9 = .ok (.invokevirtual 46, 3) := by decide +kernel
theorem d_Client_sendHello_12 : decode b_Client_sendHello 12 = .ok (.aload_n 0, 1) := by decide +kernel
theorem d_Client_sendHello_13 : decode b_Client_sendHello 13 = .ok (.aload_n 0, 1) := by decide +kernel
theorem d_Client_sendHello_14 : decode b_Client_sendHello 14 = .ok (.getfield 14, 3) := by decide +kernel
theorem d_Client_sendHello_17 : decode b_Client_sendHello 17 = .ok (.invokevirtual 50, 3) := by decide +kernel
theorem d_Client_sendHello_20 : decode b_Client_sendHello 20 = .ok (.aload_n 0, 1) := by decide +kernel
theorem d_Client_sendHello_21 : decode b_Client_sendHello 21 = .ok (.iconst (1), 1) := by decide +kernel
theorem d_Client_sendHello_22 : decode b_Client_sendHello 22 = .ok (.invokevirtual 54, 3) := by decide +kernel
theorem d_Client_sendHello_25 : decode b_Client_sendHello 25 = .ok (.return_, 1) := by decide +kernel
theorem d_Win_isOld_0 : decode b_Win_isOld 0 = .ok (.aload_n 0, 1) := by decide +kernel
theorem d_Win_isOld_1 : decode b_Win_isOld 1 = .ok (.getfield 9, 3) := by decide +kernel
theorem d_Win_isOld_4 : decode b_Win_isOld 4 = .ok (.iload_n 1, 1) := by decide +kernel
theorem d_Win_isOld_5 : decode b_Win_isOld 5 = .ok (.isub, 1) := by decide +kernel
theorem d_Win_isOld_6 : decode b_Win_isOld 6 = .ok (.istore_n 2, 1) := by decide +kernel
theorem d_Win_isOld_7 : decode b_Win_isOld 7 = .ok (.iload_n 2, 1) := by decide +kernel
theorem d_Win_isOld_8 : decode b_Win_isOld 8 = .ok (.ifCond .lt (25), 3) := by decide +kernel
theorem d_Win_isOld_11 : decode b_Win_isOld 11 = .ok (.iload_n 2, 1) := by decide +kernel
theorem d_Win_isOld_12 : decode b_Win_isOld 12 = .ok (.bipush (16), 2) := by decide +kernel
theorem d_Win_isOld_14 : decode b_Win_isOld 14 = .ok (.if_icmp .ge (15), 3) := by decide +kernel
theorem d_Win_isOld_17 : decode b_Win_isOld 17 = .ok (.aload_n 0, 1) := by decide +kernel
theorem d_Win_isOld_18 : decode b_Win_isOld 18 = .ok (.getfield 15, 3) := by decide +kernel
theorem d_Win_isOld_21 : decode b_Win_isOld 21 = .ok (.iload_n 2, 1) := by decide +kernel
theorem d_Win_isOld_22 : decode b_Win_isOld 22 = .ok (.iushr, 1) := by decide +kernel
theorem d_Win_isOld_23 : decode b_Win_isOld 23 = .ok (.iconst (1), 1) := by decide +kernel
theorem d_Win_isOld_24 : decode b_Win_isOld 24 = .ok (.iand, 1) := by decide +kernel
theorem d_Win_isOld_25 : decode b_Win_isOld 25 = .ok (.iconst (1), 1) := by decide +kernel
theorem d_Win_isOld_26 : decode b_Win_isOld 26 = .ok (.if_icmp .ne (7), 3) := by decide +kernel
theorem d_Win_isOld_29 : decode b_Win_isOld 29 = .ok (.iconst (1), 1) := by decide +kernel
theorem d_Win_isOld_30 : decode b_Win_isOld 30 = .ok (.goto (4), 3) := by decide +kernel
theorem d_Win_isOld_33 : decode b_Win_isOld 33 = .ok (.iconst (0), 1) := by decide +kernel
theorem d_Win_isOld_34 : decode b_Win_isOld 34 = .ok (.ireturn, 1) := by decide +kernel
theorem d_Side_throwsAway_0 : decode b_Side_throwsAway 0 = .ok (.aload_n 1, 1) := by decide +kernel
theorem d_Side_throwsAway_1 : decode b_Side_throwsAway 1 = .ok (.getfield 76, 3) := by decide +kernel
theorem d_Side_throwsAway_4 : decode b_Side_throwsAway 4 = .ok (.ifCond .ne (41), 3) := by decide +kernel
theorem d_Side_throwsAway_7 : decode b_Side_throwsAway 7 = .ok (.aload_n 0, 1) := by decide +kernel
theorem d_Side_throwsAway_8 : decode b_Side_throwsAway 8 = .ok (.getfield 58, 3) := by decide +kernel
theorem d_Side_throwsAway_11 : decode b_Side_throwsAway 11 = .ok (.iconst (5), 1) := by decide +kernel
theorem d_Side_throwsAway_12 : decode b_Side_throwsAway 12 = .ok (.if_icmp .eq (33), 3) := by decide +kernel
theorem d_Side_throwsAway_15 : decode b_Side_throwsAway 15 = .ok (.aload_n 1, 1) := by decide +kernel
theorem d_Side_throwsAway_16 : decode b_Side_throwsAway 16 = .ok (.getfield 82, 3) := by decide +kernel
theorem d_Side_throwsAway_19 : decode b_Side_throwsAway 19 = .ok (.aload_n 0, 1) := by decide +kernel
theorem d_Side_throwsAway_20 : decode b_Side_throwsAway 20 = .ok (.getfield 35, 3) := by decide +kernel
theorem d_Side_throwsAway_23 : decode b_Side_throwsAway 23 = .ok (.if_icmp .gt (22), 3) := by decide +kernel
theorem d_Side_throwsAway_26 : decode b_Side_throwsAway 26 = .ok (.aload_n 0, 1) := by decide +kernel
theorem d_Side_throwsAway_27 : decode b_Side_throwsAway 27 = .ok (.getfield 20, 3) := by decide +kernel
theorem d_Side_throwsAway_30 : decode b_Side_throwsAway 30 = .ok (.aload_n 1, 1) := by decide +kernel
theorem d_Side_throwsAway_31 : decode b_Side_throwsAway 31 = .ok (.getfield 82, 3) := by decide +kernel
theorem d_Side_throwsAway_34 : decode b_Side_throwsAway 34 = .ok (.aaload, 1) := by decide +kernel
theorem d_Side_throwsAway_35 : decode b_Side_throwsAway 35 = .ok (.aload_n 1, 1) := by decide +kernel
theorem d_Side_throwsAway_36 : decode b_Side_throwsAway 36 = .ok (.getfield 85, 3) := by decide +kernel
theorem d_Side_throwsAway_39 : decode b_Side_throwsAway 39 = .ok (.invokevirtual 88, 3) := by decide +kernel
theorem d_Side_throwsAway_42 : decode b_Side_throwsAway 42 = .ok (.ifCond .eq (7), 3) := by decide +kernel
theorem d_Side_throwsAway_45 : decode b_Side_throwsAway 45 = .ok (.iconst (1), 1) := by decide +kernel
theorem d_Side_throwsAway_46 : decode b_Side_throwsAway 46 = .ok (.goto (4), 3) := by decide +kernel
theorem d_Side_throwsAway_49 : decode b_Side_throwsAway 49 = .ok (.iconst (0), 1) := by decide +kernel
theorem d_Side_throwsAway_50 : decode b_Side_throwsAway 50 = .ok (.ireturn, 1) := by decide +kernel
theorem d_Win_letIn_0 : decode b_Win_letIn 0 = .ok (.iload_n 1, 1) := by decide +kernel
theorem d_Win_letIn_1 : decode b_Win_letIn 1 = .ok (.aload_n 0, 1) := by decide +kernel
theorem d_Win_letIn_2 : decode b_Win_letIn 2 = .ok (.getfield 9, 3) := by decide +kernel
theorem d_Win_letIn_5 : decode b_Win_letIn 5 = .ok (.isub, 1) := by decide +kernel
theorem d_Win_letIn_6 : decode b_Win_letIn 6 = .ok (.istore_n 2, 1) := by decide +kernel
theorem d_Win_letIn_7 : decode b_Win_letIn 7 = .ok (.iload_n 2, 1) := by decide +kernel
theorem d_Win_letIn_8 : decode b_Win_letIn 8 = .ok (.ifCond .gt (19), 3) := by decide +kernel
theorem d_Win_letIn_11 : decode b_Win_letIn 11 = .ok (.aload_n 0, 1) := by decide +kernel
theorem d_Win_letIn_12 : decode b_Win_letIn 12 = .ok (.dup, 1) := by decide +kernel
theorem d_Win_letIn_13 : decode b_Win_letIn 13 = .ok (.getfield 15, 3) := by decide +kernel
theorem d_Win_letIn_16 : decode b_Win_letIn 16 = .ok (.iconst (1), 1) := by decide +kernel
theorem d_Win_letIn_17 : decode b_Win_letIn 17 = .ok (.iload_n 2, 1) := by decide +kernel
theorem d_Win_letIn_18 : decode b_Win_letIn 18 = .ok (.ineg, 1) := by decide +kernel
theorem d_Win_letIn_19 : decode b_Win_letIn 19 = .ok (.ishl, 1) := by decide +kernel
theorem d_Win_letIn_20 : decode b_Win_letIn 20 = .ok (.ior, 1) := by decide +kernel
theorem d_Win_letIn_21 : decode b_Win_letIn 21 = .ok (.putfield 15, 3) := by decide +kernel
theorem d_Win_letIn_24 : decode b_Win_letIn 24 = .ok (.goto (30), 3) := by decide +kernel
theorem d_Win_letIn_27 : decode b_Win_letIn 27 = .ok (.aload_n 0, 1) := by decide +kernel
theorem d_Win_letIn_28 : decode b_Win_letIn 28 = .ok (.iload_n 2, 1) := by decide +kernel
theorem d_Win_letIn_29 : decode b_Win_letIn 29 = .ok (.bipush (16), 2) := by decide +kernel
theorem d_Win_letIn_31 : decode b_Win_letIn 31 = .ok (.if_icmp .lt (7), 3) := by decide +kernel
theorem d_Win_letIn_34 : decode b_Win_letIn 34 = .ok (.iconst (1), 1) := by decide +kernel
theorem d_Win_letIn_35 : decode b_Win_letIn 35 = .ok (.goto (11), 3) := by decide +kernel
theorem d_Win_letIn_38 : decode b_Win_letIn 38 = .ok (.aload_n 0, 1) := by decide +kernel
theorem d_Win_letIn_39 : decode b_Win_letIn 39 = .ok (.getfield 15, 3) := by decide +kernel
theorem d_Win_letIn_42 : decode b_Win_letIn 42 = .ok (.iload_n 2, 1) := by decide +kernel
theorem d_Win_letIn_43 : decode b_Win_letIn 43 = .ok (.ishl, 1) := by decide +kernel
theorem d_Win_letIn_44 : decode b_Win_letIn 44 = .ok (.iconst (1), 1) := by decide +kernel
theorem d_Win_letIn_45 : decode b_Win_letIn 45 = .ok (.ior, 1) := by decide +kernel
theorem d_Win_letIn_46 : decode b_Win_letIn 46 = .ok (.putfield 15, 3) := by decide +kernel
theorem d_Win_letIn_49 : decode b_Win_letIn 49 = .ok (.aload_n 0, 1) := by decide +kernel
theorem d_Win_letIn_50 : decode b_Win_letIn 50 = .ok (.iload_n 1, 1) := by decide +kernel
theorem d_Win_letIn_51 : decode b_Win_letIn 51 = .ok (.putfield 9, 3) := by decide +kernel
theorem d_Win_letIn_54 : decode b_Win_letIn 54 = .ok (.return_, 1) := by decide +kernel
theorem d_Side_letIn_0 : decode b_Side_letIn 0 = .ok (.aload_n 0, 1) := by decide +kernel
theorem d_Side_letIn_1 : decode b_Side_letIn 1 = .ok (.getfield 20, 3) := by decide +kernel
theorem d_Side_letIn_4 : decode b_Side_letIn 4 = .ok (.aload_n 1, 1) := by decide +kernel
theorem d_Side_letIn_5 : decode b_Side_letIn 5 = .ok (.getfield 82, 3) := by decide +kernel
theorem d_Side_letIn_8 : decode b_Side_letIn 8 = .ok (.aaload, 1) := by decide +kernel
theorem d_Side_letIn_9 : decode b_Side_letIn 9 = .ok (.aload_n 1, 1) := by decide +kernel
theorem d_Side_letIn_10 : decode b_Side_letIn 10 = .ok (.getfield 85, 3) := by decide +kernel
theorem d_Side_letIn_13 : decode b_Side_letIn 13 = .ok (.invokevirtual 92, 3) := by decide +kernel
theorem d_Side_letIn_16 : decode b_Side_letIn 16 = .ok (.return_, 1) := by decide +kernel
theorem d_Frag_wasSentIn_0 : decode b_Frag_wasSentIn 0 = .ok (.iconst (0), 1) := by decide +kernel
theorem d_Frag_wasSentIn_1 : decode b_Frag_wasSentIn 1 = .ok (.istore_n 2, 1) := by decide +kernel
theorem d_Frag_wasSentIn_2 : decode b_Frag_wasSentIn 2 = .ok (.iload_n 2, 1) := by decide +kernel
theorem d_Frag_wasSentIn_3 : decode b_Frag_wasSentIn 3 = .ok (.aload_n 0, 1) := by decide +kernel
theorem d_Frag_wasSentIn_4 : decode b_Frag_wasSentIn 4 = .ok (.getfield 44, 3) := by decide +kernel
theorem d_Frag_wasSentIn_7 : decode b_Frag_wasSentIn 7 = .ok (.if_icmp .ge (21), 3) := by decide +kernel
theorem d_Frag_wasSentIn_10 : decode b_Frag_wasSentIn 10 = .ok (.aload_n 0, 1) := by decide +kernel
theorem d_Frag_wasSentIn_11 : decode b_Frag_wasSentIn 11 = .ok (.getfield 15, 3) := by decide +kernel
theorem d_Frag_wasSentIn_14 : decode b_Frag_wasSentIn 14 = .ok (.iload_n 2, 1) := by decide +kernel
theorem d_Frag_wasSentIn_15 : decode b_Frag_wasSentIn 15 = .ok (.iaload, 1) := by decide +kernel
theorem d_Frag_wasSentIn_16 : decode b_Frag_wasSentIn 16 = .ok (.iload_n 1, 1) := by decide +kernel
theorem d_Frag_wasSentIn_17 : decode b_Frag_wasSentIn 17 = .ok (.if_icmp .ne (5), 3) := by decide +kernel
theorem d_Frag_wasSentIn_20 : decode b_Frag_wasSentIn 20 = .ok (.iconst (1), 1) := by decide +kernel
theorem d_Frag_wasSentIn_21 : decode b_Frag_wasSentIn 21 = .ok (.ireturn, 1) := by decide +kernel
theorem d_Frag_wasSentIn_22 : decode b_Frag_wasSentIn 22 = .ok (.iinc 2 (1), 3) := by decide +kernel
theorem d_Frag_wasSentIn_25 : decode b_Frag_wasSentIn 25 = .ok (.goto (-23), 3) := by decide +kernel
theorem d_Frag_wasSentIn_28 : decode b_Frag_wasSentIn 28 = .ok (.iconst (0), 1) := by decide +kernel
theorem d_Frag_wasSentIn_29 : decode b_Frag_wasSentIn 29 = .ok (.ireturn, 1) := by decide +kernel
theorem d_Flight_closeSentIn_0 : decode b_Flight_closeSentIn 0 = .ok (.iconst (0), 1) := by decide +kernel
theorem d_Flight_closeSentIn_1 : decode b_Flight_closeSentIn 1 = .ok (.istore_n 2, 1) := by decide +kernel
theorem d_Flight_closeSentIn_2 : decode b_Flight_closeSentIn 2 = .ok (.iload_n 2, 1) := by decide +kernel
theorem d_Flight_closeSentIn_3 : decode b_Flight_closeSentIn 3 = .ok (.aload_n 0, 1) := by decide +kernel
theorem d_Flight_closeSentIn_4 : decode b_Flight_closeSentIn 4 = .ok (.getfield 18, 3) := by decide +kernel
theorem d_Flight_closeSentIn_7 : decode b_Flight_closeSentIn 7 = .ok (.if_icmp .ge (32), 3) := by decide +kernel
theorem d_Flight_closeSentIn_10 : decode b_Flight_closeSentIn 10 = .ok (.aload_n 0, 1) := by decide +kernel
theorem d_Flight_closeSentIn_11 : decode b_Flight_closeSentIn 11 = .ok (.getfield 11, 3) := by decide +kernel
theorem d_Flight_closeSentIn_14 : decode b_Flight_closeSentIn 14 = .ok (.iload_n 2, 1) := by decide +kernel
theorem d_Flight_closeSentIn_15 : decode b_Flight_closeSentIn 15 = .ok (.aaload, 1) := by decide +kernel
theorem d_Flight_closeSentIn_16 : decode b_Flight_closeSentIn 16 = .ok (.iload_n 1, 1) := by decide +kernel
theorem d_Flight_closeSentIn_17 : decode b_Flight_closeSentIn 17 = .ok (.invokevirtual 55, 3) := by decide +kernel
theorem d_Flight_closeSentIn_20 : decode b_Flight_closeSentIn 20 = .ok (.ifCond .eq (13), 3) := by decide +kernel
theorem d_Flight_closeSentIn_23 : decode b_Flight_closeSentIn 23 = .ok (.aload_n 0, 1) := by decide +kernel
theorem d_Flight_closeSentIn_24 : decode b_Flight_closeSentIn 24 = .ok (.getfield 11, 3) := by decide +kernel
theorem d_Flight_closeSentIn_27 : decode b_Flight_closeSentIn 27 = .ok (.iload_n 2, 1) := by decide +kernel
theorem d_Flight_closeSentIn_28 : decode b_Flight_closeSentIn 28 = .ok (.aaload, 1) := by decide +kernel
theorem d_Flight_closeSentIn_29 : decode b_Flight_closeSentIn 29 = .ok (.iconst (0), 1) := by decide +kernel
theorem d_Flight_closeSentIn_30 : decode b_Flight_closeSentIn 30 = .ok (.putfield 51, 3) := by decide +kernel
theorem d_Flight_closeSentIn_33 : decode b_Flight_closeSentIn 33 = .ok (.iinc 2 (1), 3) := by decide +kernel
theorem d_Flight_closeSentIn_36 : decode b_Flight_closeSentIn 36 = .ok (.goto (-34), 3) := by decide +kernel
theorem d_Flight_closeSentIn_39 : decode b_Flight_closeSentIn 39 = .ok (.return_, 1) := by decide +kernel
theorem d_Side_closeNamed_0 : decode b_Side_closeNamed 0 = .ok (.iconst (0), 1) := by decide +kernel
theorem d_Side_closeNamed_1 : decode b_Side_closeNamed 1 = .ok (.istore_n 2, 1) := by decide +kernel
theorem d_Side_closeNamed_2 : decode b_Side_closeNamed 2 = .ok (.iload_n 2, 1) := by decide +kernel
theorem d_Side_closeNamed_3 : decode b_Side_closeNamed 3 = .ok (.aload_n 1, 1) := by decide +kernel
theorem d_Side_closeNamed_4 : decode b_Side_closeNamed 4 = .ok (.getfield 121, 3) := by decide +kernel
theorem d_Side_closeNamed_7 : decode b_Side_closeNamed 7 = .ok (.if_icmp .ge (22), 3) := by decide +kernel
theorem d_Side_closeNamed_10 : decode b_Side_closeNamed 10 = .ok (.aload_n 0, 1) := by decide +kernel
theorem d_Side_closeNamed_11 : decode b_Side_closeNamed 11 = .ok (.getfield 53, 3) := by decide +kernel
theorem d_Side_closeNamed_14 : decode b_Side_closeNamed 14 = .ok (.aload_n 1, 1) := by decide +kernel
theorem d_Side_closeNamed_15 : decode b_Side_closeNamed 15 = .ok (.getfield 124, 3) := by decide +kernel
theorem d_Side_closeNamed_18 : decode b_Side_closeNamed 18 = .ok (.iload_n 2, 1) := by decide +kernel
theorem d_Side_closeNamed_19 : decode b_Side_closeNamed 19 = .ok (.iaload, 1) := by decide +kernel
theorem d_Side_closeNamed_20 : decode b_Side_closeNamed 20 = .ok (.invokevirtual 127, 3) := by decide +kernel
theorem d_Side_closeNamed_23 : decode b_Side_closeNamed 23 = .ok (.iinc 2 (1), 3) := by decide +kernel
theorem d_Side_closeNamed_26 : decode b_Side_closeNamed 26 = .ok (.goto (-24), 3) := by decide +kernel
theorem d_Side_closeNamed_29 : decode b_Side_closeNamed 29 = .ok (.return_, 1) := by decide +kernel
theorem d_Flight_countOpen_0 : decode b_Flight_countOpen 0 = .ok (.iconst (0), 1) := by decide +kernel
theorem d_Flight_countOpen_1 : decode b_Flight_countOpen 1 = .ok (.istore_n 1, 1) := by decide +kernel
theorem d_Flight_countOpen_2 : decode b_Flight_countOpen 2 = .ok (.iconst (0), 1) := by decide +kernel
theorem d_Flight_countOpen_3 : decode b_Flight_countOpen 3 = .ok (.istore_n 2, 1) := by decide +kernel
theorem d_Flight_countOpen_4 : decode b_Flight_countOpen 4 = .ok (.iload_n 2, 1) := by decide +kernel
theorem d_Flight_countOpen_5 : decode b_Flight_countOpen 5 = .ok (.aload_n 0, 1) := by decide +kernel
theorem d_Flight_countOpen_6 : decode b_Flight_countOpen 6 = .ok (.getfield 18, 3) := by decide +kernel
theorem d_Flight_countOpen_9 : decode b_Flight_countOpen 9 = .ok (.if_icmp .ge (24), 3) := by decide +kernel
theorem d_Flight_countOpen_12 : decode b_Flight_countOpen 12 = .ok (.aload_n 0, 1) := by decide +kernel
theorem d_Flight_countOpen_13 : decode b_Flight_countOpen 13 = .ok (.getfield 11, 3) := by decide +kernel
theorem d_Flight_countOpen_16 : decode b_Flight_countOpen 16 = .ok (.iload_n 2, 1) := by decide +kernel
theorem d_Flight_countOpen_17 : decode b_Flight_countOpen 17 = .ok (.aaload, 1) := by decide +kernel
theorem d_Flight_countOpen_18 : decode b_Flight_countOpen 18 = .ok (.getfield 51, 3) := by decide +kernel
theorem d_Flight_countOpen_21 : decode b_Flight_countOpen 21 = .ok (.ifCond .eq (6), 3) := by decide +kernel
theorem d_Flight_countOpen_24 : decode b_Flight_countOpen 24 = .ok (.iinc 1 (1), 3) := by decide +kernel
theorem d_Flight_countOpen_27 : decode b_Flight_countOpen 27 = .ok (.iinc 2 (1), 3) := by decide +kernel
theorem d_Flight_countOpen_30 : decode b_Flight_countOpen 30 = .ok (.goto (-26), 3) := by decide +kernel
theorem d_Flight_countOpen_33 : decode b_Flight_countOpen 33 = .ok (.iload_n 1, 1) := by decide +kernel
theorem d_Flight_countOpen_34 : decode b_Flight_countOpen 34 = .ok (.ireturn, 1) := by decide +kernel
theorem d_Client_takeAck_0 : decode b_Client_takeAck 0 = .ok (.aload_n 0, 1) := by decide +kernel
theorem d_Client_takeAck_1 : decode b_Client_takeAck 1 = .ok (.aload_n 1, 1) := by decide +kernel
theorem d_Client_takeAck_2 : decode b_Client_takeAck 2 = .ok (.invokevirtual 118, 3) := by decide +kernel
theorem d_Client_takeAck_5 : decode b_Client_takeAck 5 = .ok (.aload_n 0, 1) := by decide +kernel
theorem d_Client_takeAck_6 : decode b_Client_takeAck 6 = .ok (.getfield 109, 3) := by decide +kernel
theorem d_Client_takeAck_9 : decode b_Client_takeAck 9 = .ok (.iconst (3), 1) := by decide +kernel
theorem d_Client_takeAck_10 : decode b_Client_takeAck 10 = .ok (.if_icmp .ne (18), 3) := by decide +kernel
theorem d_Client_takeAck_13 : decode b_Client_takeAck 13 = .ok (.aload_n 0, 1) := by decide +kernel
theorem d_Client_takeAck_14 : decode b_Client_takeAck 14 = .ok (.getfield 60, 3) := by decide +kernel
theorem d_Client_takeAck_17 : decode b_Client_takeAck 17 = .ok (.invokevirtual 121, 3) := by decide +kernel
theorem d_Client_takeAck_20 : decode b_Client_takeAck 20 = .ok (.ifCond .ne (8), 3) := by decide +kernel
theorem d_Client_takeAck_23 : decode b_Client_takeAck 23 = .ok (.aload_n 0, 1) := by decide +kernel
theorem d_Client_takeAck_24 : decode b_Client_takeAck 24 = .ok (.iconst (4), 1) := by decide +kernel
theorem d_Client_takeAck_25 : decode b_Client_takeAck 25 = .ok (.invokevirtual 54, 3) := by decide +kernel
theorem d_Client_takeAck_28 : decode b_Client_takeAck 28 = .ok (.return_, 1) := by decide +kernel
theorem d_Side_keepValue_0 : decode b_Side_keepValue 0 = .ok (.aload_n 0, 1) := by decide +kernel
theorem d_Side_keepValue_1 : decode b_Side_keepValue 1 = .ok (.getfield 108, 3) := by decide +kernel
theorem d_Side_keepValue_4 : decode b_Side_keepValue 4 = .ok (.aload_n 0, 1) := by decide +kernel
theorem d_Side_keepValue_5 : decode b_Side_keepValue 5 = .ok (.getfield 28, 3) := by decide +kernel
theorem d_Side_keepValue_8 : decode b_Side_keepValue 8 = .ok (.arraylength, 1) := by decide +kernel
theorem d_Side_keepValue_9 : decode b_Side_keepValue 9 = .ok (.if_icmp .ge (23), 3) := by decide +kernel
theorem d_Side_keepValue_12 : decode b_Side_keepValue 12 = .ok (.aload_n 0, 1) := by decide +kernel
theorem d_Side_keepValue_13 : decode b_Side_keepValue 13 = .ok (.getfield 28, 3) := by decide +kernel
theorem d_Side_keepValue_16 : decode b_Side_keepValue 16 = .ok (.aload_n 0, 1) := by decide +kernel
theorem d_Side_keepValue_17 : decode b_Side_keepValue 17 = .ok (.getfield 108, 3) := by decide +kernel
theorem d_Side_keepValue_20 : decode b_Side_keepValue 20 = .ok (.iload_n 1, 1) := by decide +kernel
theorem d_Side_keepValue_21 : decode b_Side_keepValue 21 = .ok (.iastore, 1) := by decide +kernel
theorem d_Side_keepValue_22 : decode b_Side_keepValue 22 = .ok (.aload_n 0, 1) := by decide +kernel
theorem d_Side_keepValue_23 : decode b_Side_keepValue 23 = .ok (.dup, 1) := by decide +kernel
theorem d_Side_keepValue_24 : decode b_Side_keepValue 24 = .ok (.getfield 108, 3) := by decide +kernel
theorem d_Side_keepValue_27 : decode b_Side_keepValue 27 = .ok (.iconst (1), 1) := by decide +kernel
theorem d_Side_keepValue_28 : decode b_Side_keepValue 28 = .ok (.iadd, 1) := by decide +kernel
theorem d_Side_keepValue_29 : decode b_Side_keepValue 29 = .ok (.putfield 108, 3) := by decide +kernel
theorem d_Side_keepValue_32 : decode b_Side_keepValue 32 = .ok (.return_, 1) := by decide +kernel
theorem d_Rec_readFirstInt_0 : decode b_Rec_readFirstInt 0 = .ok (.iconst (0), 1) := by decide +kernel
theorem d_Rec_readFirstInt_1 : decode b_Rec_readFirstInt 1 = .ok (.istore_n 1, 1) := by decide +kernel
theorem d_Rec_readFirstInt_2 : decode b_Rec_readFirstInt 2 = .ok (.iconst (0), 1) := by decide +kernel
theorem d_Rec_readFirstInt_3 : decode b_Rec_readFirstInt 3 = .ok (.istore_n 2, 1) := by decide +kernel
theorem d_Rec_readFirstInt_4 : decode b_Rec_readFirstInt 4 = .ok (.iload_n 2, 1) := by decide +kernel
theorem d_Rec_readFirstInt_5 : decode b_Rec_readFirstInt 5 = .ok (.iconst (4), 1) := by decide +kernel
theorem d_Rec_readFirstInt_6 : decode b_Rec_readFirstInt 6 = .ok (.if_icmp .ge (23), 3) := by decide +kernel
theorem d_Rec_readFirstInt_9 : decode b_Rec_readFirstInt 9 = .ok (.iload_n 1, 1) := by decide +kernel
theorem d_Rec_readFirstInt_10 : decode b_Rec_readFirstInt 10 = .ok (.aload_n 0, 1) := by decide +kernel
theorem d_Rec_readFirstInt_11 : decode b_Rec_readFirstInt 11 = .ok (.getfield 9, 3) := by decide +kernel
theorem d_Rec_readFirstInt_14 : decode b_Rec_readFirstInt 14 = .ok (.iload_n 2, 1) := by decide +kernel
theorem d_Rec_readFirstInt_15 : decode b_Rec_readFirstInt 15 = .ok (.iaload, 1) := by decide +kernel
theorem d_Rec_readFirstInt_16 : decode b_Rec_readFirstInt 16 = .ok (.bipush (8), 2) := by decide +kernel
theorem d_Rec_readFirstInt_18 : decode b_Rec_readFirstInt 18 = .ok (.iload_n 2, 1) := by decide +kernel
theorem d_Rec_readFirstInt_19 : decode b_Rec_readFirstInt 19 = .ok (.imul, 1) := by decide +kernel
theorem d_Rec_readFirstInt_20 : decode b_Rec_readFirstInt 20 = .ok (.ishl, 1) := by decide +kernel
theorem d_Rec_readFirstInt_21 : decode b_Rec_readFirstInt 21 = .ok (.ior, 1) := by decide +kernel
theorem d_Rec_readFirstInt_22 : decode b_Rec_readFirstInt 22 = .ok (.istore_n 1, 1) := by decide +kernel
theorem d_Rec_readFirstInt_23 : decode b_Rec_readFirstInt 23 = .ok (.iinc 2 (1), 3) := by decide +kernel
theorem d_Rec_readFirstInt_26 : decode b_Rec_readFirstInt 26 = .ok (.goto (-22), 3) := by decide +kernel
theorem d_Rec_readFirstInt_29 : decode b_Rec_readFirstInt 29 = .ok (.iload_n 1, 1) := by decide +kernel
theorem d_Rec_readFirstInt_30 : decode b_Rec_readFirstInt 30 = .ok (.ireturn, 1) := by decide +kernel
theorem d_Client_takeRetry_0 : decode b_Client_takeRetry 0 = .ok (.aload_n 0, 1) := by decide +kernel
theorem d_Client_takeRetry_1 : decode b_Client_takeRetry 1 = .ok (.getfield 109, 3) := by decide +kernel
theorem d_Client_takeRetry_4 : decode b_Client_takeRetry 4 = .ok (.iconst (1), 1) := by decide +kernel
theorem d_Client_takeRetry_5 : decode b_Client_takeRetry 5 = .ok (.if_icmp .eq (4), 3) := by decide +kernel
theorem d_Client_takeRetry_8 : decode b_Client_takeRetry 8 = .ok (.return_, 1) := by decide +kernel
theorem d_Client_takeRetry_9 : decode b_Client_takeRetry 9 = .ok (.aload_n 0, 1) := by decide +kernel
theorem d_Client_takeRetry_10 : decode b_Client_takeRetry 10 = .ok (.aload_n 1, 1) := by decide +kernel
theorem d_Client_takeRetry_11 : decode b_Client_takeRetry 11 = .ok (.getfield 96, 3) := by decide +kernel
theorem d_Client_takeRetry_14 : decode b_Client_takeRetry 14 = .ok (.iconst (0), 1) := by decide +kernel
theorem d_Client_takeRetry_15 : decode b_Client_takeRetry 15 = .ok (.aload_n 1, 1) := by decide +kernel
theorem d_Client_takeRetry_16 : decode b_Client_takeRetry 16 = .ok (.getfield 125, 3) := by decide +kernel
theorem d_Client_takeRetry_19 : decode b_Client_takeRetry 19 = .ok (.invokevirtual 128, 3) := by decide +kernel
theorem d_Client_takeRetry_22 : decode b_Client_takeRetry 22 = .ok (.aload_n 0, 1) := by decide +kernel
theorem d_Client_takeRetry_23 : decode b_Client_takeRetry 23 = .ok (.getfield 20, 3) := by decide +kernel
theorem d_Client_takeRetry_26 : decode b_Client_takeRetry 26 = .ok (.iconst (0), 1) := by decide +kernel
theorem d_Client_takeRetry_27 : decode b_Client_takeRetry 27 = .ok (.aload_n 0, 1) := by decide +kernel
theorem d_Client_takeRetry_28 : decode b_Client_takeRetry 28 = .ok (.getfield 30, 3) := by decide +kernel
theorem d_Client_takeRetry_31 : decode b_Client_takeRetry 31 = .ok (.invokevirtual 46, 3) := by decide +kernel
theorem d_Client_takeRetry_34 : decode b_Client_takeRetry 34 = .ok (.aload_n 0, 1) := by decide +kernel
theorem d_Client_takeRetry_35 : decode b_Client_takeRetry 35 = .ok (.getfield 20, 3) := by decide +kernel
theorem d_Client_takeRetry_38 : decode b_Client_takeRetry 38 = .ok (.iconst (4), 1) := by decide +kernel
theorem d_Client_takeRetry_39 : decode b_Client_takeRetry 39 = .ok (.aload_n 1, 1) := by decide +kernel
theorem d_Client_takeRetry_40 : decode b_Client_takeRetry 40 = .ok (.invokevirtual 132, 3) := by decide +kernel
theorem d_Client_takeRetry_43 : decode b_Client_takeRetry 43 = .ok (.invokevirtual 46, 3) := by decide +kernel
theorem d_Client_takeRetry_46 : decode b_Client_takeRetry 46 = .ok (.aload_n 0, 1) := by decide +kernel
theorem d_Client_takeRetry_47 : decode b_Client_takeRetry 47 = .ok (.aload_n 0, 1) := by decide +kernel
theorem d_Client_takeRetry_48 : decode b_Client_takeRetry 48 = .ok (.getfield 20, 3) := by decide +kernel
theorem d_Client_takeRetry_51 : decode b_Client_takeRetry 51 = .ok (.invokevirtual 50, 3) := by decide +kernel
theorem d_Client_takeRetry_54 : decode b_Client_takeRetry 54 = .ok (.aload_n 0, 1) := by decide +kernel
theorem d_Client_takeRetry_55 : decode b_Client_takeRetry 55 = .ok (.iconst (2), 1) := by decide +kernel
theorem d_Client_takeRetry_56 : decode b_Client_takeRetry 56 = .ok (.invokevirtual 54, 3) := by decide +kernel
theorem d_Client_takeRetry_59 : decode b_Client_takeRetry 59 = .ok (.return_, 1) := by decide +kernel
theorem d_Flight_forget_0 : decode b_Flight_forget 0 = .ok (.aload_n 0, 1) := by decide +kernel
theorem d_Flight_forget_1 : decode b_Flight_forget 1 = .ok (.iconst (0), 1) := by decide +kernel
theorem d_Flight_forget_2 : decode b_Flight_forget 2 = .ok (.putfield 18, 3) := by decide +kernel
theorem d_Flight_forget_5 : decode b_Flight_forget 5 = .ok (.return_, 1) := by decide +kernel
theorem d_Rec_name_0 : decode b_Rec_name 0 = .ok (.aload_n 0, 1) := by decide +kernel
theorem d_Rec_name_1 : decode b_Rec_name 1 = .ok (.getfield 22, 3) := by decide +kernel
theorem d_Rec_name_4 : decode b_Rec_name 4 = .ok (.aload_n 0, 1) := by decide +kernel
theorem d_Rec_name_5 : decode b_Rec_name 5 = .ok (.getfield 25, 3) := by decide +kernel
theorem d_Rec_name_8 : decode b_Rec_name 8 = .ok (.invokestatic 59, 3) := by decide +kernel
theorem d_Rec_name_11 : decode b_Rec_name 11 = .ok (.ireturn, 1) := by decide +kernel
theorem d_Noted_add_0 : decode b_Noted_add 0 = .ok (.aload_n 0, 1) := by decide +kernel
theorem d_Noted_add_1 : decode b_Noted_add 1 = .ok (.getfield 15, 3) := by decide +kernel
theorem d_Noted_add_4 : decode b_Noted_add 4 = .ok (.aload_n 0, 1) := by decide +kernel
theorem d_Noted_add_5 : decode b_Noted_add 5 = .ok (.getfield 9, 3) := by decide +kernel
theorem d_Noted_add_8 : decode b_Noted_add 8 = .ok (.arraylength, 1) := by decide +kernel
theorem d_Noted_add_9 : decode b_Noted_add 9 = .ok (.if_icmp .ge (13), 3) := by decide +kernel
theorem d_Noted_add_12 : decode b_Noted_add 12 = .ok (.aload_n 0, 1) := by decide +kernel
theorem d_Noted_add_13 : decode b_Noted_add 13 = .ok (.dup, 1) := by decide +kernel
theorem d_Noted_add_14 : decode b_Noted_add 14 = .ok (.getfield 15, 3) := by decide +kernel
theorem d_Noted_add_17 : decode b_Noted_add 17 = .ok (.iconst (1), 1) := by decide +kernel
theorem d_Noted_add_18 : decode b_Noted_add 18 = .ok (.iadd, 1) := by decide +kernel
theorem d_Noted_add_19 : decode b_Noted_add 19 = .ok (.putfield 15, 3) := by decide +kernel
theorem d_Noted_add_22 : decode b_Noted_add 22 = .ok (.aload_n 0, 1) := by decide +kernel
theorem d_Noted_add_23 : decode b_Noted_add 23 = .ok (.getfield 15, 3) := by decide +kernel
theorem d_Noted_add_26 : decode b_Noted_add 26 = .ok (.iconst (1), 1) := by decide +kernel
theorem d_Noted_add_27 : decode b_Noted_add 27 = .ok (.isub, 1) := by decide +kernel
theorem d_Noted_add_28 : decode b_Noted_add 28 = .ok (.istore_n 2, 1) := by decide +kernel
theorem d_Noted_add_29 : decode b_Noted_add 29 = .ok (.iload_n 2, 1) := by decide +kernel
theorem d_Noted_add_30 : decode b_Noted_add 30 = .ok (.ifCond .le (23), 3) := by decide +kernel
theorem d_Noted_add_33 : decode b_Noted_add 33 = .ok (.aload_n 0, 1) := by decide +kernel
theorem d_Noted_add_34 : decode b_Noted_add 34 = .ok (.getfield 9, 3) := by decide +kernel
theorem d_Noted_add_37 : decode b_Noted_add 37 = .ok (.iload_n 2, 1) := by decide +kernel
theorem d_Noted_add_38 : decode b_Noted_add 38 = .ok (.aload_n 0, 1) := by decide +kernel
theorem d_Noted_add_39 : decode b_Noted_add 39 = .ok (.getfield 9, 3) := by decide +kernel
theorem d_Noted_add_42 : decode b_Noted_add 42 = .ok (.iload_n 2, 1) := by decide +kernel
theorem d_Noted_add_43 : decode b_Noted_add 43 = .ok (.iconst (1), 1) := by decide +kernel
theorem d_Noted_add_44 : decode b_Noted_add 44 = .ok (.isub, 1) := by decide +kernel
theorem d_Noted_add_45 : decode b_Noted_add 45 = .ok (.iaload, 1) := by decide +kernel
theorem d_Noted_add_46 : decode b_Noted_add 46 = .ok (.iastore, 1) := by decide +kernel
theorem d_Noted_add_47 : decode b_Noted_add 47 = .ok (.iinc 2 (-1), 3) := by decide +kernel
theorem d_Noted_add_50 : decode b_Noted_add 50 = .ok (.goto (-21), 3) := by decide +kernel
theorem d_Noted_add_53 : decode b_Noted_add 53 = .ok (.aload_n 0, 1) := by decide +kernel
theorem d_Noted_add_54 : decode b_Noted_add 54 = .ok (.getfield 9, 3) := by decide +kernel
theorem d_Noted_add_57 : decode b_Noted_add 57 = .ok (.iconst (0), 1) := by decide +kernel
theorem d_Noted_add_58 : decode b_Noted_add 58 = .ok (.iload_n 1, 1) := by decide +kernel
theorem d_Noted_add_59 : decode b_Noted_add 59 = .ok (.iastore, 1) := by decide +kernel
theorem d_Noted_add_60 : decode b_Noted_add 60 = .ok (.return_, 1) := by decide +kernel
theorem d_Client_takeNextMessage_0 : decode b_Client_takeNextMessage 0 = .ok (.aload_n 0, 1) := by decide +kernel
theorem d_Client_takeNextMessage_1 : decode b_Client_takeNextMessage 1 = .ok (.getfield 42, 3) := by decide +kernel
theorem d_Client_takeNextMessage_4 : decode b_Client_takeNextMessage 4 = .ok (.getfield 159, 3) := by decide +kernel
theorem d_Client_takeNextMessage_7 : decode b_Client_takeNextMessage 7 = .ok (.istore_n 1, 1) := by decide +kernel
theorem d_Client_takeNextMessage_8 : decode b_Client_takeNextMessage 8 = .ok (.aload_n 0, 1) := by decide +kernel
theorem d_Client_takeNextMessage_9 : decode b_Client_takeNextMessage 9 = .ok (.aload_n 0, 1) := by decide +kernel
theorem d_Client_takeNextMessage_10 : decode b_Client_takeNextMessage 10 = .ok (.getfield 42, 3) := by decide +kernel
theorem d_Client_takeNextMessage_13 : decode b_Client_takeNextMessage 13 = .ok (.getfield 162, 3) := by decide +kernel
theorem d_Client_takeNextMessage_16 : decode b_Client_takeNextMessage 16 = .ok (.aload_n 0, 1) := by decide +kernel
theorem d_Client_takeNextMessage_17 : decode b_Client_takeNextMessage 17 = .ok (.getfield 42, 3) := by decide +kernel
theorem d_Client_takeNextMessage_20 : decode b_Client_takeNextMessage 20 = .ok (.iload_n 1, 1) := by decide +kernel
theorem d_Client_takeNextMessage_21 : decode b_Client_takeNextMessage 21 = .ok (.invokevirtual 165, 3) := by decide +kernel
theorem d_Client_takeNextMessage_24 : decode b_Client_takeNextMessage 24 = .ok (.aload_n 0, 1) := by decide +kernel
theorem d_Client_takeNextMessage_25 : decode b_Client_takeNextMessage 25 = .ok (.getfield 42, 3) := by decide +kernel
theorem d_Client_takeNextMessage_28 : decode b_Client_takeNextMessage 28 = .ok (.iload_n 1, 1) := by decide +kernel
theorem d_Client_takeNextMessage_29 : decode b_Client_takeNextMessage 29 = .ok (.iconst (1), 1) := by decide +kernel
theorem d_Client_takeNextMessage_30 : decode b_Client_takeNextMessage 30 = .ok (.iadd, 1) := by decide +kernel
theorem d_Client_takeNextMessage_31 : decode b_Client_takeNextMessage 31 = .ok (.invokevirtual 165, 3) := by decide +kernel
theorem d_Client_takeNextMessage_34 : decode b_Client_takeNextMessage 34 = .ok (.invokevirtual 128, 3) := by decide +kernel
theorem d_Client_takeNextMessage_37 : decode b_Client_takeNextMessage 37 = .ok (.aload_n 0, 1) := by decide +kernel
theorem d_Client_takeNextMessage_38 : decode b_Client_takeNextMessage 38 = .ok (.getfield 42, 3) := by decide +kernel
theorem d_Client_takeNextMessage_41 : decode b_Client_takeNextMessage 41 = .ok (.iload_n 1, 1) := by decide +kernel
theorem d_Client_takeNextMessage_42 : decode b_Client_takeNextMessage 42 = .ok (.iconst (1), 1) := by decide +kernel
theorem d_Client_takeNextMessage_43 : decode b_Client_takeNextMessage 43 = .ok (.iadd, 1) := by decide +kernel
theorem d_Client_takeNextMessage_44 : decode b_Client_takeNextMessage 44 = .ok (.putfield 159, 3) := by decide +kernel
theorem d_Client_takeNextMessage_47 : decode b_Client_takeNextMessage 47 = .ok (.iload_n 1, 1) := by decide +kernel
theorem d_Client_takeNextMessage_48 : decode b_Client_takeNextMessage 48 = .ok (.iconst (1), 1) := by decide +kernel
theorem d_Client_takeNextMessage_49 : decode b_Client_takeNextMessage 49 = .ok (.if_icmp .ne (13), 3) := by decide +kernel
theorem d_Client_takeNextMessage_52 : decode b_Client_takeNextMessage 52 = .ok (.aload_n 0, 1) := by decide +kernel
theorem d_Client_takeNextMessage_53 : decode b_Client_takeNextMessage 53 = .ok (.iconst (2), 1) := by decide +kernel
theorem d_Client_takeNextMessage_54 : decode b_Client_takeNextMessage 54 = .ok (.putfield 168, 3) := by decide +kernel
theorem d_Client_takeNextMessage_57 : decode b_Client_takeNextMessage 57 = .ok (.aload_n 0, 1) := by decide +kernel
theorem d_Client_takeNextMessage_58 : decode b_Client_takeNextMessage 58 = .ok (.iconst (2), 1) := by decide +kernel
theorem d_Client_takeNextMessage_59 : decode b_Client_takeNextMessage 59 = .ok (.putfield 171, 3) := by decide +kernel
theorem d_Client_takeNextMessage_62 : decode b_Client_takeNextMessage 62 = .ok (.return_, 1) := by decide +kernel
theorem d_Client_takeFlightPiece_0 : decode b_Client_takeFlightPiece 0 = .ok (.aload_n 0, 1) := by decide +kernel
theorem d_Client_takeFlightPiece_1 : decode b_Client_takeFlightPiece 1 = .ok (.getfield 60, 3) := by decide +kernel
theorem d_Client_takeFlightPiece_4 : decode b_Client_takeFlightPiece 4 = .ok (.invokevirtual 135, 3) := by decide +kernel
theorem d_Client_takeFlightPiece_7 : decode b_Client_takeFlightPiece 7 = .ok (.aload_n 0, 1) := by decide +kernel
theorem d_Client_takeFlightPiece_8 : decode b_Client_takeFlightPiece 8 = .ok (.getfield 42, 3) := by decide +kernel
theorem d_Client_takeFlightPiece_11 : decode b_Client_takeFlightPiece 11 = .ok (.aload_n 1, 1) := by decide +kernel
theorem d_Client_takeFlightPiece_12 : decode b_Client_takeFlightPiece 12 = .ok (.invokevirtual 138, 3) := by decide +kernel
theorem d_Client_takeFlightPiece_15 : decode b_Client_takeFlightPiece 15 = .ok (.aload_n 0, 1) := by decide +kernel
theorem d_Client_takeFlightPiece_16 : decode b_Client_takeFlightPiece 16 = .ok (.getfield 141, 3) := by decide +kernel
theorem d_Client_takeFlightPiece_19 : decode b_Client_takeFlightPiece 19 = .ok (.aload_n 1, 1) := by decide +kernel
theorem d_Client_takeFlightPiece_20 : decode b_Client_takeFlightPiece 20 = .ok (.invokevirtual 145, 3) := by decide +kernel
theorem d_Client_takeFlightPiece_23 : decode b_Client_takeFlightPiece 23 = .ok (.invokevirtual 148, 3) := by decide +kernel
theorem d_Client_takeFlightPiece_26 : decode b_Client_takeFlightPiece 26 = .ok (.iconst (1), 1) := by decide +kernel
theorem d_Client_takeFlightPiece_27 : decode b_Client_takeFlightPiece 27 = .ok (.istore_n 2, 1) := by decide +kernel
theorem d_Client_takeFlightPiece_28 : decode b_Client_takeFlightPiece 28 = .ok (.iload_n 2, 1) := by decide +kernel
theorem d_Client_takeFlightPiece_29 : decode b_Client_takeFlightPiece 29 = .ok (.iconst (4), 1) := by decide +kernel
theorem d_Client_takeFlightPiece_30 : decode b_Client_takeFlightPiece 30 = .ok (.if_icmp .gt (23), 3) := by decide +kernel
theorem d_Client_takeFlightPiece_33 : decode b_Client_takeFlightPiece 33 = .ok (.aload_n 0, 1) := by decide +kernel
theorem d_Client_takeFlightPiece_34 : decode b_Client_takeFlightPiece 34 = .ok (.getfield 42, 3) := by decide +kernel
theorem d_Client_takeFlightPiece_37 : decode b_Client_takeFlightPiece 37 = .ok (.invokevirtual 152, 3) := by decide +kernel
theorem d_Client_takeFlightPiece_40 : decode b_Client_takeFlightPiece 40 = .ok (.ifCond .eq (13), 3) := by decide +kernel
theorem d_Client_takeFlightPiece_43 : decode b_Client_takeFlightPiece 43 = .ok (.aload_n 0, 1) := by decide +kernel
theorem d_Client_takeFlightPiece_44 : decode b_Client_takeFlightPiece 44 = .ok (.invokevirtual 156, 3) := by decide +kernel
theorem d_Client_takeFlightPiece_47 : decode b_Client_takeFlightPiece 47 = .ok (.iinc 2 (1), 3) := by decide +kernel
theorem d_Client_takeFlightPiece_50 : decode b_Client_takeFlightPiece 50 = .ok (.goto (-22), 3) := by decide +kernel
theorem d_Client_takeFlightPiece_53 : decode b_Client_takeFlightPiece 53 = .ok (.return_, 1) := by decide +kernel
theorem d_Client_answerFlight_0 : decode b_Client_answerFlight 0 = .ok (.aload_n 0, 1) := by decide +kernel
theorem d_Client_answerFlight_1 : decode b_Client_answerFlight 1 = .ok (.getfield 42, 3) := by decide +kernel
theorem d_Client_answerFlight_4 : decode b_Client_answerFlight 4 = .ok (.invokevirtual 174, 3) := by decide +kernel
theorem d_Client_answerFlight_7 : decode b_Client_answerFlight 7 = .ok (.ifCond .ne (9), 3) := by decide +kernel
theorem d_Client_answerFlight_10 : decode b_Client_answerFlight 10 = .ok (.aload_n 0, 1) := by decide +kernel
theorem d_Client_answerFlight_11 : decode b_Client_answerFlight 11 = .ok (.iconst (2), 1) := by decide +kernel
theorem d_Client_answerFlight_12 : decode b_Client_answerFlight 12 = .ok (.putfield 177, 3) := by decide +kernel
theorem d_Client_answerFlight_15 : decode b_Client_answerFlight 15 = .ok (.return_, 1) := by decide +kernel
theorem d_Client_answerFlight_16 : decode b_Client_answerFlight 16 = .ok (.aload_n 0, 1) := by decide +kernel
theorem d_Client_answerFlight_17 : decode b_Client_answerFlight 17 = .ok (.iconst (3), 1) := by decide +kernel
theorem d_Client_answerFlight_18 : decode b_Client_answerFlight 18 = .ok (.putfield 171, 3) := by decide +kernel
theorem d_Client_answerFlight_21 : decode b_Client_answerFlight 21 = .ok (.aload_n 0, 1) := by decide +kernel
theorem d_Client_answerFlight_22 : decode b_Client_answerFlight 22 = .ok (.getfield 23, 3) := by decide +kernel
theorem d_Client_answerFlight_25 : decode b_Client_answerFlight 25 = .ok (.iconst (0), 1) := by decide +kernel
theorem d_Client_answerFlight_26 : decode b_Client_answerFlight 26 = .ok (.aload_n 0, 1) := by decide +kernel
theorem d_Client_answerFlight_27 : decode b_Client_answerFlight 27 = .ok (.getfield 180, 3) := by decide +kernel
theorem d_Client_answerFlight_30 : decode b_Client_answerFlight 30 = .ok (.iconst (1), 1) := by decide +kernel
theorem d_Client_answerFlight_31 : decode b_Client_answerFlight 31 = .ok (.invokestatic 183, 3) := by decide +kernel
theorem d_Client_answerFlight_34 : decode b_Client_answerFlight 34 = .ok (.invokevirtual 46, 3) := by decide +kernel
theorem d_Client_answerFlight_37 : decode b_Client_answerFlight 37 = .ok (.aload_n 0, 1) := by decide +kernel
theorem d_Client_answerFlight_38 : decode b_Client_answerFlight 38 = .ok (.aload_n 0, 1) := by decide +kernel
theorem d_Client_answerFlight_39 : decode b_Client_answerFlight 39 = .ok (.getfield 23, 3) := by decide +kernel
theorem d_Client_answerFlight_42 : decode b_Client_answerFlight 42 = .ok (.invokevirtual 50, 3) := by decide +kernel
theorem d_Client_answerFlight_45 : decode b_Client_answerFlight 45 = .ok (.aload_n 0, 1) := by decide +kernel
theorem d_Client_answerFlight_46 : decode b_Client_answerFlight 46 = .ok (.iconst (3), 1) := by decide +kernel
theorem d_Client_answerFlight_47 : decode b_Client_answerFlight 47 = .ok (.putfield 168, 3) := by decide +kernel
theorem d_Client_answerFlight_50 : decode b_Client_answerFlight 50 = .ok (.aload_n 0, 1) := by decide +kernel
theorem d_Client_answerFlight_51 : decode b_Client_answerFlight 51 = .ok (.iconst (3), 1) := by decide +kernel
theorem d_Client_answerFlight_52 : decode b_Client_answerFlight 52 = .ok (.invokevirtual 54, 3) := by decide +kernel
theorem d_Client_answerFlight_55 : decode b_Client_answerFlight 55 = .ok (.return_, 1) := by decide +kernel
theorem d_Client_accept_0 : decode b_Client_accept 0 = .ok (.aload_n 0, 1) := by decide +kernel
theorem d_Client_accept_1 : decode b_Client_accept 1 = .ok (.aload_n 1, 1) := by decide +kernel
theorem d_Client_accept_2 : decode b_Client_accept 2 = .ok (.invokevirtual 80, 3) := by decide +kernel
theorem d_Client_accept_5 : decode b_Client_accept 5 = .ok (.ifCond .eq (5), 3) := by decide +kernel
theorem d_Client_accept_8 : decode b_Client_accept 8 = .ok (.iconst (0), 1) := by decide +kernel
theorem d_Client_accept_9 : decode b_Client_accept 9 = .ok (.ireturn, 1) := by decide +kernel
theorem d_Client_accept_10 : decode b_Client_accept 10 = .ok (.aload_n 0, 1) := by decide +kernel
theorem d_Client_accept_11 : decode b_Client_accept 11 = .ok (.aload_n 1, 1) := by decide +kernel
theorem d_Client_accept_12 : decode b_Client_accept 12 = .ok (.invokevirtual 84, 3) := by decide +kernel
theorem d_Client_accept_15 : decode b_Client_accept 15 = .ok (.aload_n 1, 1) := by decide +kernel
theorem d_Client_accept_16 : decode b_Client_accept 16 = .ok (.getfield 88, 3) := by decide +kernel
theorem d_Client_accept_19 : decode b_Client_accept 19 = .ok (.iconst (1), 1) := by decide +kernel
theorem d_Client_accept_20 : decode b_Client_accept 20 = .ok (.if_icmp .ne (11), 3) := by decide +kernel
theorem d_Client_accept_23 : decode b_Client_accept 23 = .ok (.aload_n 0, 1) := by decide +kernel
theorem d_Client_accept_24 : decode b_Client_accept 24 = .ok (.aload_n 1, 1) := by decide +kernel
theorem d_Client_accept_25 : decode b_Client_accept 25 = .ok (.invokevirtual 93, 3) := by decide +kernel
theorem d_Client_accept_28 : decode b_Client_accept 28 = .ok (.goto (56), 3) := by decide +kernel
theorem d_Client_accept_31 : decode b_Client_accept 31 = .ok (.aload_n 1, 1) := by decide +kernel
theorem d_Client_accept_32 : decode b_Client_accept 32 = .ok (.getfield 88, 3) := by decide +kernel
theorem d_Client_accept_35 : decode b_Client_accept 35 = .ok (.iconst (2), 1) := by decide +kernel
theorem d_Client_accept_36 : decode b_Client_accept 36 = .ok (.if_icmp .ne (16), 3) := by decide +kernel
theorem d_Client_accept_39 : decode b_Client_accept 39 = .ok (.aload_n 0, 1) := by decide +kernel
theorem d_Client_accept_40 : decode b_Client_accept 40 = .ok (.aload_n 1, 1) := by decide +kernel
theorem d_Client_accept_41 : decode b_Client_accept 41 = .ok (.getfield 96, 3) := by decide +kernel
theorem d_Client_accept_44 : decode b_Client_accept 44 = .ok (.iconst (0), 1) := by decide +kernel
theorem d_Client_accept_45 : decode b_Client_accept 45 = .ok (.iaload, 1) := by decide +kernel
theorem d_Client_accept_46 : decode b_Client_accept 46 = .ok (.invokevirtual 100, 3) := by decide +kernel
theorem d_Client_accept_49 : decode b_Client_accept 49 = .ok (.goto (35), 3) := by decide +kernel
theorem d_Client_accept_52 : decode b_Client_accept 52 = .ok (.aload_n 1, 1) := by decide +kernel
theorem d_Client_accept_53 : decode b_Client_accept 53 = .ok (.getfield 103, 3) := by decide +kernel
theorem d_Client_accept_56 : decode b_Client_accept 56 = .ok (.ifCond .ne (11), 3) := by decide +kernel
theorem d_Client_accept_59 : decode b_Client_accept 59 = .ok (.aload_n 0, 1) := by decide +kernel
theorem d_Client_accept_60 : decode b_Client_accept 60 = .ok (.aload_n 1, 1) := by decide +kernel
theorem d_Client_accept_61 : decode b_Client_accept 61 = .ok (.invokevirtual 106, 3) := by decide +kernel
theorem d_Client_accept_64 : decode b_Client_accept 64 = .ok (.goto (20), 3) := by decide +kernel
theorem d_Client_accept_67 : decode b_Client_accept 67 = .ok (.aload_n 0, 1) := by decide +kernel
theorem d_Client_accept_68 : decode b_Client_accept 68 = .ok (.getfield 109, 3) := by decide +kernel
theorem d_Client_accept_71 : decode b_Client_accept 71 = .ok (.iconst (2), 1) := by decide +kernel
theorem d_Client_accept_72 : decode b_Client_accept 72 = .ok (.if_icmp .ne (12), 3) := by decide +kernel
theorem d_Client_accept_75 : decode b_Client_accept 75 = .ok (.aload_n 0, 1) := by decide +kernel
theorem d_Client_accept_76 : decode b_Client_accept 76 = .ok (.aload_n 1, 1) := by decide +kernel
theorem d_Client_accept_77 : decode b_Client_accept 77 = .ok (.invokevirtual 112, 3) := by decide +kernel
theorem d_Client_accept_80 : decode b_Client_accept 80 = .ok (.aload_n 0, 1) := by decide +kernel
theorem d_Client_accept_81 : decode b_Client_accept 81 = .ok (.invokevirtual 115, 3) := by decide +kernel
theorem d_Client_accept_84 : decode b_Client_accept 84 = .ok (.iconst (1), 1) := by decide +kernel
theorem d_Client_accept_85 : decode b_Client_accept 85 = .ok (.ireturn, 1) := by decide +kernel
theorem d_Flight_waitTwiceAsLong_0 : decode b_Flight_waitTwiceAsLong 0 = .ok (.aload_n 0, 1) := by decide +kernel
theorem d_Flight_waitTwiceAsLong_1 : decode b_Flight_waitTwiceAsLong 1 = .ok (.iconst (2), 1) := by decide +kernel
theorem d_Flight_waitTwiceAsLong_2 : decode b_Flight_waitTwiceAsLong 2 = .ok (.aload_n 0, 1) := by decide +kernel
theorem d_Flight_waitTwiceAsLong_3 : decode b_Flight_waitTwiceAsLong 3 = .ok (.getfield 22, 3) := by decide +kernel
theorem d_Flight_waitTwiceAsLong_6 : decode b_Flight_waitTwiceAsLong 6 = .ok (.imul, 1) := by decide +kernel
theorem d_Flight_waitTwiceAsLong_7 : decode b_Flight_waitTwiceAsLong 7 = .ok (.bipush (32), 2) := by decide +kernel
theorem d_Flight_waitTwiceAsLong_9 : decode b_Flight_waitTwiceAsLong 9 = .ok (.invokestatic 41, 3) := by decide +kernel
theorem d_Flight_waitTwiceAsLong_12 : decode b_Flight_waitTwiceAsLong 12 = .ok (.putfield 22, 3) := by decide +kernel
theorem d_Flight_waitTwiceAsLong_15 : decode b_Flight_waitTwiceAsLong 15 = .ok (.aload_n 0, 1) := by decide +kernel
theorem d_Flight_waitTwiceAsLong_16 : decode b_Flight_waitTwiceAsLong 16 = .ok (.aload_n 0, 1) := by decide +kernel
theorem d_Flight_waitTwiceAsLong_17 : decode b_Flight_waitTwiceAsLong 17 = .ok (.getfield 22, 3) := by decide +kernel
theorem d_Flight_waitTwiceAsLong_20 : decode b_Flight_waitTwiceAsLong 20 = .ok (.putfield 25, 3) := by decide +kernel
theorem d_Flight_waitTwiceAsLong_23 : decode b_Flight_waitTwiceAsLong 23 = .ok (.aload_n 0, 1) := by decide +kernel
theorem d_Flight_waitTwiceAsLong_24 : decode b_Flight_waitTwiceAsLong 24 = .ok (.dup, 1) := by decide +kernel
theorem d_Flight_waitTwiceAsLong_25 : decode b_Flight_waitTwiceAsLong 25 = .ok (.getfield 28, 3) := by decide +kernel
theorem d_Flight_waitTwiceAsLong_28 : decode b_Flight_waitTwiceAsLong 28 = .ok (.iconst (1), 1) := by decide +kernel
theorem d_Flight_waitTwiceAsLong_29 : decode b_Flight_waitTwiceAsLong 29 = .ok (.iadd, 1) := by decide +kernel
theorem d_Flight_waitTwiceAsLong_30 : decode b_Flight_waitTwiceAsLong 30 = .ok (.putfield 28, 3) := by decide +kernel
theorem d_Flight_waitTwiceAsLong_33 : decode b_Flight_waitTwiceAsLong 33 = .ok (.return_, 1) := by decide +kernel
theorem d_Flight_hasWaited_0 : decode b_Flight_hasWaited 0 = .ok (.aload_n 0, 1) := by decide +kernel
theorem d_Flight_hasWaited_1 : decode b_Flight_hasWaited 1 = .ok (.invokevirtual 47, 3) := by decide +kernel
theorem d_Flight_hasWaited_4 : decode b_Flight_hasWaited 4 = .ok (.ifCond .ne (5), 3) := by decide +kernel
theorem d_Flight_hasWaited_7 : decode b_Flight_hasWaited 7 = .ok (.iconst (0), 1) := by decide +kernel
theorem d_Flight_hasWaited_8 : decode b_Flight_hasWaited 8 = .ok (.ireturn, 1) := by decide +kernel
theorem d_Flight_hasWaited_9 : decode b_Flight_hasWaited 9 = .ok (.aload_n 0, 1) := by decide +kernel
theorem d_Flight_hasWaited_10 : decode b_Flight_hasWaited 10 = .ok (.dup, 1) := by decide +kernel
theorem d_Flight_hasWaited_11 : decode b_Flight_hasWaited 11 = .ok (.getfield 25, 3) := by decide +kernel
theorem d_Flight_hasWaited_14 : decode b_Flight_hasWaited 14 = .ok (.iconst (1), 1) := by decide +kernel
theorem d_Flight_hasWaited_15 : decode b_Flight_hasWaited 15 = .ok (.isub, 1) := by decide +kernel
theorem d_Flight_hasWaited_16 : decode b_Flight_hasWaited 16 = .ok (.putfield 25, 3) := by decide +kernel
theorem d_Flight_hasWaited_19 : decode b_Flight_hasWaited 19 = .ok (.aload_n 0, 1) := by decide +kernel
theorem d_Flight_hasWaited_20 : decode b_Flight_hasWaited 20 = .ok (.getfield 25, 3) := by decide +kernel
theorem d_Flight_hasWaited_23 : decode b_Flight_hasWaited 23 = .ok (.ifCond .gt (7), 3) := by decide +kernel
theorem d_Flight_hasWaited_26 : decode b_Flight_hasWaited 26 = .ok (.iconst (1), 1) := by decide +kernel
theorem d_Flight_hasWaited_27 : decode b_Flight_hasWaited 27 = .ok (.goto (4), 3) := by decide +kernel
theorem d_Flight_hasWaited_30 : decode b_Flight_hasWaited 30 = .ok (.iconst (0), 1) := by decide +kernel
theorem d_Flight_hasWaited_31 : decode b_Flight_hasWaited 31 = .ok (.ireturn, 1) := by decide +kernel
theorem d_Msg_writeMixes_0 : decode b_Msg_writeMixes 0 = .ok (.iconst (0), 1) := by decide +kernel
theorem d_Msg_writeMixes_1 : decode b_Msg_writeMixes 1 = .ok (.istore_n 2, 1) := by decide +kernel
theorem d_Msg_writeMixes_2 : decode b_Msg_writeMixes 2 = .ok (.iload_n 2, 1) := by decide +kernel
theorem d_Msg_writeMixes_3 : decode b_Msg_writeMixes 3 = .ok (.aload_n 0, 1) := by decide +kernel
theorem d_Msg_writeMixes_4 : decode b_Msg_writeMixes 4 = .ok (.getfield 18, 3) := by decide +kernel
theorem d_Msg_writeMixes_7 : decode b_Msg_writeMixes 7 = .ok (.arraylength, 1) := by decide +kernel
theorem d_Msg_writeMixes_8 : decode b_Msg_writeMixes 8 = .ok (.if_icmp .ge (24), 3) := by decide +kernel
theorem d_Msg_writeMixes_11 : decode b_Msg_writeMixes 11 = .ok (.aload_n 0, 1) := by decide +kernel
theorem d_Msg_writeMixes_12 : decode b_Msg_writeMixes 12 = .ok (.getfield 18, 3) := by decide +kernel
theorem d_Msg_writeMixes_15 : decode b_Msg_writeMixes 15 = .ok (.iload_n 2, 1) := by decide +kernel
theorem d_Msg_writeMixes_16 : decode b_Msg_writeMixes 16 = .ok (.iload_n 1, 1) := by decide +kernel
theorem d_Msg_writeMixes_17 : decode b_Msg_writeMixes 17 = .ok (.iload_n 2, 1) := by decide +kernel
theorem d_Msg_writeMixes_18 : decode b_Msg_writeMixes 18 = .ok (.invokestatic 22, 3) := by decide +kernel
theorem d_Msg_writeMixes_21 : decode b_Msg_writeMixes 21 = .ok (.sipush (255), 3) := by decide +kernel
theorem d_Msg_writeMixes_24 : decode b_Msg_writeMixes 24 = .ok (.iand, 1) := by decide +kernel
theorem d_Msg_writeMixes_25 : decode b_Msg_writeMixes 25 = .ok (.iastore, 1) := by decide +kernel
theorem d_Msg_writeMixes_26 : decode b_Msg_writeMixes 26 = .ok (.iinc 2 (1), 3) := by decide +kernel
theorem d_Msg_writeMixes_29 : decode b_Msg_writeMixes 29 = .ok (.goto (-27), 3) := by decide +kernel
theorem d_Msg_writeMixes_32 : decode b_Msg_writeMixes 32 = .ok (.return_, 1) := by decide +kernel
theorem d_Rec_init_0 : decode b_Rec_init 0 = .ok (.aload_n 0, 1) := by decide +kernel
theorem d_Rec_init_1 : decode b_Rec_init 1 = .ok (.invokespecial 3, 3) := by decide +kernel
theorem d_Rec_init_4 : decode b_Rec_init 4 = .ok (.aload_n 0, 1) := by decide +kernel
theorem d_Rec_init_5 : decode b_Rec_init 5 = .ok (.bipush (24), 2) := by decide +kernel
theorem d_Rec_init_7 : decode b_Rec_init 7 = .ok (.newarray .int, 2) := by decide +kernel
theorem d_Rec_init_9 : decode b_Rec_init 9 = .ok (.putfield 9, 3) := by decide +kernel
theorem d_Rec_init_12 : decode b_Rec_init 12 = .ok (.return_, 1) := by decide +kernel
theorem d_Net_init_0 : decode b_Net_init 0 = .ok (.aload_n 0, 1) := by decide +kernel
theorem d_Net_init_1 : decode b_Net_init 1 = .ok (.invokespecial 3, 3) := by decide +kernel
theorem d_Net_init_4 : decode b_Net_init 4 = .ok (.aload_n 0, 1) := by decide +kernel
theorem d_Net_init_5 : decode b_Net_init 5 = .ok (.bipush (60), 2) := by decide +kernel
theorem d_Net_init_7 : decode b_Net_init 7 = .ok (.anewarray 9, 3) := by decide +kernel
theorem d_Net_init_10 : decode b_Net_init 10 = .ok (.putfield 11, 3) := by decide +kernel
theorem d_Net_init_13 : decode b_Net_init 13 = .ok (.aload_n 0, 1) := by decide +kernel
theorem d_Net_init_14 : decode b_Net_init 14 = .ok (.new 9, 3) := by decide +kernel
theorem d_Net_init_17 : decode b_Net_init 17 = .ok (.dup, 1) := by decide +kernel
theorem d_Net_init_18 : decode b_Net_init 18 = .ok (.invokespecial 17, 3) := by decide +kernel
theorem d_Net_init_21 : decode b_Net_init 21 = .ok (.putfield 18, 3) := by decide +kernel
theorem d_Net_init_24 : decode b_Net_init 24 = .ok (.aload_n 0, 1) := by decide +kernel
theorem d_Net_init_25 : decode b_Net_init 25 = .ok (.new 9, 3) := by decide +kernel
theorem d_Net_init_28 : decode b_Net_init 28 = .ok (.dup, 1) := by decide +kernel
theorem d_Net_init_29 : decode b_Net_init 29 = .ok (.invokespecial 17, 3) := by decide +kernel
theorem d_Net_init_32 : decode b_Net_init 32 = .ok (.putfield 22, 3) := by decide +kernel
theorem d_Net_init_35 : decode b_Net_init 35 = .ok (.iconst (0), 1) := by decide +kernel
theorem d_Net_init_36 : decode b_Net_init 36 = .ok (.istore_n 1, 1) := by decide +kernel
theorem d_Net_init_37 : decode b_Net_init 37 = .ok (.iload_n 1, 1) := by decide +kernel
theorem d_Net_init_38 : decode b_Net_init 38 = .ok (.aload_n 0, 1) := by decide +kernel
theorem d_Net_init_39 : decode b_Net_init 39 = .ok (.getfield 11, 3) := by decide +kernel
theorem d_Net_init_42 : decode b_Net_init 42 = .ok (.arraylength, 1) := by decide +kernel
theorem d_Net_init_43 : decode b_Net_init 43 = .ok (.if_icmp .ge (22), 3) := by decide +kernel
theorem d_Net_init_46 : decode b_Net_init 46 = .ok (.aload_n 0, 1) := by decide +kernel
theorem d_Net_init_47 : decode b_Net_init 47 = .ok (.getfield 11, 3) := by decide +kernel
theorem d_Net_init_50 : decode b_Net_init 50 = .ok (.iload_n 1, 1) := by decide +kernel
theorem d_Net_init_51 : decode b_Net_init 51 = .ok (.new 9, 3) := by decide +kernel
theorem d_Net_init_54 : decode b_Net_init 54 = .ok (.dup, 1) := by decide +kernel
theorem d_Net_init_55 : decode b_Net_init 55 = .ok (.invokespecial 17, 3) := by decide +kernel
theorem d_Net_init_58 : decode b_Net_init 58 = .ok (.aastore, 1) := by decide +kernel
theorem d_Net_init_59 : decode b_Net_init 59 = .ok (.iinc 1 (1), 3) := by decide +kernel
theorem d_Net_init_62 : decode b_Net_init 62 = .ok (.goto (-25), 3) := by decide +kernel
theorem d_Net_init_65 : decode b_Net_init 65 = .ok (.return_, 1) := by decide +kernel
theorem d_Net_has_0 : decode b_Net_has 0 = .ok (.iload_n 1, 1) := by decide +kernel
theorem d_Net_has_1 : decode b_Net_has 1 = .ok (.ifCond .lt (15), 3) := by decide +kernel
theorem d_Net_has_4 : decode b_Net_has 4 = .ok (.iload_n 1, 1) := by decide +kernel
theorem d_Net_has_5 : decode b_Net_has 5 = .ok (.aload_n 0, 1) := by decide +kernel
theorem d_Net_has_6 : decode b_Net_has 6 = .ok (.getfield 25, 3) := by decide +kernel
theorem d_Net_has_9 : decode b_Net_has 9 = .ok (.if_icmp .ge (7), 3) := by decide +kernel
theorem d_Net_has_12 : decode b_Net_has 12 = .ok (.iconst (1), 1) := by decide +kernel
theorem d_Net_has_13 : decode b_Net_has 13 = .ok (.goto (4), 3) := by decide +kernel
theorem d_Net_has_16 : decode b_Net_has 16 = .ok (.iconst (0), 1) := by decide +kernel
theorem d_Net_has_17 : decode b_Net_has 17 = .ok (.ireturn, 1) := by decide +kernel
theorem d_Rec_becomeLike_0 : decode b_Rec_becomeLike 0 = .ok (.aload_n 0, 1) := by decide +kernel
theorem d_Rec_becomeLike_1 : decode b_Rec_becomeLike 1 = .ok (.aload_n 1, 1) := by decide +kernel
theorem d_Rec_becomeLike_2 : decode b_Rec_becomeLike 2 = .ok (.getfield 15, 3) := by decide +kernel
theorem d_Rec_becomeLike_5 : decode b_Rec_becomeLike 5 = .ok (.aload_n 1, 1) := by decide +kernel
theorem d_Rec_becomeLike_6 : decode b_Rec_becomeLike 6 = .ok (.getfield 19, 3) := by decide +kernel
theorem d_Rec_becomeLike_9 : decode b_Rec_becomeLike 9 = .ok (.aload_n 1, 1) := by decide +kernel
theorem d_Rec_becomeLike_10 : decode b_Rec_becomeLike 10 = .ok (.getfield 22, 3) := by decide +kernel
theorem d_Rec_becomeLike_13 : decode b_Rec_becomeLike 13 = .ok (.aload_n 1, 1) := by decide +kernel
theorem d_Rec_becomeLike_14 : decode b_Rec_becomeLike 14 = .ok (.getfield 25, 3) := by decide +kernel
theorem d_Rec_becomeLike_17 : decode b_Rec_becomeLike 17 = .ok (.invokevirtual 47, 3) := by decide +kernel
theorem d_Rec_becomeLike_20 : decode b_Rec_becomeLike 20 = .ok (.aload_n 0, 1) := by decide +kernel
theorem d_Rec_becomeLike_21 : decode b_Rec_becomeLike 21 = .ok (.aload_n 1, 1) := by decide +kernel
theorem d_Rec_becomeLike_22 : decode b_Rec_becomeLike 22 = .ok (.getfield 28, 3) := by decide +kernel
