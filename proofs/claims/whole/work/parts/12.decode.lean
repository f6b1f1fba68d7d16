theorem d_Rec_becomeLike_25 : decode b_Rec_becomeLike 25 = .ok (.aload_n 1, 1) := by decide +kernel
theorem d_Rec_becomeLike_26 : decode b_Rec_becomeLike 26 = .ok (.getfield 31, 3) := by decide +kernel
theorem d_Rec_becomeLike_29 : decode b_Rec_becomeLike 29 = .ok (.invokevirtual 51, 3) := by decide +kernel
theorem d_Rec_becomeLike_32 : decode b_Rec_becomeLike 32 = .ok (.aload_n 0, 1) := by decide +kernel
theorem d_Rec_becomeLike_33 : decode b_Rec_becomeLike 33 = .ok (.aload_n 1, 1) := by decide +kernel
theorem d_Rec_becomeLike_34 : decode b_Rec_becomeLike 34 = .ok (.getfield 9, 3) := by decide +kernel
theorem d_Rec_becomeLike_37 : decode b_Rec_becomeLike 37 = .ok (.aload_n 1, 1) := by decide +kernel
theorem d_Rec_becomeLike_38 : decode b_Rec_becomeLike 38 = .ok (.getfield 34, 3) := by decide +kernel
theorem d_Rec_becomeLike_41 : decode b_Rec_becomeLike 41 = .ok (.invokevirtual 55, 3) := by decide +kernel
theorem d_Rec_becomeLike_44 : decode b_Rec_becomeLike 44 = .ok (.aload_n 0, 1) := by decide +kernel
theorem d_Rec_becomeLike_45 : decode b_Rec_becomeLike 45 = .ok (.aload_n 1, 1) := by decide +kernel
theorem d_Rec_becomeLike_46 : decode b_Rec_becomeLike 46 = .ok (.getfield 37, 3) := by decide +kernel
theorem d_Rec_becomeLike_49 : decode b_Rec_becomeLike 49 = .ok (.putfield 37, 3) := by decide +kernel
theorem d_Rec_becomeLike_52 : decode b_Rec_becomeLike 52 = .ok (.return_, 1) := by decide +kernel
theorem d_Net_appendLike_0 : decode b_Net_appendLike 0 = .ok (.aload_n 0, 1) := by decide +kernel
theorem d_Net_appendLike_1 : decode b_Net_appendLike 1 = .ok (.getfield 25, 3) := by decide +kernel
theorem d_Net_appendLike_4 : decode b_Net_appendLike 4 = .ok (.aload_n 0, 1) := by decide +kernel
theorem d_Net_appendLike_5 : decode b_Net_appendLike 5 = .ok (.getfield 11, 3) := by decide +kernel
theorem d_Net_appendLike_8 : decode b_Net_appendLike 8 = .ok (.arraylength, 1) := by decide +kernel
theorem d_Net_appendLike_9 : decode b_Net_appendLike 9 = .ok (.if_icmp .lt (5), 3) := by decide +kernel
theorem d_Net_appendLike_12 : decode b_Net_appendLike 12 = .ok (.iconst (0), 1) := by decide +kernel
theorem d_Net_appendLike_13 : decode b_Net_appendLike 13 = .ok (.ireturn, 1) := by decide +kernel
theorem d_Net_appendLike_14 : decode b_Net_appendLike 14 = .ok (.aload_n 0, 1) := by decide +kernel
theorem d_Net_appendLike_15 : decode b_Net_appendLike 15 = .ok (.getfield 11, 3) := by decide +kernel
theorem d_Net_appendLike_18 : decode b_Net_appendLike 18 = .ok (.aload_n 0, 1) := by decide +kernel
theorem d_Net_appendLike_19 : decode b_Net_appendLike 19 = .ok (.getfield 25, 3) := by decide +kernel
theorem d_Net_appendLike_22 : decode b_Net_appendLike 22 = .ok (.aaload, 1) := by decide +kernel
theorem d_Net_appendLike_23 : decode b_Net_appendLike 23 = .ok (.aload_n 0, 1) := by decide +kernel
theorem d_Net_appendLike_24 : decode b_Net_appendLike 24 = .ok (.getfield 11, 3) := by decide +kernel
theorem d_Net_appendLike_27 : decode b_Net_appendLike 27 = .ok (.iload_n 1, 1) := by decide +kernel
theorem d_Net_appendLike_28 : decode b_Net_appendLike 28 = .ok (.aaload, 1) := by decide +kernel
theorem d_Net_appendLike_29 : decode b_Net_appendLike 29 = .ok (.invokevirtual 39, 3) := by decide +kernel
theorem d_Net_appendLike_32 : decode b_Net_appendLike 32 = .ok (.aload_n 0, 1) := by decide +kernel
theorem d_Net_appendLike_33 : decode b_Net_appendLike 33 = .ok (.dup, 1) := by decide +kernel
theorem d_Net_appendLike_34 : decode b_Net_appendLike 34 = .ok (.getfield 25, 3) := by decide +kernel
theorem d_Net_appendLike_37 : decode b_Net_appendLike 37 = .ok (.iconst (1), 1) := by decide +kernel
theorem d_Net_appendLike_38 : decode b_Net_appendLike 38 = .ok (.iadd, 1) := by decide +kernel
theorem d_Net_appendLike_39 : decode b_Net_appendLike 39 = .ok (.putfield 25, 3) := by decide +kernel
theorem d_Net_appendLike_42 : decode b_Net_appendLike 42 = .ok (.iconst (1), 1) := by decide +kernel
theorem d_Net_appendLike_43 : decode b_Net_appendLike 43 = .ok (.ireturn, 1) := by decide +kernel
theorem d_Net_takeOut_0 : decode b_Net_takeOut 0 = .ok (.aload_n 0, 1) := by decide +kernel
theorem d_Net_takeOut_1 : decode b_Net_takeOut 1 = .ok (.getfield 11, 3) := by decide +kernel
theorem d_Net_takeOut_4 : decode b_Net_takeOut 4 = .ok (.iload_n 1, 1) := by decide +kernel
theorem d_Net_takeOut_5 : decode b_Net_takeOut 5 = .ok (.aaload, 1) := by decide +kernel
theorem d_Net_takeOut_6 : decode b_Net_takeOut 6 = .ok (.astore_n 2, 1) := by decide +kernel
theorem d_Net_takeOut_7 : decode b_Net_takeOut 7 = .ok (.aload_n 0, 1) := by decide +kernel
theorem d_Net_takeOut_8 : decode b_Net_takeOut 8 = .ok (.dup, 1) := by decide +kernel
theorem d_Net_takeOut_9 : decode b_Net_takeOut 9 = .ok (.getfield 25, 3) := by decide +kernel
theorem d_Net_takeOut_12 : decode b_Net_takeOut 12 = .ok (.iconst (1), 1) := by decide +kernel
theorem d_Net_takeOut_13 : decode b_Net_takeOut 13 = .ok (.isub, 1) := by decide +kernel
theorem d_Net_takeOut_14 : decode b_Net_takeOut 14 = .ok (.putfield 25, 3) := by decide +kernel
theorem d_Net_takeOut_17 : decode b_Net_takeOut 17 = .ok (.iload_n 1, 1) := by decide +kernel
theorem d_Net_takeOut_18 : decode b_Net_takeOut 18 = .ok (.istore_n 3, 1) := by decide +kernel
theorem d_Net_takeOut_19 : decode b_Net_takeOut 19 = .ok (.iload_n 3, 1) := by decide +kernel
theorem d_Net_takeOut_20 : decode b_Net_takeOut 20 = .ok (.aload_n 0, 1) := by decide +kernel
theorem d_Net_takeOut_21 : decode b_Net_takeOut 21 = .ok (.getfield 25, 3) := by decide +kernel
theorem d_Net_takeOut_24 : decode b_Net_takeOut 24 = .ok (.if_icmp .ge (23), 3) := by decide +kernel
theorem d_Net_takeOut_27 : decode b_Net_takeOut 27 = .ok (.aload_n 0, 1) := by decide +kernel
theorem d_Net_takeOut_28 : decode b_Net_takeOut 28 = .ok (.getfield 11, 3) := by decide +kernel
theorem d_Net_takeOut_31 : decode b_Net_takeOut 31 = .ok (.iload_n 3, 1) := by decide +kernel
theorem d_Net_takeOut_32 : decode b_Net_takeOut 32 = .ok (.aload_n 0, 1) := by decide +kernel
theorem d_Net_takeOut_33 : decode b_Net_takeOut 33 = .ok (.getfield 11, 3) := by decide +kernel
theorem d_Net_takeOut_36 : decode b_Net_takeOut 36 = .ok (.iload_n 3, 1) := by decide +kernel
theorem d_Net_takeOut_37 : decode b_Net_takeOut 37 = .ok (.iconst (1), 1) := by decide +kernel
theorem d_Net_takeOut_38 : decode b_Net_takeOut 38 = .ok (.iadd, 1) := by decide +kernel
theorem d_Net_takeOut_39 : decode b_Net_takeOut 39 = .ok (.aaload, 1) := by decide +kernel
theorem d_Net_takeOut_40 : decode b_Net_takeOut 40 = .ok (.aastore, 1) := by decide +kernel
theorem d_Net_takeOut_41 : decode b_Net_takeOut 41 = .ok (.iinc 3 (1), 3) := by decide +kernel
theorem d_Net_takeOut_44 : decode b_Net_takeOut 44 = .ok (.goto (-25), 3) := by decide +kernel
theorem d_Net_takeOut_47 : decode b_Net_takeOut 47 = .ok (.aload_n 0, 1) := by decide +kernel
theorem d_Net_takeOut_48 : decode b_Net_takeOut 48 = .ok (.getfield 11, 3) := by decide +kernel
theorem d_Net_takeOut_51 : decode b_Net_takeOut 51 = .ok (.aload_n 0, 1) := by decide +kernel
theorem d_Net_takeOut_52 : decode b_Net_takeOut 52 = .ok (.getfield 25, 3) := by decide +kernel
theorem d_Net_takeOut_55 : decode b_Net_takeOut 55 = .ok (.aload_n 0, 1) := by decide +kernel
theorem d_Net_takeOut_56 : decode b_Net_takeOut 56 = .ok (.getfield 18, 3) := by decide +kernel
theorem d_Net_takeOut_59 : decode b_Net_takeOut 59 = .ok (.aastore, 1) := by decide +kernel
theorem d_Net_takeOut_60 : decode b_Net_takeOut 60 = .ok (.aload_n 0, 1) := by decide +kernel
theorem d_Net_takeOut_61 : decode b_Net_takeOut 61 = .ok (.aload_n 2, 1) := by decide +kernel
theorem d_Net_takeOut_62 : decode b_Net_takeOut 62 = .ok (.putfield 18, 3) := by decide +kernel
theorem d_Net_takeOut_65 : decode b_Net_takeOut 65 = .ok (.aload_n 2, 1) := by decide +kernel
theorem d_Net_takeOut_66 : decode b_Net_takeOut 66 = .ok (.areturn, 1) := by decide +kernel
theorem d_Rec_holdValue_0 : decode b_Rec_holdValue 0 = .ok (.aload_n 0, 1) := by decide +kernel
theorem d_Rec_holdValue_1 : decode b_Rec_holdValue 1 = .ok (.getfield 9, 3) := by decide +kernel
theorem d_Rec_holdValue_4 : decode b_Rec_holdValue 4 = .ok (.iconst (0), 1) := by decide +kernel
theorem d_Rec_holdValue_5 : decode b_Rec_holdValue 5 = .ok (.iload_n 1, 1) := by decide +kernel
theorem d_Rec_holdValue_6 : decode b_Rec_holdValue 6 = .ok (.iastore, 1) := by decide +kernel
theorem d_Rec_holdValue_7 : decode b_Rec_holdValue 7 = .ok (.aload_n 0, 1) := by decide +kernel
theorem d_Rec_holdValue_8 : decode b_Rec_holdValue 8 = .ok (.iconst (1), 1) := by decide +kernel
theorem d_Rec_holdValue_9 : decode b_Rec_holdValue 9 = .ok (.putfield 34, 3) := by decide +kernel
theorem d_Rec_holdValue_12 : decode b_Rec_holdValue 12 = .ok (.return_, 1) := by decide +kernel
theorem d_Rec_isPieceOf_0 : decode b_Rec_isPieceOf 0 = .ok (.aload_n 0, 1) := by decide +kernel
theorem d_Rec_isPieceOf_1 : decode b_Rec_isPieceOf 1 = .ok (.getfield 19, 3) := by decide +kernel
theorem d_Rec_isPieceOf_4 : decode b_Rec_isPieceOf 4 = .ok (.ifCond .ne (15), 3) := by decide +kernel
theorem d_Rec_isPieceOf_7 : decode b_Rec_isPieceOf 7 = .ok (.aload_n 0, 1) := by decide +kernel
theorem d_Rec_isPieceOf_8 : decode b_Rec_isPieceOf 8 = .ok (.getfield 28, 3) := by decide +kernel
theorem d_Rec_isPieceOf_11 : decode b_Rec_isPieceOf 11 = .ok (.iload_n 1, 1) := by decide +kernel
theorem d_Rec_isPieceOf_12 : decode b_Rec_isPieceOf 12 = .ok (.if_icmp .ne (7), 3) := by decide +kernel
theorem d_Rec_isPieceOf_15 : decode b_Rec_isPieceOf 15 = .ok (.iconst (1), 1) := by decide +kernel
theorem d_Rec_isPieceOf_16 : decode b_Rec_isPieceOf 16 = .ok (.goto (4), 3) := by decide +kernel
theorem d_Rec_isPieceOf_19 : decode b_Rec_isPieceOf 19 = .ok (.iconst (0), 1) := by decide +kernel
theorem d_Rec_isPieceOf_20 : decode b_Rec_isPieceOf 20 = .ok (.ireturn, 1) := by decide +kernel
theorem d_Rec_headline_0 : decode b_Rec_headline 0 = .ok (.ldc 62, 2) := by decide +kernel
theorem d_Rec_headline_2 : decode b_Rec_headline 2 = .ok (.aload_n 0, 1) := by decide +kernel
theorem d_Rec_headline_3 : decode b_Rec_headline 3 = .ok (.getfield 15, 3) := by decide +kernel
theorem d_Rec_headline_6 : decode b_Rec_headline 6 = .ok (.imul, 1) := by decide +kernel
theorem d_Rec_headline_7 : decode b_Rec_headline 7 = .ok (.ldc 63, 2) := by decide +kernel
theorem d_Rec_headline_9 : decode b_Rec_headline 9 = .ok (.aload_n 0, 1) := by decide +kernel
theorem d_Rec_headline_10 : decode b_Rec_headline 10 = .ok (.getfield 19, 3) := by decide +kernel
theorem d_Rec_headline_13 : decode b_Rec_headline 13 = .ok (.imul, 1) := by decide +kernel
theorem d_Rec_headline_14 : decode b_Rec_headline 14 = .ok (.iadd, 1) := by decide +kernel
theorem d_Rec_headline_15 : decode b_Rec_headline 15 = .ok (.sipush (10000), 3) := by decide +kernel
theorem d_Rec_headline_18 : decode b_Rec_headline 18 = .ok (.aload_n 0, 1) := by decide +kernel
theorem d_Rec_headline_19 : decode b_Rec_headline 19 = .ok (.getfield 22, 3) := by decide +kernel
theorem d_Rec_headline_22 : decode b_Rec_headline 22 = .ok (.imul, 1) := by decide +kernel
theorem d_Rec_headline_23 : decode b_Rec_headline 23 = .ok (.iadd, 1) := by decide +kernel
theorem d_Rec_headline_24 : decode b_Rec_headline 24 = .ok (.aload_n 0, 1) := by decide +kernel
theorem d_Rec_headline_25 : decode b_Rec_headline 25 = .ok (.getfield 25, 3) := by decide +kernel
theorem d_Rec_headline_28 : decode b_Rec_headline 28 = .ok (.sipush (10000), 3) := by decide +kernel
theorem d_Rec_headline_31 : decode b_Rec_headline 31 = .ok (.irem, 1) := by decide +kernel
theorem d_Rec_headline_32 : decode b_Rec_headline 32 = .ok (.iadd, 1) := by decide +kernel
theorem d_Rec_headline_33 : decode b_Rec_headline 33 = .ok (.ireturn, 1) := by decide +kernel
theorem d_Rec_summary_0 : decode b_Rec_summary 0 = .ok (.aload_n 0, 1) := by decide +kernel
theorem d_Rec_summary_1 : decode b_Rec_summary 1 = .ok (.getfield 19, 3) := by decide +kernel
theorem d_Rec_summary_4 : decode b_Rec_summary 4 = .ok (.lookupswitch (55) #[(0, 28), (1, 50)], 28) := by decide +kernel
theorem d_Rec_summary_32 : decode b_Rec_summary 32 = .ok (.sipush (10000), 3) := by decide +kernel
theorem d_Rec_summary_35 : decode b_Rec_summary 35 = .ok (.aload_n 0, 1) := by decide +kernel
theorem d_Rec_summary_36 : decode b_Rec_summary 36 = .ok (.getfield 28, 3) := by decide +kernel
theorem d_Rec_summary_39 : decode b_Rec_summary 39 = .ok (.imul, 1) := by decide +kernel
theorem d_Rec_summary_40 : decode b_Rec_summary 40 = .ok (.bipush (100), 2) := by decide +kernel
theorem d_Rec_summary_42 : decode b_Rec_summary 42 = .ok (.aload_n 0, 1) := by decide +kernel
theorem d_Rec_summary_43 : decode b_Rec_summary 43 = .ok (.getfield 31, 3) := by decide +kernel
theorem d_Rec_summary_46 : decode b_Rec_summary 46 = .ok (.imul, 1) := by decide +kernel
theorem d_Rec_summary_47 : decode b_Rec_summary 47 = .ok (.iadd, 1) := by decide +kernel
theorem d_Rec_summary_48 : decode b_Rec_summary 48 = .ok (.aload_n 0, 1) := by decide +kernel
theorem d_Rec_summary_49 : decode b_Rec_summary 49 = .ok (.getfield 34, 3) := by decide +kernel
theorem d_Rec_summary_52 : decode b_Rec_summary 52 = .ok (.iadd, 1) := by decide +kernel
theorem d_Rec_summary_53 : decode b_Rec_summary 53 = .ok (.ireturn, 1) := by decide +kernel
theorem d_Rec_summary_54 : decode b_Rec_summary 54 = .ok (.aload_n 0, 1) := by decide +kernel
theorem d_Rec_summary_55 : decode b_Rec_summary 55 = .ok (.getfield 34, 3) := by decide +kernel
theorem d_Rec_summary_58 : decode b_Rec_summary 58 = .ok (.ireturn, 1) := by decide +kernel
theorem d_Rec_summary_59 : decode b_Rec_summary 59 = .ok (.iconst (0), 1) := by decide +kernel
theorem d_Rec_summary_60 : decode b_Rec_summary 60 = .ok (.ireturn, 1) := by decide +kernel
theorem d_Rec_fragmentByte_0 : decode b_Rec_fragmentByte 0 = .ok (.aload_n 0, 1) := by decide +kernel
theorem d_Rec_fragmentByte_1 : decode b_Rec_fragmentByte 1 = .ok (.getfield 19, 3) := by decide +kernel
theorem d_Rec_fragmentByte_4 : decode b_Rec_fragmentByte 4 = .ok (.ifCond .ne (24), 3) := by decide +kernel
theorem d_Rec_fragmentByte_7 : decode b_Rec_fragmentByte 7 = .ok (.iload_n 1, 1) := by decide +kernel
theorem d_Rec_fragmentByte_8 : decode b_Rec_fragmentByte 8 = .ok (.ifCond .lt (20), 3) := by decide +kernel
theorem d_Rec_fragmentByte_11 : decode b_Rec_fragmentByte 11 = .ok (.iload_n 1, 1) := by decide +kernel
theorem d_Rec_fragmentByte_12 : decode b_Rec_fragmentByte 12 = .ok (.aload_n 0, 1) := by decide +kernel
theorem d_Rec_fragmentByte_13 : decode b_Rec_fragmentByte 13 = .ok (.getfield 34, 3) := by decide +kernel
theorem d_Rec_fragmentByte_16 : decode b_Rec_fragmentByte 16 = .ok (.if_icmp .ge (12), 3) := by decide +kernel
theorem d_Rec_fragmentByte_19 : decode b_Rec_fragmentByte 19 = .ok (.aload_n 0, 1) := by decide +kernel
theorem d_Rec_fragmentByte_20 : decode b_Rec_fragmentByte 20 = .ok (.getfield 9, 3) := by decide +kernel
theorem d_Rec_fragmentByte_23 : decode b_Rec_fragmentByte 23 = .ok (.iload_n 1, 1) := by decide +kernel
theorem d_Rec_fragmentByte_24 : decode b_Rec_fragmentByte 24 = .ok (.iaload, 1) := by decide +kernel
theorem d_Rec_fragmentByte_25 : decode b_Rec_fragmentByte 25 = .ok (.goto (4), 3) := by decide +kernel
theorem d_Rec_fragmentByte_28 : decode b_Rec_fragmentByte 28 = .ok (.iconst (-1), 1) := by decide +kernel
theorem d_Rec_fragmentByte_29 : decode b_Rec_fragmentByte 29 = .ok (.ireturn, 1) := by decide +kernel
theorem d_X_serverSecret_0 : decode b_X_serverSecret 0 = .ok (.iload_n 0, 1) := by decide +kernel
theorem d_X_serverSecret_1 : decode b_X_serverSecret 1 = .ok (.iconst (2), 1) := by decide +kernel
theorem d_X_serverSecret_2 : decode b_X_serverSecret 2 = .ok (.invokestatic 141, 3) := by decide +kernel
theorem d_X_serverSecret_5 : decode b_X_serverSecret 5 = .ok (.ireturn, 1) := by decide +kernel
theorem d_Server_init_0 : decode b_Server_init 0 = .ok (.aload_n 0, 1) := by decide +kernel
theorem d_Server_init_1 : decode b_Server_init 1 = .ok (.iconst (1), 1) := by decide +kernel
theorem d_Server_init_2 : decode b_Server_init 2 = .ok (.iload_n 2, 1) := by decide +kernel
theorem d_Server_init_3 : decode b_Server_init 3 = .ok (.aload_n 3, 1) := by decide +kernel
theorem d_Server_init_4 : decode b_Server_init 4 = .ok (.bipush (9), 2) := by decide +kernel
theorem d_Server_init_6 : decode b_Server_init 6 = .ok (.invokespecial 3, 3) := by decide +kernel
theorem d_Server_init_9 : decode b_Server_init 9 = .ok (.aload_n 0, 1) := by decide +kernel
theorem d_Server_init_10 : decode b_Server_init 10 = .ok (.new 9, 3) := by decide +kernel
theorem d_Server_init_13 : decode b_Server_init 13 = .ok (.dup, 1) := by decide +kernel
theorem d_Server_init_14 : decode b_Server_init 14 = .ok (.iconst (0), 1) := by decide +kernel
theorem d_Server_init_15 : decode b_Server_init 15 = .ok (.iconst (0), 1) := by decide +kernel
theorem d_Server_init_16 : decode b_Server_init 16 = .ok (.iconst (4), 1) := by decide +kernel
theorem d_Server_init_17 : decode b_Server_init 17 = .ok (.invokespecial 11, 3) := by decide +kernel
theorem d_Server_init_20 : decode b_Server_init 20 = .ok (.putfield 14, 3) := by decide +kernel
theorem d_Server_init_23 : decode b_Server_init 23 = .ok (.aload_n 0, 1) := by decide +kernel
theorem d_Server_init_24 : decode b_Server_init 24 = .ok (.new 9, 3) := by decide +kernel
theorem d_Server_init_27 : decode b_Server_init 27 = .ok (.dup, 1) := by decide +kernel
theorem d_Server_init_28 : decode b_Server_init 28 = .ok (.iconst (1), 1) := by decide +kernel
theorem d_Server_init_29 : decode b_Server_init 29 = .ok (.iconst (0), 1) := by decide +kernel
theorem d_Server_init_30 : decode b_Server_init 30 = .ok (.iconst (4), 1) := by decide +kernel
theorem d_Server_init_31 : decode b_Server_init 31 = .ok (.invokespecial 11, 3) := by decide +kernel
theorem d_Server_init_34 : decode b_Server_init 34 = .ok (.putfield 20, 3) := by decide +kernel
theorem d_Server_init_37 : decode b_Server_init 37 = .ok (.aload_n 0, 1) := by decide +kernel
theorem d_Server_init_38 : decode b_Server_init 38 = .ok (.new 9, 3) := by decide +kernel
theorem d_Server_init_41 : decode b_Server_init 41 = .ok (.dup, 1) := by decide +kernel
theorem d_Server_init_42 : decode b_Server_init 42 = .ok (.iconst (2), 1) := by decide +kernel
theorem d_Server_init_43 : decode b_Server_init 43 = .ok (.iconst (2), 1) := by decide +kernel
theorem d_Server_init_44 : decode b_Server_init 44 = .ok (.bipush (6), 2) := by decide +kernel
theorem d_Server_init_46 : decode b_Server_init 46 = .ok (.invokespecial 11, 3) := by decide +kernel
theorem d_Server_init_49 : decode b_Server_init 49 = .ok (.putfield 23, 3) := by decide +kernel
theorem d_Server_init_52 : decode b_Server_init 52 = .ok (.aload_n 0, 1) := by decide +kernel
theorem d_Server_init_53 : decode b_Server_init 53 = .ok (.new 9, 3) := by decide +kernel
theorem d_Server_init_56 : decode b_Server_init 56 = .ok (.dup, 1) := by decide +kernel
theorem d_Server_init_57 : decode b_Server_init 57 = .ok (.iconst (4), 1) := by decide +kernel
theorem d_Server_init_58 : decode b_Server_init 58 = .ok (.iconst (2), 1) := by decide +kernel
theorem d_Server_init_59 : decode b_Server_init 59 = .ok (.iconst (4), 1) := by decide +kernel
theorem d_Server_init_60 : decode b_Server_init 60 = .ok (.invokespecial 11, 3) := by decide +kernel
theorem d_Server_init_63 : decode b_Server_init 63 = .ok (.putfield 26, 3) := by decide +kernel
theorem d_Server_init_66 : decode b_Server_init 66 = .ok (.aload_n 0, 1) := by decide +kernel
theorem d_Server_init_67 : decode b_Server_init 67 = .ok (.iload_n 1, 1) := by decide +kernel
theorem d_Server_init_68 : decode b_Server_init 68 = .ok (.invokestatic 29, 3) := by decide +kernel
theorem d_Server_init_71 : decode b_Server_init 71 = .ok (.putfield 33, 3) := by decide +kernel
theorem d_Server_init_74 : decode b_Server_init 74 = .ok (.aload_n 0, 1) := by decide +kernel
theorem d_Server_init_75 : decode b_Server_init 75 = .ok (.new 9, 3) := by decide +kernel
theorem d_Server_init_78 : decode b_Server_init 78 = .ok (.dup, 1) := by decide +kernel
theorem d_Server_init_79 : decode b_Server_init 79 = .ok (.iconst (3), 1) := by decide +kernel
theorem d_Server_init_80 : decode b_Server_init 80 = .ok (.iconst (2), 1) := by decide +kernel
theorem d_Server_init_81 : decode b_Server_init 81 = .ok (.iload_n 1, 1) := by decide +kernel
theorem d_Server_init_82 : decode b_Server_init 82 = .ok (.invokestatic 37, 3) := by decide +kernel
theorem d_Server_init_85 : decode b_Server_init 85 = .ok (.invokespecial 11, 3) := by decide +kernel
theorem d_Server_init_88 : decode b_Server_init 88 = .ok (.putfield 40, 3) := by decide +kernel
theorem d_Server_init_91 : decode b_Server_init 91 = .ok (.return_, 1) := by decide +kernel
theorem d_Server_sendRetry_0 : decode b_Server_sendRetry 0 = .ok (.aload_n 0, 1) := by decide +kernel
theorem d_Server_sendRetry_1 : decode b_Server_sendRetry 1 = .ok (.getfield 14, 3) := by decide +kernel
theorem d_Server_sendRetry_4 : decode b_Server_sendRetry 4 = .ok (.iconst (0), 1) := by decide +kernel
theorem d_Server_sendRetry_5 : decode b_Server_sendRetry 5 = .ok (.aload_n 0, 1) := by decide +kernel
theorem d_Server_sendRetry_6 : decode b_Server_sendRetry 6 = .ok (.getfield 33, 3) := by decide +kernel
theorem d_Server_sendRetry_9 : decode b_Server_sendRetry 9 = .ok (.aload_n 1, 1) := by decide +kernel
theorem d_Server_sendRetry_10 : decode b_Server_sendRetry 10 = .ok (.invokevirtual 86, 3) := by decide +kernel
theorem d_Server_sendRetry_13 : decode b_Server_sendRetry 13 = .ok (.invokestatic 90, 3) := by decide +kernel
theorem d_Server_sendRetry_16 : decode b_Server_sendRetry 16 = .ok (.invokevirtual 94, 3) := by decide +kernel
theorem d_Server_sendRetry_19 : decode b_Server_sendRetry 19 = .ok (.aload_n 0, 1) := by decide +kernel
theorem d_Server_sendRetry_20 : decode b_Server_sendRetry 20 = .ok (.getfield 98, 3) := by decide +kernel
theorem d_Server_sendRetry_23 : decode b_Server_sendRetry 23 = .ok (.aload_n 0, 1) := by decide +kernel
theorem d_Server_sendRetry_24 : decode b_Server_sendRetry 24 = .ok (.getfield 102, 3) := by decide +kernel
theorem d_Server_sendRetry_27 : decode b_Server_sendRetry 27 = .ok (.iconst (0), 1) := by decide +kernel
theorem d_Server_sendRetry_28 : decode b_Server_sendRetry 28 = .ok (.iconst (0), 1) := by decide +kernel
theorem d_Server_sendRetry_29 : decode b_Server_sendRetry 29 = .ok (.aload_n 1, 1) := by decide +kernel
theorem d_Server_sendRetry_30 : decode b_Server_sendRetry 30 = .ok (.getfield 105, 3) := by decide +kernel
theorem d_Server_sendRetry_33 : decode b_Server_sendRetry 33 = .ok (.invokevirtual 108, 3) := by decide +kernel
theorem d_Server_sendRetry_36 : decode b_Server_sendRetry 36 = .ok (.astore_n 2, 1) := by decide +kernel
theorem d_Server_sendRetry_37 : decode b_Server_sendRetry 37 = .ok (.aload_n 2, 1) := by decide +kernel
theorem d_Server_sendRetry_38 : decode b_Server_sendRetry 38 = .ok (.iconst (0), 1) := by decide +kernel
theorem d_Server_sendRetry_39 : decode b_Server_sendRetry 39 = .ok (.iconst (0), 1) := by decide +kernel
theorem d_Server_sendRetry_40 : decode b_Server_sendRetry 40 = .ok (.invokevirtual 114, 3) := by decide +kernel
theorem d_Server_sendRetry_43 : decode b_Server_sendRetry 43 = .ok (.aload_n 2, 1) := by decide +kernel
theorem d_Server_sendRetry_44 : decode b_Server_sendRetry 44 = .ok (.aload_n 0, 1) := by decide +kernel
theorem d_Server_sendRetry_45 : decode b_Server_sendRetry 45 = .ok (.getfield 14, 3) := by decide +kernel
theorem d_Server_sendRetry_48 : decode b_Server_sendRetry 48 = .ok (.getfield 117, 3) := by decide +kernel
theorem d_Server_sendRetry_51 : decode b_Server_sendRetry 51 = .ok (.aload_n 0, 1) := by decide +kernel
theorem d_Server_sendRetry_52 : decode b_Server_sendRetry 52 = .ok (.getfield 14, 3) := by decide +kernel
theorem d_Server_sendRetry_55 : decode b_Server_sendRetry 55 = .ok (.getfield 117, 3) := by decide +kernel
theorem d_Server_sendRetry_58 : decode b_Server_sendRetry 58 = .ok (.arraylength, 1) := by decide +kernel
theorem d_Server_sendRetry_59 : decode b_Server_sendRetry 59 = .ok (.invokevirtual 120, 3) := by decide +kernel
theorem d_Server_sendRetry_62 : decode b_Server_sendRetry 62 = .ok (.return_, 1) := by decide +kernel
theorem d_Server_addFirstThreeToTranscript_0 : decode b_Server_addFirstThreeToTranscript 0 = .ok (.aload_n 0, 1) := by decide +kernel
theorem d_Server_addFirstThreeToTranscript_1 : decode b_Server_addFirstThreeToTranscript 1 = .ok (.aload_n 1, 1) := by decide +kernel
theorem d_Server_addFirstThreeToTranscript_2 : decode b_Server_addFirstThreeToTranscript 2 = .ok (.getfield 69, 3) := by decide +kernel
theorem d_Server_addFirstThreeToTranscript_5 : decode b_Server_addFirstThreeToTranscript 5 = .ok (.iconst (0), 1) := by decide +kernel
theorem d_Server_addFirstThreeToTranscript_6 : decode b_Server_addFirstThreeToTranscript 6 = .ok (.iconst (4), 1) := by decide +kernel
theorem d_Server_addFirstThreeToTranscript_7 : decode b_Server_addFirstThreeToTranscript 7 = .ok (.invokevirtual 146, 3) := by decide +kernel
theorem d_Server_addFirstThreeToTranscript_10 : decode b_Server_addFirstThreeToTranscript 10 = .ok (.iconst (0), 1) := by decide +kernel
theorem d_Server_addFirstThreeToTranscript_11 : decode b_Server_addFirstThreeToTranscript 11 = .ok (.istore_n 2, 1) := by decide +kernel
theorem d_Server_addFirstThreeToTranscript_12 : decode b_Server_addFirstThreeToTranscript 12 = .ok (.iload_n 2, 1) := by decide +kernel
theorem d_Server_addFirstThreeToTranscript_13 : decode b_Server_addFirstThreeToTranscript 13 = .ok (.iconst (4), 1) := by decide +kernel
theorem d_Server_addFirstThreeToTranscript_14 : decode b_Server_addFirstThreeToTranscript 14 = .ok (.if_icmp .ge (22), 3) := by decide +kernel
theorem d_Server_addFirstThreeToTranscript_17 : decode b_Server_addFirstThreeToTranscript 17 = .ok (.aload_n 0, 1) := by decide +kernel
theorem d_Server_addFirstThreeToTranscript_18 : decode b_Server_addFirstThreeToTranscript 18 = .ok (.aload_n 0, 1) := by decide +kernel
theorem d_Server_addFirstThreeToTranscript_19 : decode b_Server_addFirstThreeToTranscript 19 = .ok (.getfield 150, 3) := by decide +kernel
theorem d_Server_addFirstThreeToTranscript_22 : decode b_Server_addFirstThreeToTranscript 22 = .ok (.bipush (31), 2) := by decide +kernel
theorem d_Server_addFirstThreeToTranscript_24 : decode b_Server_addFirstThreeToTranscript 24 = .ok (.imul, 1) := by decide +kernel
theorem d_Server_addFirstThreeToTranscript_25 : decode b_Server_addFirstThreeToTranscript 25 = .ok (.iconst (1), 1) := by decide +kernel
theorem d_Server_addFirstThreeToTranscript_26 : decode b_Server_addFirstThreeToTranscript 26 = .ok (.iadd, 1) := by decide +kernel
theorem d_Server_addFirstThreeToTranscript_27 : decode b_Server_addFirstThreeToTranscript 27 = .ok (.putfield 150, 3) := by decide +kernel
theorem d_Server_addFirstThreeToTranscript_30 : decode b_Server_addFirstThreeToTranscript 30 = .ok (.iinc 2 (1), 3) := by decide +kernel
theorem d_Server_addFirstThreeToTranscript_33 : decode b_Server_addFirstThreeToTranscript 33 = .ok (.goto (-21), 3) := by decide +kernel
theorem d_Server_addFirstThreeToTranscript_36 : decode b_Server_addFirstThreeToTranscript 36 = .ok (.aload_n 0, 1) := by decide +kernel
theorem d_Server_addFirstThreeToTranscript_37 : decode b_Server_addFirstThreeToTranscript 37 = .ok (.aload_n 1, 1) := by decide +kernel
theorem d_Server_addFirstThreeToTranscript_38 : decode b_Server_addFirstThreeToTranscript 38 = .ok (.getfield 69, 3) := by decide +kernel
theorem d_Server_addFirstThreeToTranscript_41 : decode b_Server_addFirstThreeToTranscript 41 = .ok (.iconst (4), 1) := by decide +kernel
theorem d_Server_addFirstThreeToTranscript_42 : decode b_Server_addFirstThreeToTranscript 42 = .ok (.bipush (8), 2) := by decide +kernel
theorem d_Server_addFirstThreeToTranscript_44 : decode b_Server_addFirstThreeToTranscript 44 = .ok (.invokevirtual 146, 3) := by decide +kernel
theorem d_Server_addFirstThreeToTranscript_47 : decode b_Server_addFirstThreeToTranscript 47 = .ok (.aload_n 0, 1) := by decide +kernel
theorem d_Server_addFirstThreeToTranscript_48 : decode b_Server_addFirstThreeToTranscript 48 = .ok (.aload_n 1, 1) := by decide +kernel
theorem d_Server_addFirstThreeToTranscript_49 : decode b_Server_addFirstThreeToTranscript 49 = .ok (.getfield 69, 3) := by decide +kernel
theorem d_Server_addFirstThreeToTranscript_52 : decode b_Server_addFirstThreeToTranscript 52 = .ok (.iconst (0), 1) := by decide +kernel
theorem d_Server_addFirstThreeToTranscript_53 : decode b_Server_addFirstThreeToTranscript 53 = .ok (.bipush (8), 2) := by decide +kernel
theorem d_Server_addFirstThreeToTranscript_55 : decode b_Server_addFirstThreeToTranscript 55 = .ok (.invokevirtual 146, 3) := by decide +kernel
theorem d_Server_addFirstThreeToTranscript_58 : decode b_Server_addFirstThreeToTranscript 58 = .ok (.return_, 1) := by decide +kernel
theorem d_Server_workOutFlight_0 : decode b_Server_workOutFlight 0 = .ok (.aload_n 0, 1) := by decide +kernel
theorem d_Server_workOutFlight_1 : decode b_Server_workOutFlight 1 = .ok (.getfield 20, 3) := by decide +kernel
theorem d_Server_workOutFlight_4 : decode b_Server_workOutFlight 4 = .ok (.iconst (0), 1) := by decide +kernel
theorem d_Server_workOutFlight_5 : decode b_Server_workOutFlight 5 = .ok (.aload_n 0, 1) := by decide +kernel
theorem d_Server_workOutFlight_6 : decode b_Server_workOutFlight 6 = .ok (.getfield 33, 3) := by decide +kernel
theorem d_Server_workOutFlight_9 : decode b_Server_workOutFlight 9 = .ok (.iconst (1), 1) := by decide +kernel
theorem d_Server_workOutFlight_10 : decode b_Server_workOutFlight 10 = .ok (.iadd, 1) := by decide +kernel
theorem d_Server_workOutFlight_11 : decode b_Server_workOutFlight 11 = .ok (.iload_n 1, 1) := by decide +kernel
theorem d_Server_workOutFlight_12 : decode b_Server_workOutFlight 12 = .ok (.invokestatic 90, 3) := by decide +kernel
theorem d_Server_workOutFlight_15 : decode b_Server_workOutFlight 15 = .ok (.invokevirtual 94, 3) := by decide +kernel
theorem d_Server_workOutFlight_18 : decode b_Server_workOutFlight 18 = .ok (.aload_n 0, 1) := by decide +kernel
theorem d_Server_workOutFlight_19 : decode b_Server_workOutFlight 19 = .ok (.getfield 23, 3) := by decide +kernel
theorem d_Server_workOutFlight_22 : decode b_Server_workOutFlight 22 = .ok (.iload_n 1, 1) := by decide +kernel
theorem d_Server_workOutFlight_23 : decode b_Server_workOutFlight 23 = .ok (.invokevirtual 153, 3) := by decide +kernel
theorem d_Server_workOutFlight_26 : decode b_Server_workOutFlight 26 = .ok (.aload_n 0, 1) := by decide +kernel
theorem d_Server_workOutFlight_27 : decode b_Server_workOutFlight 27 = .ok (.getfield 40, 3) := by decide +kernel
theorem d_Server_workOutFlight_30 : decode b_Server_workOutFlight 30 = .ok (.aload_n 0, 1) := by decide +kernel
theorem d_Server_workOutFlight_31 : decode b_Server_workOutFlight 31 = .ok (.getfield 33, 3) := by decide +kernel
theorem d_Server_workOutFlight_34 : decode b_Server_workOutFlight 34 = .ok (.iconst (2), 1) := by decide +kernel
theorem d_Server_workOutFlight_35 : decode b_Server_workOutFlight 35 = .ok (.iadd, 1) := by decide +kernel
theorem d_Server_workOutFlight_36 : decode b_Server_workOutFlight 36 = .ok (.invokevirtual 153, 3) := by decide +kernel
theorem d_Server_workOutFlight_39 : decode b_Server_workOutFlight 39 = .ok (.aload_n 0, 1) := by decide +kernel
theorem d_Server_workOutFlight_40 : decode b_Server_workOutFlight 40 = .ok (.aload_n 0, 1) := by decide +kernel
theorem d_Server_workOutFlight_41 : decode b_Server_workOutFlight 41 = .ok (.getfield 20, 3) := by decide +kernel
theorem d_Server_workOutFlight_44 : decode b_Server_workOutFlight 44 = .ok (.invokevirtual 156, 3) := by decide +kernel
theorem d_Server_workOutFlight_47 : decode b_Server_workOutFlight 47 = .ok (.aload_n 0, 1) := by decide +kernel
theorem d_Server_workOutFlight_48 : decode b_Server_workOutFlight 48 = .ok (.aload_n 0, 1) := by decide +kernel
theorem d_Server_workOutFlight_49 : decode b_Server_workOutFlight 49 = .ok (.getfield 23, 3) := by decide +kernel
theorem d_Server_workOutFlight_52 : decode b_Server_workOutFlight 52 = .ok (.invokevirtual 156, 3) := by decide +kernel
theorem d_Server_workOutFlight_55 : decode b_Server_workOutFlight 55 = .ok (.aload_n 0, 1) := by decide +kernel
theorem d_Server_workOutFlight_56 : decode b_Server_workOutFlight 56 = .ok (.aload_n 0, 1) := by decide +kernel
theorem d_Server_workOutFlight_57 : decode b_Server_workOutFlight 57 = .ok (.getfield 40, 3) := by decide +kernel
theorem d_Server_workOutFlight_60 : decode b_Server_workOutFlight 60 = .ok (.invokevirtual 156, 3) := by decide +kernel
theorem d_Server_workOutFlight_63 : decode b_Server_workOutFlight 63 = .ok (.aload_n 0, 1) := by decide +kernel
theorem d_Server_workOutFlight_64 : decode b_Server_workOutFlight 64 = .ok (.getfield 26, 3) := by decide +kernel
theorem d_Server_workOutFlight_67 : decode b_Server_workOutFlight 67 = .ok (.iconst (0), 1) := by decide +kernel
theorem d_Server_workOutFlight_68 : decode b_Server_workOutFlight 68 = .ok (.aload_n 0, 1) := by decide +kernel
theorem d_Server_workOutFlight_69 : decode b_Server_workOutFlight 69 = .ok (.getfield 150, 3) := by decide +kernel
theorem d_Server_workOutFlight_72 : decode b_Server_workOutFlight 72 = .ok (.iconst (2), 1) := by decide +kernel
theorem d_Server_workOutFlight_73 : decode b_Server_workOutFlight 73 = .ok (.invokestatic 90, 3) := by decide +kernel
theorem d_Server_workOutFlight_76 : decode b_Server_workOutFlight 76 = .ok (.invokevirtual 94, 3) := by decide +kernel
theorem d_Server_workOutFlight_79 : decode b_Server_workOutFlight 79 = .ok (.aload_n 0, 1) := by decide +kernel
theorem d_Server_workOutFlight_80 : decode b_Server_workOutFlight 80 = .ok (.aload_n 0, 1) := by decide +kernel
theorem d_Server_workOutFlight_81 : decode b_Server_workOutFlight 81 = .ok (.getfield 26, 3) := by decide +kernel
theorem d_Server_workOutFlight_84 : decode b_Server_workOutFlight 84 = .ok (.invokevirtual 156, 3) := by decide +kernel
theorem d_Server_workOutFlight_87 : decode b_Server_workOutFlight 87 = .ok (.aload_n 0, 1) := by decide +kernel
theorem d_Server_workOutFlight_88 : decode b_Server_workOutFlight 88 = .ok (.getfield 160, 3) := by decide +kernel
theorem d_Server_workOutFlight_91 : decode b_Server_workOutFlight 91 = .ok (.invokevirtual 164, 3) := by decide +kernel
theorem d_Server_workOutFlight_94 : decode b_Server_workOutFlight 94 = .ok (.aload_n 0, 1) := by decide +kernel
theorem d_Server_workOutFlight_95 : decode b_Server_workOutFlight 95 = .ok (.getfield 160, 3) := by decide +kernel
theorem d_Server_workOutFlight_98 : decode b_Server_workOutFlight 98 = .ok (.aload_n 0, 1) := by decide +kernel
theorem d_Server_workOutFlight_99 : decode b_Server_workOutFlight 99 = .ok (.getfield 20, 3) := by decide +kernel
theorem d_Server_workOutFlight_102 : decode b_Server_workOutFlight 102 = .ok (.aload_n 0, 1) := by decide +kernel
theorem d_Server_workOutFlight_103 : decode b_Server_workOutFlight 103 = .ok (.getfield 169, 3) := by decide +kernel
theorem d_Server_workOutFlight_106 : decode b_Server_workOutFlight 106 = .ok (.invokevirtual 172, 3) := by decide +kernel
theorem d_Server_workOutFlight_109 : decode b_Server_workOutFlight 109 = .ok (.aload_n 0, 1) := by decide +kernel
theorem d_Server_workOutFlight_110 : decode b_Server_workOutFlight 110 = .ok (.getfield 160, 3) := by decide +kernel
theorem d_Server_workOutFlight_113 : decode b_Server_workOutFlight 113 = .ok (.aload_n 0, 1) := by decide +kernel
theorem d_Server_workOutFlight_114 : decode b_Server_workOutFlight 114 = .ok (.getfield 23, 3) := by decide +kernel
theorem d_Server_workOutFlight_117 : decode b_Server_workOutFlight 117 = .ok (.aload_n 0, 1) := by decide +kernel
theorem d_Server_workOutFlight_118 : decode b_Server_workOutFlight 118 = .ok (.getfield 169, 3) := by decide +kernel
theorem d_Server_workOutFlight_121 : decode b_Server_workOutFlight 121 = .ok (.invokevirtual 172, 3) := by decide +kernel
theorem d_Server_workOutFlight_124 : decode b_Server_workOutFlight 124 = .ok (.aload_n 0, 1) := by decide +kernel
theorem d_Server_workOutFlight_125 : decode b_Server_workOutFlight 125 = .ok (.getfield 160, 3) := by decide +kernel
theorem d_Server_workOutFlight_128 : decode b_Server_workOutFlight 128 = .ok (.aload_n 0, 1) := by decide +kernel
theorem d_Server_workOutFlight_129 : decode b_Server_workOutFlight 129 = .ok (.getfield 40, 3) := by decide +kernel
theorem d_Server_workOutFlight_132 : decode b_Server_workOutFlight 132 = .ok (.aload_n 0, 1) := by decide +kernel
theorem d_Server_workOutFlight_133 : decode b_Server_workOutFlight 133 = .ok (.getfield 169, 3) := by decide +kernel
theorem d_Server_workOutFlight_136 : decode b_Server_workOutFlight 136 = .ok (.invokevirtual 172, 3) := by decide +kernel
theorem d_Server_workOutFlight_139 : decode b_Server_workOutFlight 139 = .ok (.aload_n 0, 1) := by decide +kernel
theorem d_Server_workOutFlight_140 : decode b_Server_workOutFlight 140 = .ok (.getfield 160, 3) := by decide +kernel
theorem d_Server_workOutFlight_143 : decode b_Server_workOutFlight 143 = .ok (.aload_n 0, 1) := by decide +kernel
theorem d_Server_workOutFlight_144 : decode b_Server_workOutFlight 144 = .ok (.getfield 26, 3) := by decide +kernel
theorem d_Server_workOutFlight_147 : decode b_Server_workOutFlight 147 = .ok (.aload_n 0, 1) := by decide +kernel
theorem d_Server_workOutFlight_148 : decode b_Server_workOutFlight 148 = .ok (.getfield 169, 3) := by decide +kernel
theorem d_Server_workOutFlight_151 : decode b_Server_workOutFlight 151 = .ok (.invokevirtual 172, 3) := by decide +kernel
theorem d_Server_workOutFlight_154 : decode b_Server_workOutFlight 154 = .ok (.return_, 1) := by decide +kernel
theorem d_Server_takeHelloAgain_0 : decode b_Server_takeHelloAgain 0 = .ok (.aload_n 0, 1) := by decide +kernel
theorem d_Server_takeHelloAgain_1 : decode b_Server_takeHelloAgain 1 = .ok (.getfield 57, 3) := by decide +kernel
theorem d_Server_takeHelloAgain_4 : decode b_Server_takeHelloAgain 4 = .ok (.ifCond .eq (4), 3) := by decide +kernel
theorem d_Server_takeHelloAgain_7 : decode b_Server_takeHelloAgain 7 = .ok (.return_, 1) := by decide +kernel
theorem d_Server_takeHelloAgain_8 : decode b_Server_takeHelloAgain 8 = .ok (.aload_n 0, 1) := by decide +kernel
theorem d_Server_takeHelloAgain_9 : decode b_Server_takeHelloAgain 9 = .ok (.aload_n 1, 1) := by decide +kernel
theorem d_Server_takeHelloAgain_10 : decode b_Server_takeHelloAgain 10 = .ok (.invokevirtual 124, 3) := by decide +kernel
theorem d_Server_takeHelloAgain_13 : decode b_Server_takeHelloAgain 13 = .ok (.aload_n 0, 1) := by decide +kernel
theorem d_Server_takeHelloAgain_14 : decode b_Server_takeHelloAgain 14 = .ok (.getfield 127, 3) := by decide +kernel
theorem d_Server_takeHelloAgain_17 : decode b_Server_takeHelloAgain 17 = .ok (.iconst (0), 1) := by decide +kernel
theorem d_Server_takeHelloAgain_18 : decode b_Server_takeHelloAgain 18 = .ok (.aload_n 1, 1) := by decide +kernel
theorem d_Server_takeHelloAgain_19 : decode b_Server_takeHelloAgain 19 = .ok (.getfield 105, 3) := by decide +kernel
theorem d_Server_takeHelloAgain_22 : decode b_Server_takeHelloAgain 22 = .ok (.iastore, 1) := by decide +kernel
theorem d_Server_takeHelloAgain_23 : decode b_Server_takeHelloAgain 23 = .ok (.aload_n 0, 1) := by decide +kernel
theorem d_Server_takeHelloAgain_24 : decode b_Server_takeHelloAgain 24 = .ok (.iconst (2), 1) := by decide +kernel
theorem d_Server_takeHelloAgain_25 : decode b_Server_takeHelloAgain 25 = .ok (.putfield 130, 3) := by decide +kernel
theorem d_Server_takeHelloAgain_28 : decode b_Server_takeHelloAgain 28 = .ok (.aload_n 0, 1) := by decide +kernel
theorem d_Server_takeHelloAgain_29 : decode b_Server_takeHelloAgain 29 = .ok (.iconst (2), 1) := by decide +kernel
theorem d_Server_takeHelloAgain_30 : decode b_Server_takeHelloAgain 30 = .ok (.putfield 133, 3) := by decide +kernel
theorem d_Server_takeHelloAgain_33 : decode b_Server_takeHelloAgain 33 = .ok (.aload_n 0, 1) := by decide +kernel
theorem d_Server_takeHelloAgain_34 : decode b_Server_takeHelloAgain 34 = .ok (.aload_n 1, 1) := by decide +kernel
theorem d_Server_takeHelloAgain_35 : decode b_Server_takeHelloAgain 35 = .ok (.invokevirtual 86, 3) := by decide +kernel
theorem d_Server_takeHelloAgain_38 : decode b_Server_takeHelloAgain 38 = .ok (.invokevirtual 136, 3) := by decide +kernel
theorem d_Server_takeHelloAgain_41 : decode b_Server_takeHelloAgain 41 = .ok (.aload_n 0, 1) := by decide +kernel
theorem d_Server_takeHelloAgain_42 : decode b_Server_takeHelloAgain 42 = .ok (.invokevirtual 139, 3) := by decide +kernel
theorem d_Server_takeHelloAgain_45 : decode b_Server_takeHelloAgain 45 = .ok (.aload_n 0, 1) := by decide +kernel
theorem d_Server_takeHelloAgain_46 : decode b_Server_takeHelloAgain 46 = .ok (.iconst (1), 1) := by decide +kernel
theorem d_Server_takeHelloAgain_47 : decode b_Server_takeHelloAgain 47 = .ok (.invokevirtual 143, 3) := by decide +kernel
theorem d_Server_takeHelloAgain_50 : decode b_Server_takeHelloAgain 50 = .ok (.return_, 1) := by decide +kernel
theorem d_Side_sendAck_0 : decode b_Side_sendAck 0 = .ok (.aload_n 0, 1) := by decide +kernel
theorem d_Side_sendAck_1 : decode b_Side_sendAck 1 = .ok (.getfield 44, 3) := by decide +kernel
theorem d_Side_sendAck_4 : decode b_Side_sendAck 4 = .ok (.aload_n 0, 1) := by decide +kernel
theorem d_Side_sendAck_5 : decode b_Side_sendAck 5 = .ok (.getfield 38, 3) := by decide +kernel
theorem d_Side_sendAck_8 : decode b_Side_sendAck 8 = .ok (.iconst (1), 1) := by decide +kernel
theorem d_Side_sendAck_9 : decode b_Side_sendAck 9 = .ok (.aload_n 0, 1) := by decide +kernel
theorem d_Side_sendAck_10 : decode b_Side_sendAck 10 = .ok (.getfield 31, 3) := by decide +kernel
theorem d_Side_sendAck_13 : decode b_Side_sendAck 13 = .ok (.aload_n 0, 1) := by decide +kernel
theorem d_Side_sendAck_14 : decode b_Side_sendAck 14 = .ok (.aload_n 0, 1) := by decide +kernel
theorem d_Side_sendAck_15 : decode b_Side_sendAck 15 = .ok (.getfield 31, 3) := by decide +kernel
theorem d_Side_sendAck_18 : decode b_Side_sendAck 18 = .ok (.invokevirtual 95, 3) := by decide +kernel
theorem d_Side_sendAck_21 : decode b_Side_sendAck 21 = .ok (.invokevirtual 99, 3) := by decide +kernel
theorem d_Side_sendAck_24 : decode b_Side_sendAck 24 = .ok (.aload_n 0, 1) := by decide +kernel
theorem d_Side_sendAck_25 : decode b_Side_sendAck 25 = .ok (.getfield 12, 3) := by decide +kernel
theorem d_Side_sendAck_28 : decode b_Side_sendAck 28 = .ok (.getfield 111, 3) := by decide +kernel
theorem d_Side_sendAck_31 : decode b_Side_sendAck 31 = .ok (.aload_n 0, 1) := by decide +kernel
theorem d_Side_sendAck_32 : decode b_Side_sendAck 32 = .ok (.getfield 12, 3) := by decide +kernel
theorem d_Side_sendAck_35 : decode b_Side_sendAck 35 = .ok (.getfield 114, 3) := by decide +kernel
theorem d_Side_sendAck_38 : decode b_Side_sendAck 38 = .ok (.invokevirtual 117, 3) := by decide +kernel
theorem d_Side_sendAck_41 : decode b_Side_sendAck 41 = .ok (.return_, 1) := by decide +kernel
theorem d_Server_takeClientDone_0 : decode b_Server_takeClientDone 0 = .ok (.aload_n 0, 1) := by decide +kernel
theorem d_Server_takeClientDone_1 : decode b_Server_takeClientDone 1 = .ok (.getfield 57, 3) := by decide +kernel
theorem d_Server_takeClientDone_4 : decode b_Server_takeClientDone 4 = .ok (.iconst (1), 1) := by decide +kernel
theorem d_Server_takeClientDone_5 : decode b_Server_takeClientDone 5 = .ok (.if_icmp .ne (38), 3) := by decide +kernel
theorem d_Server_takeClientDone_8 : decode b_Server_takeClientDone 8 = .ok (.aload_n 0, 1) := by decide +kernel
theorem d_Server_takeClientDone_9 : decode b_Server_takeClientDone 9 = .ok (.aload_n 1, 1) := by decide +kernel
theorem d_Server_takeClientDone_10 : decode b_Server_takeClientDone 10 = .ok (.getfield 69, 3) := by decide +kernel
theorem d_Server_takeClientDone_13 : decode b_Server_takeClientDone 13 = .ok (.iconst (0), 1) := by decide +kernel
theorem d_Server_takeClientDone_14 : decode b_Server_takeClientDone 14 = .ok (.aload_n 1, 1) := by decide +kernel
theorem d_Server_takeClientDone_15 : decode b_Server_takeClientDone 15 = .ok (.getfield 176, 3) := by decide +kernel
theorem d_Server_takeClientDone_18 : decode b_Server_takeClientDone 18 = .ok (.invokevirtual 146, 3) := by decide +kernel
theorem d_Server_takeClientDone_21 : decode b_Server_takeClientDone 21 = .ok (.aload_n 0, 1) := by decide +kernel
theorem d_Server_takeClientDone_22 : decode b_Server_takeClientDone 22 = .ok (.getfield 160, 3) := by decide +kernel
theorem d_Server_takeClientDone_25 : decode b_Server_takeClientDone 25 = .ok (.invokevirtual 179, 3) := by decide +kernel
theorem d_Server_takeClientDone_28 : decode b_Server_takeClientDone 28 = .ok (.aload_n 0, 1) := by decide +kernel
theorem d_Server_takeClientDone_29 : decode b_Server_takeClientDone 29 = .ok (.iconst (3), 1) := by decide +kernel
theorem d_Server_takeClientDone_30 : decode b_Server_takeClientDone 30 = .ok (.putfield 130, 3) := by decide +kernel
theorem d_Server_takeClientDone_33 : decode b_Server_takeClientDone 33 = .ok (.aload_n 0, 1) := by decide +kernel
theorem d_Server_takeClientDone_34 : decode b_Server_takeClientDone 34 = .ok (.iconst (3), 1) := by decide +kernel
theorem d_Server_takeClientDone_35 : decode b_Server_takeClientDone 35 = .ok (.putfield 133, 3) := by decide +kernel
theorem d_Server_takeClientDone_38 : decode b_Server_takeClientDone 38 = .ok (.aload_n 0, 1) := by decide +kernel
theorem d_Server_takeClientDone_39 : decode b_Server_takeClientDone 39 = .ok (.iconst (2), 1) := by decide +kernel
theorem d_Server_takeClientDone_40 : decode b_Server_takeClientDone 40 = .ok (.invokevirtual 143, 3) := by decide +kernel
theorem d_Server_takeClientDone_43 : decode b_Server_takeClientDone 43 = .ok (.aload_n 0, 1) := by decide +kernel
theorem d_Server_takeClientDone_44 : decode b_Server_takeClientDone 44 = .ok (.getfield 182, 3) := by decide +kernel
theorem d_Server_takeClientDone_47 : decode b_Server_takeClientDone 47 = .ok (.aload_n 1, 1) := by decide +kernel
theorem d_Server_takeClientDone_48 : decode b_Server_takeClientDone 48 = .ok (.invokevirtual 186, 3) := by decide +kernel
theorem d_Server_takeClientDone_51 : decode b_Server_takeClientDone 51 = .ok (.invokevirtual 189, 3) := by decide +kernel
theorem d_Server_takeClientDone_54 : decode b_Server_takeClientDone 54 = .ok (.aload_n 0, 1) := by decide +kernel
theorem d_Server_takeClientDone_55 : decode b_Server_takeClientDone 55 = .ok (.invokevirtual 193, 3) := by decide +kernel
theorem d_Server_takeClientDone_58 : decode b_Server_takeClientDone 58 = .ok (.return_, 1) := by decide +kernel
theorem d_Server_accept_0 : decode b_Server_accept 0 = .ok (.aload_n 0, 1) := by decide +kernel
theorem d_Server_accept_1 : decode b_Server_accept 1 = .ok (.aload_n 1, 1) := by decide +kernel
theorem d_Server_accept_2 : decode b_Server_accept 2 = .ok (.invokevirtual 43, 3) := by decide +kernel
theorem d_Server_accept_5 : decode b_Server_accept 5 = .ok (.ifCond .eq (5), 3) := by decide +kernel
theorem d_Server_accept_8 : decode b_Server_accept 8 = .ok (.iconst (0), 1) := by decide +kernel
theorem d_Server_accept_9 : decode b_Server_accept 9 = .ok (.ireturn, 1) := by decide +kernel
theorem d_Server_accept_10 : decode b_Server_accept 10 = .ok (.aload_n 1, 1) := by decide +kernel
theorem d_Server_accept_11 : decode b_Server_accept 11 = .ok (.iconst (0), 1) := by decide +kernel
theorem d_Server_accept_12 : decode b_Server_accept 12 = .ok (.invokevirtual 47, 3) := by decide +kernel
theorem d_Server_accept_15 : decode b_Server_accept 15 = .ok (.ifCond .eq (8), 3) := by decide +kernel
theorem d_Server_accept_18 : decode b_Server_accept 18 = .ok (.aload_n 0, 1) := by decide +kernel
theorem d_Server_accept_19 : decode b_Server_accept 19 = .ok (.aload_n 1, 1) := by decide +kernel
theorem d_Server_accept_20 : decode b_Server_accept 20 = .ok (.invokevirtual 53, 3) := by decide +kernel
theorem d_Server_accept_23 : decode b_Server_accept 23 = .ok (.aload_n 0, 1) := by decide +kernel
theorem d_Server_accept_24 : decode b_Server_accept 24 = .ok (.getfield 57, 3) := by decide +kernel
theorem d_Server_accept_27 : decode b_Server_accept 27 = .ok (.ifCond .ne (13), 3) := by decide +kernel
theorem d_Server_accept_30 : decode b_Server_accept 30 = .ok (.aload_n 1, 1) := by decide +kernel
theorem d_Server_accept_31 : decode b_Server_accept 31 = .ok (.iconst (1), 1) := by decide +kernel
theorem d_Server_accept_32 : decode b_Server_accept 32 = .ok (.invokevirtual 47, 3) := by decide +kernel
theorem d_Server_accept_35 : decode b_Server_accept 35 = .ok (.ifCond .ne (5), 3) := by decide +kernel
theorem d_Server_accept_38 : decode b_Server_accept 38 = .ok (.iconst (0), 1) := by decide +kernel
theorem d_Server_accept_39 : decode b_Server_accept 39 = .ok (.ireturn, 1) := by decide +kernel
theorem d_Server_accept_40 : decode b_Server_accept 40 = .ok (.aload_n 0, 1) := by decide +kernel
theorem d_Server_accept_41 : decode b_Server_accept 41 = .ok (.aload_n 1, 1) := by decide +kernel
theorem d_Server_accept_42 : decode b_Server_accept 42 = .ok (.invokevirtual 60, 3) := by decide +kernel
theorem d_Server_accept_45 : decode b_Server_accept 45 = .ok (.aload_n 1, 1) := by decide +kernel
theorem d_Server_accept_46 : decode b_Server_accept 46 = .ok (.getfield 63, 3) := by decide +kernel
theorem d_Server_accept_49 : decode b_Server_accept 49 = .ok (.iconst (1), 1) := by decide +kernel
theorem d_Server_accept_50 : decode b_Server_accept 50 = .ok (.if_icmp .ne (11), 3) := by decide +kernel
theorem d_Server_accept_53 : decode b_Server_accept 53 = .ok (.aload_n 0, 1) := by decide +kernel
theorem d_Server_accept_54 : decode b_Server_accept 54 = .ok (.aload_n 1, 1) := by decide +kernel
theorem d_Server_accept_55 : decode b_Server_accept 55 = .ok (.invokevirtual 66, 3) := by decide +kernel
theorem d_Server_accept_58 : decode b_Server_accept 58 = .ok (.goto (53), 3) := by decide +kernel
theorem d_Server_accept_61 : decode b_Server_accept 61 = .ok (.aload_n 1, 1) := by decide +kernel
theorem d_Server_accept_62 : decode b_Server_accept 62 = .ok (.getfield 63, 3) := by decide +kernel
theorem d_Server_accept_65 : decode b_Server_accept 65 = .ok (.iconst (2), 1) := by decide +kernel
theorem d_Server_accept_66 : decode b_Server_accept 66 = .ok (.if_icmp .ne (16), 3) := by decide +kernel
theorem d_Server_accept_69 : decode b_Server_accept 69 = .ok (.aload_n 0, 1) := by decide +kernel
theorem d_Server_accept_70 : decode b_Server_accept 70 = .ok (.aload_n 1, 1) := by decide +kernel
theorem d_Server_accept_71 : decode b_Server_accept 71 = .ok (.getfield 69, 3) := by decide +kernel
theorem d_Server_accept_74 : decode b_Server_accept 74 = .ok (.iconst (0), 1) := by decide +kernel
theorem d_Server_accept_75 : decode b_Server_accept 75 = .ok (.iaload, 1) := by decide +kernel
theorem d_Server_accept_76 : decode b_Server_accept 76 = .ok (.invokevirtual 73, 3) := by decide +kernel
theorem d_Server_accept_79 : decode b_Server_accept 79 = .ok (.goto (32), 3) := by decide +kernel
theorem d_Server_accept_82 : decode b_Server_accept 82 = .ok (.aload_n 1, 1) := by decide +kernel
theorem d_Server_accept_83 : decode b_Server_accept 83 = .ok (.getfield 77, 3) := by decide +kernel
theorem d_Server_accept_86 : decode b_Server_accept 86 = .ok (.iconst (1), 1) := by decide +kernel
theorem d_Server_accept_87 : decode b_Server_accept 87 = .ok (.if_icmp .ne (11), 3) := by decide +kernel
theorem d_Server_accept_90 : decode b_Server_accept 90 = .ok (.aload_n 0, 1) := by decide +kernel
theorem d_Server_accept_91 : decode b_Server_accept 91 = .ok (.aload_n 1, 1) := by decide +kernel
theorem d_Server_accept_92 : decode b_Server_accept 92 = .ok (.invokevirtual 80, 3) := by decide +kernel
theorem d_Server_accept_95 : decode b_Server_accept 95 = .ok (.goto (16), 3) := by decide +kernel
theorem d_Server_accept_98 : decode b_Server_accept 98 = .ok (.aload_n 1, 1) := by decide +kernel
theorem d_Server_accept_99 : decode b_Server_accept 99 = .ok (.getfield 77, 3) := by decide +kernel
theorem d_Server_accept_102 : decode b_Server_accept 102 = .ok (.iconst (2), 1) := by decide +kernel
theorem d_Server_accept_103 : decode b_Server_accept 103 = .ok (.if_icmp .ne (8), 3) := by decide +kernel
theorem d_Server_accept_106 : decode b_Server_accept 106 = .ok (.aload_n 0, 1) := by decide +kernel
theorem d_Server_accept_107 : decode b_Server_accept 107 = .ok (.aload_n 1, 1) := by decide +kernel
theorem d_Server_accept_108 : decode b_Server_accept 108 = .ok (.invokevirtual 83, 3) := by decide +kernel
theorem d_Server_accept_111 : decode b_Server_accept 111 = .ok (.iconst (1), 1) := by decide +kernel
theorem d_Server_accept_112 : decode b_Server_accept 112 = .ok (.ireturn, 1) := by decide +kernel
theorem d_Side_sendData_0 : decode b_Side_sendData 0 = .ok (.aload_n 0, 1) := by decide +kernel
theorem d_Side_sendData_1 : decode b_Side_sendData 1 = .ok (.getfield 31, 3) := by decide +kernel
theorem d_Side_sendData_4 : decode b_Side_sendData 4 = .ok (.iconst (3), 1) := by decide +kernel
theorem d_Side_sendData_5 : decode b_Side_sendData 5 = .ok (.if_icmp .lt (11), 3) := by decide +kernel
theorem d_Side_sendData_8 : decode b_Side_sendData 8 = .ok (.aload_n 0, 1) := by decide +kernel
theorem d_Side_sendData_9 : decode b_Side_sendData 9 = .ok (.getfield 58, 3) := by decide +kernel
theorem d_Side_sendData_12 : decode b_Side_sendData 12 = .ok (.iconst (5), 1) := by decide +kernel
theorem d_Side_sendData_13 : decode b_Side_sendData 13 = .ok (.if_icmp .ne (5), 3) := by decide +kernel
theorem d_Side_sendData_16 : decode b_Side_sendData 16 = .ok (.iconst (0), 1) := by decide +kernel
theorem d_Side_sendData_17 : decode b_Side_sendData 17 = .ok (.ireturn, 1) := by decide +kernel
theorem d_Side_sendData_18 : decode b_Side_sendData 18 = .ok (.aload_n 0, 1) := by decide +kernel
theorem d_Side_sendData_19 : decode b_Side_sendData 19 = .ok (.getfield 44, 3) := by decide +kernel
theorem d_Side_sendData_22 : decode b_Side_sendData 22 = .ok (.aload_n 0, 1) := by decide +kernel
theorem d_Side_sendData_23 : decode b_Side_sendData 23 = .ok (.getfield 38, 3) := by decide +kernel
theorem d_Side_sendData_26 : decode b_Side_sendData 26 = .ok (.iconst (2), 1) := by decide +kernel
theorem d_Side_sendData_27 : decode b_Side_sendData 27 = .ok (.iconst (3), 1) := by decide +kernel
theorem d_Side_sendData_28 : decode b_Side_sendData 28 = .ok (.aload_n 0, 1) := by decide +kernel
theorem d_Side_sendData_29 : decode b_Side_sendData 29 = .ok (.iconst (3), 1) := by decide +kernel
theorem d_Side_sendData_30 : decode b_Side_sendData 30 = .ok (.invokevirtual 95, 3) := by decide +kernel
theorem d_Side_sendData_33 : decode b_Side_sendData 33 = .ok (.invokevirtual 99, 3) := by decide +kernel
theorem d_Side_sendData_36 : decode b_Side_sendData 36 = .ok (.iload_n 1, 1) := by decide +kernel
theorem d_Side_sendData_37 : decode b_Side_sendData 37 = .ok (.invokevirtual 105, 3) := by decide +kernel
theorem d_Side_sendData_40 : decode b_Side_sendData 40 = .ok (.iconst (1), 1) := by decide +kernel
theorem d_Side_sendData_41 : decode b_Side_sendData 41 = .ok (.ireturn, 1) := by decide +kernel
theorem d_Side_valueAt_0 : decode b_Side_valueAt 0 = .ok (.iload_n 1, 1) := by decide +kernel
theorem d_Side_valueAt_1 : decode b_Side_valueAt 1 = .ok (.ifCond .lt (20), 3) := by decide +kernel
theorem d_Side_valueAt_4 : decode b_Side_valueAt 4 = .ok (.iload_n 1, 1) := by decide +kernel
theorem d_Side_valueAt_5 : decode b_Side_valueAt 5 = .ok (.aload_n 0, 1) := by decide +kernel
theorem d_Side_valueAt_6 : decode b_Side_valueAt 6 = .ok (.getfield 108, 3) := by decide +kernel
theorem d_Side_valueAt_9 : decode b_Side_valueAt 9 = .ok (.if_icmp .ge (12), 3) := by decide +kernel
theorem d_Side_valueAt_12 : decode b_Side_valueAt 12 = .ok (.aload_n 0, 1) := by decide +kernel
theorem d_Side_valueAt_13 : decode b_Side_valueAt 13 = .ok (.getfield 28, 3) := by decide +kernel
theorem d_Side_valueAt_16 : decode b_Side_valueAt 16 = .ok (.iload_n 1, 1) := by decide +kernel
theorem d_Side_valueAt_17 : decode b_Side_valueAt 17 = .ok (.iaload, 1) := by decide +kernel
theorem d_Side_valueAt_18 : decode b_Side_valueAt 18 = .ok (.goto (4), 3) := by decide +kernel
theorem d_Side_valueAt_21 : decode b_Side_valueAt 21 = .ok (.iconst (0), 1) := by decide +kernel
theorem d_Side_valueAt_22 : decode b_Side_valueAt 22 = .ok (.ireturn, 1) := by decide +kernel
theorem d_Side_sendAgainOrFail_0 : decode b_Side_sendAgainOrFail 0 = .ok (.aload_n 0, 1) := by decide +kernel
theorem d_Side_sendAgainOrFail_1 : decode b_Side_sendAgainOrFail 1 = .ok (.getfield 53, 3) := by decide +kernel
theorem d_Side_sendAgainOrFail_4 : decode b_Side_sendAgainOrFail 4 = .ok (.getfield 166, 3) := by decide +kernel
theorem d_Side_sendAgainOrFail_7 : decode b_Side_sendAgainOrFail 7 = .ok (.bipush (6), 2) := by decide +kernel
theorem d_Side_sendAgainOrFail_9 : decode b_Side_sendAgainOrFail 9 = .ok (.if_icmp .lt (18), 3) := by decide +kernel
theorem d_Side_sendAgainOrFail_12 : decode b_Side_sendAgainOrFail 12 = .ok (.aload_n 0, 1) := by decide +kernel
theorem d_Side_sendAgainOrFail_13 : decode b_Side_sendAgainOrFail 13 = .ok (.getfield 53, 3) := by decide +kernel
theorem d_Side_sendAgainOrFail_16 : decode b_Side_sendAgainOrFail 16 = .ok (.invokevirtual 169, 3) := by decide +kernel
theorem d_Side_sendAgainOrFail_19 : decode b_Side_sendAgainOrFail 19 = .ok (.aload_n 0, 1) := by decide +kernel
theorem d_Side_sendAgainOrFail_20 : decode b_Side_sendAgainOrFail 20 = .ok (.iconst (5), 1) := by decide +kernel
theorem d_Side_sendAgainOrFail_21 : decode b_Side_sendAgainOrFail 21 = .ok (.invokevirtual 172, 3) := by decide +kernel
theorem d_Side_sendAgainOrFail_24 : decode b_Side_sendAgainOrFail 24 = .ok (.goto (14), 3) := by decide +kernel
theorem d_Side_sendAgainOrFail_27 : decode b_Side_sendAgainOrFail 27 = .ok (.aload_n 0, 1) := by decide +kernel
theorem d_Side_sendAgainOrFail_28 : decode b_Side_sendAgainOrFail 28 = .ok (.invokevirtual 175, 3) := by decide +kernel
theorem d_Side_sendAgainOrFail_31 : decode b_Side_sendAgainOrFail 31 = .ok (.aload_n 0, 1) := by decide +kernel
theorem d_Side_sendAgainOrFail_32 : decode b_Side_sendAgainOrFail 32 = .ok (.getfield 53, 3) := by decide +kernel
theorem d_Side_sendAgainOrFail_35 : decode b_Side_sendAgainOrFail 35 = .ok (.invokevirtual 178, 3) := by decide +kernel
theorem d_Side_sendAgainOrFail_38 : decode b_Side_sendAgainOrFail 38 = .ok (.return_, 1) := by decide +kernel
theorem d_Side_passTick_0 : decode b_Side_passTick 0 = .ok (.aload_n 0, 1) := by decide +kernel
theorem d_Side_passTick_1 : decode b_Side_passTick 1 = .ok (.getfield 61, 3) := by decide +kernel
theorem d_Side_passTick_4 : decode b_Side_passTick 4 = .ok (.ifCond .le (24), 3) := by decide +kernel
theorem d_Side_passTick_7 : decode b_Side_passTick 7 = .ok (.aload_n 0, 1) := by decide +kernel
theorem d_Side_passTick_8 : decode b_Side_passTick 8 = .ok (.dup, 1) := by decide +kernel
theorem d_Side_passTick_9 : decode b_Side_passTick 9 = .ok (.getfield 61, 3) := by decide +kernel
theorem d_Side_passTick_12 : decode b_Side_passTick 12 = .ok (.iconst (1), 1) := by decide +kernel
theorem d_Side_passTick_13 : decode b_Side_passTick 13 = .ok (.isub, 1) := by decide +kernel
theorem d_Side_passTick_14 : decode b_Side_passTick 14 = .ok (.putfield 61, 3) := by decide +kernel
theorem d_Side_passTick_17 : decode b_Side_passTick 17 = .ok (.aload_n 0, 1) := by decide +kernel
theorem d_Side_passTick_18 : decode b_Side_passTick 18 = .ok (.getfield 61, 3) := by decide +kernel
theorem d_Side_passTick_21 : decode b_Side_passTick 21 = .ok (.ifCond .ne (7), 3) := by decide +kernel
theorem d_Side_passTick_24 : decode b_Side_passTick 24 = .ok (.aload_n 0, 1) := by decide +kernel
theorem d_Side_passTick_25 : decode b_Side_passTick 25 = .ok (.invokevirtual 156, 3) := by decide +kernel
theorem d_Side_passTick_28 : decode b_Side_passTick 28 = .ok (.aload_n 0, 1) := by decide +kernel
theorem d_Side_passTick_29 : decode b_Side_passTick 29 = .ok (.getfield 53, 3) := by decide +kernel
theorem d_Side_passTick_32 : decode b_Side_passTick 32 = .ok (.invokevirtual 159, 3) := by decide +kernel
theorem d_Side_passTick_35 : decode b_Side_passTick 35 = .ok (.ifCond .eq (7), 3) := by decide +kernel
theorem d_Side_passTick_38 : decode b_Side_passTick 38 = .ok (.aload_n 0, 1) := by decide +kernel
theorem d_Side_passTick_39 : decode b_Side_passTick 39 = .ok (.invokevirtual 163, 3) := by decide +kernel
theorem d_Side_passTick_42 : decode b_Side_passTick 42 = .ok (.return_, 1) := by decide +kernel
theorem d_X_init_0 : decode b_X_init 0 = .ok (.aload_n 0, 1) := by decide +kernel
theorem d_X_init_1 : decode b_X_init 1 = .ok (.invokespecial 1, 3) := by decide +kernel
theorem d_X_init_4 : decode b_X_init 4 = .ok (.bipush (8), 2) := by decide +kernel
theorem d_X_init_6 : decode b_X_init 6 = .ok (.bipush (24), 2) := by decide +kernel
theorem d_X_init_8 : decode b_X_init 8 = .ok (.iload_n 2, 1) := by decide +kernel
theorem d_X_init_9 : decode b_X_init 9 = .ok (.invokestatic 9, 3) := by decide +kernel
theorem d_X_init_12 : decode b_X_init 12 = .ok (.invokestatic 15, 3) := by decide +kernel
theorem d_X_init_15 : decode b_X_init 15 = .ok (.istore_n 3, 1) := by decide +kernel
theorem d_X_init_16 : decode b_X_init 16 = .ok (.aload_n 0, 1) := by decide +kernel
theorem d_X_init_17 : decode b_X_init 17 = .ok (.new 18, 3) := by decide +kernel
theorem d_X_init_20 : decode b_X_init 20 = .ok (.dup, 1) := by decide +kernel
theorem d_X_init_21 : decode b_X_init 21 = .ok (.invokespecial 20, 3) := by decide +kernel
theorem d_X_init_24 : decode b_X_init 24 = .ok (.putfield 21, 3) := by decide +kernel
theorem d_X_init_27 : decode b_X_init 27 = .ok (.aload_n 0, 1) := by decide +kernel
theorem d_X_init_28 : decode b_X_init 28 = .ok (.new 25, 3) := by decide +kernel
theorem d_X_init_31 : decode b_X_init 31 = .ok (.dup, 1) := by decide +kernel
theorem d_X_init_32 : decode b_X_init 32 = .ok (.iload_n 1, 1) := by decide +kernel
theorem d_X_init_33 : decode b_X_init 33 = .ok (.iload_n 3, 1) := by decide +kernel
theorem d_X_init_34 : decode b_X_init 34 = .ok (.aload_n 0, 1) := by decide +kernel
theorem d_X_init_35 : decode b_X_init 35 = .ok (.getfield 21, 3) := by decide +kernel
theorem d_X_init_38 : decode b_X_init 38 = .ok (.invokespecial 27, 3) := by decide +kernel
theorem d_X_init_41 : decode b_X_init 41 = .ok (.putfield 30, 3) := by decide +kernel
theorem d_X_init_44 : decode b_X_init 44 = .ok (.aload_n 0, 1) := by decide +kernel
theorem d_X_init_45 : decode b_X_init 45 = .ok (.new 34, 3) := by decide +kernel
theorem d_X_init_48 : decode b_X_init 48 = .ok (.dup, 1) := by decide +kernel
theorem d_X_init_49 : decode b_X_init 49 = .ok (.iload_n 1, 1) := by decide +kernel
theorem d_X_init_50 : decode b_X_init 50 = .ok (.iload_n 3, 1) := by decide +kernel
theorem d_X_init_51 : decode b_X_init 51 = .ok (.aload_n 0, 1) := by decide +kernel
theorem d_X_init_52 : decode b_X_init 52 = .ok (.getfield 21, 3) := by decide +kernel
theorem d_X_init_55 : decode b_X_init 55 = .ok (.invokespecial 36, 3) := by decide +kernel
theorem d_X_init_58 : decode b_X_init 58 = .ok (.putfield 37, 3) := by decide +kernel
theorem d_X_init_61 : decode b_X_init 61 = .ok (.return_, 1) := by decide +kernel
theorem d_X_start_0 : decode b_X_start 0 = .ok (.aload_n 0, 1) := by decide +kernel
theorem d_X_start_1 : decode b_X_start 1 = .ok (.getfield 30, 3) := by decide +kernel
theorem d_X_start_4 : decode b_X_start 4 = .ok (.getfield 41, 3) := by decide +kernel
theorem d_X_start_7 : decode b_X_start 7 = .ok (.ifCond .eq (5), 3) := by decide +kernel
theorem d_X_start_10 : decode b_X_start 10 = .ok (.iconst (0), 1) := by decide +kernel
theorem d_X_start_11 : decode b_X_start 11 = .ok (.ireturn, 1) := by decide +kernel
theorem d_X_start_12 : decode b_X_start 12 = .ok (.aload_n 0, 1) := by decide +kernel
theorem d_X_start_13 : decode b_X_start 13 = .ok (.getfield 30, 3) := by decide +kernel
theorem d_X_start_16 : decode b_X_start 16 = .ok (.invokevirtual 45, 3) := by decide +kernel
theorem d_X_start_19 : decode b_X_start 19 = .ok (.iconst (1), 1) := by decide +kernel
theorem d_X_start_20 : decode b_X_start 20 = .ok (.ireturn, 1) := by decide +kernel
theorem d_X_tick_0 : decode b_X_tick 0 = .ok (.aload_n 0, 1) := by decide +kernel
theorem d_X_tick_1 : decode b_X_tick 1 = .ok (.getfield 21, 3) := by decide +kernel
theorem d_X_tick_4 : decode b_X_tick 4 = .ok (.getfield 48, 3) := by decide +kernel
theorem d_X_tick_7 : decode b_X_tick 7 = .ok (.istore_n 1, 1) := by decide +kernel
theorem d_X_tick_8 : decode b_X_tick 8 = .ok (.aload_n 0, 1) := by decide +kernel
theorem d_X_tick_9 : decode b_X_tick 9 = .ok (.getfield 30, 3) := by decide +kernel
theorem d_X_tick_12 : decode b_X_tick 12 = .ok (.invokevirtual 51, 3) := by decide +kernel
theorem d_X_tick_15 : decode b_X_tick 15 = .ok (.aload_n 0, 1) := by decide +kernel
theorem d_X_tick_16 : decode b_X_tick 16 = .ok (.getfield 37, 3) := by decide +kernel
theorem d_X_tick_19 : decode b_X_tick 19 = .ok (.invokevirtual 54, 3) := by decide +kernel
theorem d_X_tick_22 : decode b_X_tick 22 = .ok (.aload_n 0, 1) := by decide +kernel
theorem d_X_tick_23 : decode b_X_tick 23 = .ok (.getfield 21, 3) := by decide +kernel
theorem d_X_tick_26 : decode b_X_tick 26 = .ok (.getfield 48, 3) := by decide +kernel
theorem d_X_tick_29 : decode b_X_tick 29 = .ok (.iload_n 1, 1) := by decide +kernel
theorem d_X_tick_30 : decode b_X_tick 30 = .ok (.isub, 1) := by decide +kernel
theorem d_X_tick_31 : decode b_X_tick 31 = .ok (.ireturn, 1) := by decide +kernel
theorem d_X_isSide_0 : decode b_X_isSide 0 = .ok (.iload_n 0, 1) := by decide +kernel
theorem d_X_isSide_1 : decode b_X_isSide 1 = .ok (.ifCond .eq (8), 3) := by decide +kernel
theorem d_X_isSide_4 : decode b_X_isSide 4 = .ok (.iload_n 0, 1) := by decide +kernel
theorem d_X_isSide_5 : decode b_X_isSide 5 = .ok (.iconst (1), 1) := by decide +kernel
theorem d_X_isSide_6 : decode b_X_isSide 6 = .ok (.if_icmp .ne (7), 3) := by decide +kernel
theorem d_X_isSide_9 : decode b_X_isSide 9 = .ok (.iconst (1), 1) := by decide +kernel
theorem d_X_isSide_10 : decode b_X_isSide 10 = .ok (.goto (4), 3) := by decide +kernel
theorem d_X_isSide_13 : decode b_X_isSide 13 = .ok (.iconst (0), 1) := by decide +kernel
theorem d_X_isSide_14 : decode b_X_isSide 14 = .ok (.ireturn, 1) := by decide +kernel
theorem d_X_sideOf_0 : decode b_X_sideOf 0 = .ok (.iload_n 1, 1) := by decide +kernel
theorem d_X_sideOf_1 : decode b_X_sideOf 1 = .ok (.ifCond .ne (10), 3) := by decide +kernel
theorem d_X_sideOf_4 : decode b_X_sideOf 4 = .ok (.aload_n 0, 1) := by decide +kernel
theorem d_X_sideOf_5 : decode b_X_sideOf 5 = .ok (.getfield 30, 3) := by decide +kernel
theorem d_X_sideOf_8 : decode b_X_sideOf 8 = .ok (.goto (7), 3) := by decide +kernel
theorem d_X_sideOf_11 : decode b_X_sideOf 11 = .ok (.aload_n 0, 1) := by decide +kernel
theorem d_X_sideOf_12 : decode b_X_sideOf 12 = .ok (.getfield 37, 3) := by decide +kernel
