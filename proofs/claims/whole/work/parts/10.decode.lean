theorem d_Asm_init_0 : decode b_Asm_init 0 = .ok (.aload_n 0, 1) := by decide +kernel
theorem d_Asm_init_1 : decode b_Asm_init 1 = .ok (.invokespecial 3, 3) := by decide +kernel
theorem d_Asm_init_4 : decode b_Asm_init 4 = .ok (.aload_n 0, 1) := by decide +kernel
theorem d_Asm_init_5 : decode b_Asm_init 5 = .ok (.bipush (6), 2) := by decide +kernel
theorem d_Asm_init_7 : decode b_Asm_init 7 = .ok (.newarray .int, 2) := by decide +kernel
theorem d_Asm_init_9 : decode b_Asm_init 9 = .ok (.putfield 9, 3) := by decide +kernel
theorem d_Asm_init_12 : decode b_Asm_init 12 = .ok (.aload_n 0, 1) := by decide +kernel
theorem d_Asm_init_13 : decode b_Asm_init 13 = .ok (.iconst (1), 1) := by decide +kernel
theorem d_Asm_init_14 : decode b_Asm_init 14 = .ok (.putfield 15, 3) := by decide +kernel
theorem d_Asm_init_17 : decode b_Asm_init 17 = .ok (.aload_n 0, 1) := by decide +kernel
theorem d_Asm_init_18 : decode b_Asm_init 18 = .ok (.getfield 9, 3) := by decide +kernel
theorem d_Asm_init_21 : decode b_Asm_init 21 = .ok (.iconst (2), 1) := by decide +kernel
theorem d_Asm_init_22 : decode b_Asm_init 22 = .ok (.iconst (4), 1) := by decide +kernel
theorem d_Asm_init_23 : decode b_Asm_init 23 = .ok (.iastore, 1) := by decide +kernel
theorem d_Asm_init_24 : decode b_Asm_init 24 = .ok (.aload_n 0, 1) := by decide +kernel
theorem d_Asm_init_25 : decode b_Asm_init 25 = .ok (.getfield 9, 3) := by decide +kernel
theorem d_Asm_init_28 : decode b_Asm_init 28 = .ok (.iconst (3), 1) := by decide +kernel
theorem d_Asm_init_29 : decode b_Asm_init 29 = .ok (.aload_n 0, 1) := by decide +kernel
theorem d_Asm_init_30 : decode b_Asm_init 30 = .ok (.getfield 9, 3) := by decide +kernel
theorem d_Asm_init_33 : decode b_Asm_init 33 = .ok (.iconst (2), 1) := by decide +kernel
theorem d_Asm_init_34 : decode b_Asm_init 34 = .ok (.iaload, 1) := by decide +kernel
theorem d_Asm_init_35 : decode b_Asm_init 35 = .ok (.bipush (6), 2) := by decide +kernel
theorem d_Asm_init_37 : decode b_Asm_init 37 = .ok (.iadd, 1) := by decide +kernel
theorem d_Asm_init_38 : decode b_Asm_init 38 = .ok (.iastore, 1) := by decide +kernel
theorem d_Asm_init_39 : decode b_Asm_init 39 = .ok (.aload_n 0, 1) := by decide +kernel
theorem d_Asm_init_40 : decode b_Asm_init 40 = .ok (.getfield 9, 3) := by decide +kernel
theorem d_Asm_init_43 : decode b_Asm_init 43 = .ok (.iconst (4), 1) := by decide +kernel
theorem d_Asm_init_44 : decode b_Asm_init 44 = .ok (.aload_n 0, 1) := by decide +kernel
theorem d_Asm_init_45 : decode b_Asm_init 45 = .ok (.getfield 9, 3) := by decide +kernel
theorem d_Asm_init_48 : decode b_Asm_init 48 = .ok (.iconst (3), 1) := by decide +kernel
theorem d_Asm_init_49 : decode b_Asm_init 49 = .ok (.iaload, 1) := by decide +kernel
theorem d_Asm_init_50 : decode b_Asm_init 50 = .ok (.iload_n 1, 1) := by decide +kernel
theorem d_Asm_init_51 : decode b_Asm_init 51 = .ok (.iadd, 1) := by decide +kernel
theorem d_Asm_init_52 : decode b_Asm_init 52 = .ok (.iastore, 1) := by decide +kernel
theorem d_Asm_init_53 : decode b_Asm_init 53 = .ok (.aload_n 0, 1) := by decide +kernel
theorem d_Asm_init_54 : decode b_Asm_init 54 = .ok (.getfield 9, 3) := by decide +kernel
theorem d_Asm_init_57 : decode b_Asm_init 57 = .ok (.iconst (5), 1) := by decide +kernel
theorem d_Asm_init_58 : decode b_Asm_init 58 = .ok (.aload_n 0, 1) := by decide +kernel
theorem d_Asm_init_59 : decode b_Asm_init 59 = .ok (.getfield 9, 3) := by decide +kernel
theorem d_Asm_init_62 : decode b_Asm_init 62 = .ok (.iconst (4), 1) := by decide +kernel
theorem d_Asm_init_63 : decode b_Asm_init 63 = .ok (.iaload, 1) := by decide +kernel
theorem d_Asm_init_64 : decode b_Asm_init 64 = .ok (.iconst (4), 1) := by decide +kernel
theorem d_Asm_init_65 : decode b_Asm_init 65 = .ok (.iadd, 1) := by decide +kernel
theorem d_Asm_init_66 : decode b_Asm_init 66 = .ok (.iastore, 1) := by decide +kernel
theorem d_Asm_init_67 : decode b_Asm_init 67 = .ok (.aload_n 0, 1) := by decide +kernel
theorem d_Asm_init_68 : decode b_Asm_init 68 = .ok (.aload_n 0, 1) := by decide +kernel
theorem d_Asm_init_69 : decode b_Asm_init 69 = .ok (.getfield 9, 3) := by decide +kernel
theorem d_Asm_init_72 : decode b_Asm_init 72 = .ok (.iconst (5), 1) := by decide +kernel
theorem d_Asm_init_73 : decode b_Asm_init 73 = .ok (.iaload, 1) := by decide +kernel
theorem d_Asm_init_74 : decode b_Asm_init 74 = .ok (.newarray .int, 2) := by decide +kernel
theorem d_Asm_init_76 : decode b_Asm_init 76 = .ok (.putfield 19, 3) := by decide +kernel
theorem d_Asm_init_79 : decode b_Asm_init 79 = .ok (.iconst (0), 1) := by decide +kernel
theorem d_Asm_init_80 : decode b_Asm_init 80 = .ok (.istore_n 2, 1) := by decide +kernel
theorem d_Asm_init_81 : decode b_Asm_init 81 = .ok (.iload_n 2, 1) := by decide +kernel
theorem d_Asm_init_82 : decode b_Asm_init 82 = .ok (.aload_n 0, 1) := by decide +kernel
theorem d_Asm_init_83 : decode b_Asm_init 83 = .ok (.getfield 19, 3) := by decide +kernel
theorem d_Asm_init_86 : decode b_Asm_init 86 = .ok (.arraylength, 1) := by decide +kernel
theorem d_Asm_init_87 : decode b_Asm_init 87 = .ok (.if_icmp .ge (16), 3) := by decide +kernel
theorem d_Asm_init_90 : decode b_Asm_init 90 = .ok (.aload_n 0, 1) := by decide +kernel
theorem d_Asm_init_91 : decode b_Asm_init 91 = .ok (.getfield 19, 3) := by decide +kernel
theorem d_Asm_init_94 : decode b_Asm_init 94 = .ok (.iload_n 2, 1) := by decide +kernel
theorem d_Asm_init_95 : decode b_Asm_init 95 = .ok (.iconst (-1), 1) := by decide +kernel
theorem d_Asm_init_96 : decode b_Asm_init 96 = .ok (.iastore, 1) := by decide +kernel
theorem d_Asm_init_97 : decode b_Asm_init 97 = .ok (.iinc 2 (1), 3) := by decide +kernel
theorem d_Asm_init_100 : decode b_Asm_init 100 = .ok (.goto (-19), 3) := by decide +kernel
theorem d_Asm_init_103 : decode b_Asm_init 103 = .ok (.return_, 1) := by decide +kernel
theorem d_Asm_startOf_0 : decode b_Asm_startOf 0 = .ok (.iload_n 1, 1) := by decide +kernel
theorem d_Asm_startOf_1 : decode b_Asm_startOf 1 = .ok (.ifCond .lt (21), 3) := by decide +kernel
theorem d_Asm_startOf_4 : decode b_Asm_startOf 4 = .ok (.iload_n 1, 1) := by decide +kernel
theorem d_Asm_startOf_5 : decode b_Asm_startOf 5 = .ok (.aload_n 0, 1) := by decide +kernel
theorem d_Asm_startOf_6 : decode b_Asm_startOf 6 = .ok (.getfield 9, 3) := by decide +kernel
theorem d_Asm_startOf_9 : decode b_Asm_startOf 9 = .ok (.arraylength, 1) := by decide +kernel
theorem d_Asm_startOf_10 : decode b_Asm_startOf 10 = .ok (.if_icmp .ge (12), 3) := by decide +kernel
theorem d_Asm_startOf_13 : decode b_Asm_startOf 13 = .ok (.aload_n 0, 1) := by decide +kernel
theorem d_Asm_startOf_14 : decode b_Asm_startOf 14 = .ok (.getfield 9, 3) := by decide +kernel
theorem d_Asm_startOf_17 : decode b_Asm_startOf 17 = .ok (.iload_n 1, 1) := by decide +kernel
theorem d_Asm_startOf_18 : decode b_Asm_startOf 18 = .ok (.iaload, 1) := by decide +kernel
theorem d_Asm_startOf_19 : decode b_Asm_startOf 19 = .ok (.goto (8), 3) := by decide +kernel
theorem d_Asm_startOf_22 : decode b_Asm_startOf 22 = .ok (.aload_n 0, 1) := by decide +kernel
theorem d_Asm_startOf_23 : decode b_Asm_startOf 23 = .ok (.getfield 19, 3) := by decide +kernel
theorem d_Asm_startOf_26 : decode b_Asm_startOf 26 = .ok (.arraylength, 1) := by decide +kernel
theorem d_Asm_startOf_27 : decode b_Asm_startOf 27 = .ok (.ireturn, 1) := by decide +kernel
theorem d_Asm_put_0 : decode b_Asm_put 0 = .ok (.aload_n 0, 1) := by decide +kernel
theorem d_Asm_put_1 : decode b_Asm_put 1 = .ok (.aload_n 1, 1) := by decide +kernel
theorem d_Asm_put_2 : decode b_Asm_put 2 = .ok (.getfield 22, 3) := by decide +kernel
theorem d_Asm_put_5 : decode b_Asm_put 5 = .ok (.invokevirtual 27, 3) := by decide +kernel
theorem d_Asm_put_8 : decode b_Asm_put 8 = .ok (.aload_n 1, 1) := by decide +kernel
theorem d_Asm_put_9 : decode b_Asm_put 9 = .ok (.getfield 31, 3) := by decide +kernel
theorem d_Asm_put_12 : decode b_Asm_put 12 = .ok (.iadd, 1) := by decide +kernel
theorem d_Asm_put_13 : decode b_Asm_put 13 = .ok (.istore_n 2, 1) := by decide +kernel
theorem d_Asm_put_14 : decode b_Asm_put 14 = .ok (.iconst (0), 1) := by decide +kernel
theorem d_Asm_put_15 : decode b_Asm_put 15 = .ok (.istore_n 3, 1) := by decide +kernel
theorem d_Asm_put_16 : decode b_Asm_put 16 = .ok (.iload_n 3, 1) := by decide +kernel
theorem d_Asm_put_17 : decode b_Asm_put 17 = .ok (.aload_n 1, 1) := by decide +kernel
theorem d_Asm_put_18 : decode b_Asm_put 18 = .ok (.getfield 34, 3) := by decide +kernel
theorem d_Asm_put_21 : decode b_Asm_put 21 = .ok (.if_icmp .ge (34), 3) := by decide +kernel
theorem d_Asm_put_24 : decode b_Asm_put 24 = .ok (.iload_n 2, 1) := by decide +kernel
theorem d_Asm_put_25 : decode b_Asm_put 25 = .ok (.iload_n 3, 1) := by decide +kernel
theorem d_Asm_put_26 : decode b_Asm_put 26 = .ok (.iadd, 1) := by decide +kernel
theorem d_Asm_put_27 : decode b_Asm_put 27 = .ok (.aload_n 0, 1) := by decide +kernel
theorem d_Asm_put_28 : decode b_Asm_put 28 = .ok (.getfield 19, 3) := by decide +kernel
theorem d_Asm_put_31 : decode b_Asm_put 31 = .ok (.arraylength, 1) := by decide +kernel
theorem d_Asm_put_32 : decode b_Asm_put 32 = .ok (.if_icmp .ge (23), 3) := by decide +kernel
theorem d_Asm_put_35 : decode b_Asm_put 35 = .ok (.aload_n 0, 1) := by decide +kernel
theorem d_Asm_put_36 : decode b_Asm_put 36 = .ok (.getfield 19, 3) := by decide +kernel
theorem d_Asm_put_39 : decode b_Asm_put 39 = .ok (.iload_n 2, 1) := by decide +kernel
theorem d_Asm_put_40 : decode b_Asm_put 40 = .ok (.iload_n 3, 1) := by decide +kernel
theorem d_Asm_put_41 : decode b_Asm_put 41 = .ok (.iadd, 1) := by decide +kernel
theorem d_Asm_put_42 : decode b_Asm_put 42 = .ok (.aload_n 1, 1) := by decide +kernel
theorem d_Asm_put_43 : decode b_Asm_put 43 = .ok (.getfield 37, 3) := by decide +kernel
theorem d_Asm_put_46 : decode b_Asm_put 46 = .ok (.iload_n 3, 1) := by decide +kernel
theorem d_Asm_put_47 : decode b_Asm_put 47 = .ok (.iaload, 1) := by decide +kernel
theorem d_Asm_put_48 : decode b_Asm_put 48 = .ok (.iastore, 1) := by decide +kernel
theorem d_Asm_put_49 : decode b_Asm_put 49 = .ok (.iinc 3 (1), 3) := by decide +kernel
theorem d_Asm_put_52 : decode b_Asm_put 52 = .ok (.goto (-36), 3) := by decide +kernel
theorem d_Asm_put_55 : decode b_Asm_put 55 = .ok (.return_, 1) := by decide +kernel
theorem d_Asm_isWhole_0 : decode b_Asm_isWhole 0 = .ok (.aload_n 0, 1) := by decide +kernel
theorem d_Asm_isWhole_1 : decode b_Asm_isWhole 1 = .ok (.getfield 15, 3) := by decide +kernel
theorem d_Asm_isWhole_4 : decode b_Asm_isWhole 4 = .ok (.iconst (4), 1) := by decide +kernel
theorem d_Asm_isWhole_5 : decode b_Asm_isWhole 5 = .ok (.if_icmp .le (7), 3) := by decide +kernel
theorem d_Asm_isWhole_8 : decode b_Asm_isWhole 8 = .ok (.iconst (1), 1) := by decide +kernel
theorem d_Asm_isWhole_9 : decode b_Asm_isWhole 9 = .ok (.goto (4), 3) := by decide +kernel
theorem d_Asm_isWhole_12 : decode b_Asm_isWhole 12 = .ok (.iconst (0), 1) := by decide +kernel
theorem d_Asm_isWhole_13 : decode b_Asm_isWhole 13 = .ok (.ireturn, 1) := by decide +kernel
theorem d_Asm_hasNextMessage_0 : decode b_Asm_hasNextMessage 0 = .ok (.aload_n 0, 1) := by decide +kernel
theorem d_Asm_hasNextMessage_1 : decode b_Asm_hasNextMessage 1 = .ok (.aload_n 0, 1) := by decide +kernel
theorem d_Asm_hasNextMessage_2 : decode b_Asm_hasNextMessage 2 = .ok (.getfield 15, 3) := by decide +kernel
theorem d_Asm_hasNextMessage_5 : decode b_Asm_hasNextMessage 5 = .ok (.iconst (1), 1) := by decide +kernel
theorem d_Asm_hasNextMessage_6 : decode b_Asm_hasNextMessage 6 = .ok (.iadd, 1) := by decide +kernel
theorem d_Asm_hasNextMessage_7 : decode b_Asm_hasNextMessage 7 = .ok (.invokevirtual 27, 3) := by decide +kernel
theorem d_Asm_hasNextMessage_10 : decode b_Asm_hasNextMessage 10 = .ok (.istore_n 1, 1) := by decide +kernel
theorem d_Asm_hasNextMessage_11 : decode b_Asm_hasNextMessage 11 = .ok (.aload_n 0, 1) := by decide +kernel
theorem d_Asm_hasNextMessage_12 : decode b_Asm_hasNextMessage 12 = .ok (.aload_n 0, 1) := by decide +kernel
theorem d_Asm_hasNextMessage_13 : decode b_Asm_hasNextMessage 13 = .ok (.getfield 15, 3) := by decide +kernel
theorem d_Asm_hasNextMessage_16 : decode b_Asm_hasNextMessage 16 = .ok (.invokevirtual 27, 3) := by decide +kernel
theorem d_Asm_hasNextMessage_19 : decode b_Asm_hasNextMessage 19 = .ok (.istore_n 2, 1) := by decide +kernel
theorem d_Asm_hasNextMessage_20 : decode b_Asm_hasNextMessage 20 = .ok (.iload_n 2, 1) := by decide +kernel
theorem d_Asm_hasNextMessage_21 : decode b_Asm_hasNextMessage 21 = .ok (.iload_n 1, 1) := by decide +kernel
theorem d_Asm_hasNextMessage_22 : decode b_Asm_hasNextMessage 22 = .ok (.if_icmp .ge (21), 3) := by decide +kernel
theorem d_Asm_hasNextMessage_25 : decode b_Asm_hasNextMessage 25 = .ok (.aload_n 0, 1) := by decide +kernel
theorem d_Asm_hasNextMessage_26 : decode b_Asm_hasNextMessage 26 = .ok (.getfield 19, 3) := by decide +kernel
theorem d_Asm_hasNextMessage_29 : decode b_Asm_hasNextMessage 29 = .ok (.iload_n 2, 1) := by decide +kernel
theorem d_Asm_hasNextMessage_30 : decode b_Asm_hasNextMessage 30 = .ok (.iaload, 1) := by decide +kernel
theorem d_Asm_hasNextMessage_31 : decode b_Asm_hasNextMessage 31 = .ok (.iconst (-1), 1) := by decide +kernel
theorem d_Asm_hasNextMessage_32 : decode b_Asm_hasNextMessage 32 = .ok (.if_icmp .ne (5), 3) := by decide +kernel
theorem d_Asm_hasNextMessage_35 : decode b_Asm_hasNextMessage 35 = .ok (.iconst (0), 1) := by decide +kernel
theorem d_Asm_hasNextMessage_36 : decode b_Asm_hasNextMessage 36 = .ok (.ireturn, 1) := by decide +kernel
theorem d_Asm_hasNextMessage_37 : decode b_Asm_hasNextMessage 37 = .ok (.iinc 2 (1), 3) := by decide +kernel
theorem d_Asm_hasNextMessage_40 : decode b_Asm_hasNextMessage 40 = .ok (.goto (-20), 3) := by decide +kernel
theorem d_Asm_hasNextMessage_43 : decode b_Asm_hasNextMessage 43 = .ok (.aload_n 0, 1) := by decide +kernel
theorem d_Asm_hasNextMessage_44 : decode b_Asm_hasNextMessage 44 = .ok (.invokevirtual 40, 3) := by decide +kernel
theorem d_Asm_hasNextMessage_47 : decode b_Asm_hasNextMessage 47 = .ok (.ifCond .ne (7), 3) := by decide +kernel
theorem d_Asm_hasNextMessage_50 : decode b_Asm_hasNextMessage 50 = .ok (.iconst (1), 1) := by decide +kernel
theorem d_Asm_hasNextMessage_51 : decode b_Asm_hasNextMessage 51 = .ok (.goto (4), 3) := by decide +kernel
theorem d_Asm_hasNextMessage_54 : decode b_Asm_hasNextMessage 54 = .ok (.iconst (0), 1) := by decide +kernel
theorem d_Asm_hasNextMessage_55 : decode b_Asm_hasNextMessage 55 = .ok (.ireturn, 1) := by decide +kernel
theorem d_Asm_countUntaken_0 : decode b_Asm_countUntaken 0 = .ok (.iconst (0), 1) := by decide +kernel
theorem d_Asm_countUntaken_1 : decode b_Asm_countUntaken 1 = .ok (.istore_n 1, 1) := by decide +kernel
theorem d_Asm_countUntaken_2 : decode b_Asm_countUntaken 2 = .ok (.aload_n 0, 1) := by decide +kernel
theorem d_Asm_countUntaken_3 : decode b_Asm_countUntaken 3 = .ok (.aload_n 0, 1) := by decide +kernel
theorem d_Asm_countUntaken_4 : decode b_Asm_countUntaken 4 = .ok (.getfield 15, 3) := by decide +kernel
theorem d_Asm_countUntaken_7 : decode b_Asm_countUntaken 7 = .ok (.invokevirtual 27, 3) := by decide +kernel
theorem d_Asm_countUntaken_10 : decode b_Asm_countUntaken 10 = .ok (.istore_n 2, 1) := by decide +kernel
theorem d_Asm_countUntaken_11 : decode b_Asm_countUntaken 11 = .ok (.iload_n 2, 1) := by decide +kernel
theorem d_Asm_countUntaken_12 : decode b_Asm_countUntaken 12 = .ok (.aload_n 0, 1) := by decide +kernel
theorem d_Asm_countUntaken_13 : decode b_Asm_countUntaken 13 = .ok (.getfield 19, 3) := by decide +kernel
theorem d_Asm_countUntaken_16 : decode b_Asm_countUntaken 16 = .ok (.arraylength, 1) := by decide +kernel
theorem d_Asm_countUntaken_17 : decode b_Asm_countUntaken 17 = .ok (.if_icmp .ge (22), 3) := by decide +kernel
theorem d_Asm_countUntaken_20 : decode b_Asm_countUntaken 20 = .ok (.aload_n 0, 1) := by decide +kernel
theorem d_Asm_countUntaken_21 : decode b_Asm_countUntaken 21 = .ok (.getfield 19, 3) := by decide +kernel
theorem d_Asm_countUntaken_24 : decode b_Asm_countUntaken 24 = .ok (.iload_n 2, 1) := by decide +kernel
theorem d_Asm_countUntaken_25 : decode b_Asm_countUntaken 25 = .ok (.iaload, 1) := by decide +kernel
theorem d_Asm_countUntaken_26 : decode b_Asm_countUntaken 26 = .ok (.iconst (-1), 1) := by decide +kernel
theorem d_Asm_countUntaken_27 : decode b_Asm_countUntaken 27 = .ok (.if_icmp .eq (6), 3) := by decide +kernel
theorem d_Asm_countUntaken_30 : decode b_Asm_countUntaken 30 = .ok (.iinc 1 (1), 3) := by decide +kernel
theorem d_Asm_countUntaken_33 : decode b_Asm_countUntaken 33 = .ok (.iinc 2 (1), 3) := by decide +kernel
theorem d_Asm_countUntaken_36 : decode b_Asm_countUntaken 36 = .ok (.goto (-25), 3) := by decide +kernel
theorem d_Asm_countUntaken_39 : decode b_Asm_countUntaken 39 = .ok (.iload_n 1, 1) := by decide +kernel
theorem d_Asm_countUntaken_40 : decode b_Asm_countUntaken 40 = .ok (.ireturn, 1) := by decide +kernel
theorem d_Noted_init_0 : decode b_Noted_init 0 = .ok (.aload_n 0, 1) := by decide +kernel
theorem d_Noted_init_1 : decode b_Noted_init 1 = .ok (.invokespecial 3, 3) := by decide +kernel
theorem d_Noted_init_4 : decode b_Noted_init 4 = .ok (.aload_n 0, 1) := by decide +kernel
theorem d_Noted_init_5 : decode b_Noted_init 5 = .ok (.bipush (8), 2) := by decide +kernel
theorem d_Noted_init_7 : decode b_Noted_init 7 = .ok (.newarray .int, 2) := by decide +kernel
theorem d_Noted_init_9 : decode b_Noted_init 9 = .ok (.putfield 9, 3) := by decide +kernel
theorem d_Noted_init_12 : decode b_Noted_init 12 = .ok (.return_, 1) := by decide +kernel
theorem d_Frag_init_0 : decode b_Frag_init 0 = .ok (.aload_n 0, 1) := by decide +kernel
theorem d_Frag_init_1 : decode b_Frag_init 1 = .ok (.invokespecial 3, 3) := by decide +kernel
theorem d_Frag_init_4 : decode b_Frag_init 4 = .ok (.aload_n 0, 1) := by decide +kernel
theorem d_Frag_init_5 : decode b_Frag_init 5 = .ok (.bipush (24), 2) := by decide +kernel
theorem d_Frag_init_7 : decode b_Frag_init 7 = .ok (.newarray .int, 2) := by decide +kernel
theorem d_Frag_init_9 : decode b_Frag_init 9 = .ok (.putfield 9, 3) := by decide +kernel
theorem d_Frag_init_12 : decode b_Frag_init 12 = .ok (.aload_n 0, 1) := by decide +kernel
theorem d_Frag_init_13 : decode b_Frag_init 13 = .ok (.bipush (7), 2) := by decide +kernel
theorem d_Frag_init_15 : decode b_Frag_init 15 = .ok (.newarray .int, 2) := by decide +kernel
theorem d_Frag_init_17 : decode b_Frag_init 17 = .ok (.putfield 15, 3) := by decide +kernel
theorem d_Frag_init_20 : decode b_Frag_init 20 = .ok (.return_, 1) := by decide +kernel
theorem d_Flight_init_0 : decode b_Flight_init 0 = .ok (.aload_n 0, 1) := by decide +kernel
theorem d_Flight_init_1 : decode b_Flight_init 1 = .ok (.invokespecial 3, 3) := by decide +kernel
theorem d_Flight_init_4 : decode b_Flight_init 4 = .ok (.aload_n 0, 1) := by decide +kernel
theorem d_Flight_init_5 : decode b_Flight_init 5 = .ok (.iload_n 1, 1) := by decide +kernel
theorem d_Flight_init_6 : decode b_Flight_init 6 = .ok (.anewarray 9, 3) := by decide +kernel
theorem d_Flight_init_9 : decode b_Flight_init 9 = .ok (.putfield 11, 3) := by decide +kernel
theorem d_Flight_init_12 : decode b_Flight_init 12 = .ok (.iconst (0), 1) := by decide +kernel
theorem d_Flight_init_13 : decode b_Flight_init 13 = .ok (.istore_n 2, 1) := by decide +kernel
theorem d_Flight_init_14 : decode b_Flight_init 14 = .ok (.iload_n 2, 1) := by decide +kernel
theorem d_Flight_init_15 : decode b_Flight_init 15 = .ok (.iload_n 1, 1) := by decide +kernel
theorem d_Flight_init_16 : decode b_Flight_init 16 = .ok (.if_icmp .ge (22), 3) := by decide +kernel
theorem d_Flight_init_19 : decode b_Flight_init 19 = .ok (.aload_n 0, 1) := by decide +kernel
theorem d_Flight_init_20 : decode b_Flight_init 20 = .ok (.getfield 11, 3) := by decide +kernel
theorem d_Flight_init_23 : decode b_Flight_init 23 = .ok (.iload_n 2, 1) := by decide +kernel
theorem d_Flight_init_24 : decode b_Flight_init 24 = .ok (.new 9, 3) := by decide +kernel
theorem d_Flight_init_27 : decode b_Flight_init 27 = .ok (.dup, 1) := by decide +kernel
theorem d_Flight_init_28 : decode b_Flight_init 28 = .ok (.invokespecial 17, 3) := by decide +kernel
theorem d_Flight_init_31 : decode b_Flight_init 31 = .ok (.aastore, 1) := by decide +kernel
theorem d_Flight_init_32 : decode b_Flight_init 32 = .ok (.iinc 2 (1), 3) := by decide +kernel
theorem d_Flight_init_35 : decode b_Flight_init 35 = .ok (.goto (-21), 3) := by decide +kernel
theorem d_Flight_init_38 : decode b_Flight_init 38 = .ok (.return_, 1) := by decide +kernel
theorem d_Win_init_0 : decode b_Win_init 0 = .ok (.aload_n 0, 1) := by decide +kernel
theorem d_Win_init_1 : decode b_Win_init 1 = .ok (.invokespecial 3, 3) := by decide +kernel
theorem d_Win_init_4 : decode b_Win_init 4 = .ok (.aload_n 0, 1) := by decide +kernel
theorem d_Win_init_5 : decode b_Win_init 5 = .ok (.iconst (-1), 1) := by decide +kernel
theorem d_Win_init_6 : decode b_Win_init 6 = .ok (.putfield 9, 3) := by decide +kernel
theorem d_Win_init_9 : decode b_Win_init 9 = .ok (.return_, 1) := by decide +kernel
theorem d_Side_init_0 : decode b_Side_init 0 = .ok (.aload_n 0, 1) := by decide +kernel
theorem d_Side_init_1 : decode b_Side_init 1 = .ok (.invokespecial 3, 3) := by decide +kernel
theorem d_Side_init_4 : decode b_Side_init 4 = .ok (.aload_n 0, 1) := by decide +kernel
theorem d_Side_init_5 : decode b_Side_init 5 = .ok (.new 9, 3) := by decide +kernel
theorem d_Side_init_8 : decode b_Side_init 8 = .ok (.dup, 1) := by decide +kernel
theorem d_Side_init_9 : decode b_Side_init 9 = .ok (.invokespecial 11, 3) := by decide +kernel
theorem d_Side_init_12 : decode b_Side_init 12 = .ok (.putfield 12, 3) := by decide +kernel
theorem d_Side_init_15 : decode b_Side_init 15 = .ok (.aload_n 0, 1) := by decide +kernel
theorem d_Side_init_16 : decode b_Side_init 16 = .ok (.iconst (4), 1) := by decide +kernel
theorem d_Side_init_17 : decode b_Side_init 17 = .ok (.anewarray 18, 3) := by decide +kernel
theorem d_Side_init_20 : decode b_Side_init 20 = .ok (.putfield 20, 3) := by decide +kernel
theorem d_Side_init_23 : decode b_Side_init 23 = .ok (.aload_n 0, 1) := by decide +kernel
theorem d_Side_init_24 : decode b_Side_init 24 = .ok (.iconst (4), 1) := by decide +kernel
theorem d_Side_init_25 : decode b_Side_init 25 = .ok (.newarray .int, 2) := by decide +kernel
theorem d_Side_init_27 : decode b_Side_init 27 = .ok (.putfield 24, 3) := by decide +kernel
theorem d_Side_init_30 : decode b_Side_init 30 = .ok (.aload_n 0, 1) := by decide +kernel
theorem d_Side_init_31 : decode b_Side_init 31 = .ok (.bipush (60), 2) := by decide +kernel
theorem d_Side_init_33 : decode b_Side_init 33 = .ok (.newarray .int, 2) := by decide +kernel
theorem d_Side_init_35 : decode b_Side_init 35 = .ok (.putfield 28, 3) := by decide +kernel
theorem d_Side_init_38 : decode b_Side_init 38 = .ok (.aload_n 0, 1) := by decide +kernel
theorem d_Side_init_39 : decode b_Side_init 39 = .ok (.iconst (0), 1) := by decide +kernel
theorem d_Side_init_40 : decode b_Side_init 40 = .ok (.putfield 31, 3) := by decide +kernel
theorem d_Side_init_43 : decode b_Side_init 43 = .ok (.aload_n 0, 1) := by decide +kernel
theorem d_Side_init_44 : decode b_Side_init 44 = .ok (.iconst (0), 1) := by decide +kernel
theorem d_Side_init_45 : decode b_Side_init 45 = .ok (.putfield 35, 3) := by decide +kernel
theorem d_Side_init_48 : decode b_Side_init 48 = .ok (.aload_n 0, 1) := by decide +kernel
theorem d_Side_init_49 : decode b_Side_init 49 = .ok (.iload_n 1, 1) := by decide +kernel
theorem d_Side_init_50 : decode b_Side_init 50 = .ok (.putfield 38, 3) := by decide +kernel
theorem d_Side_init_53 : decode b_Side_init 53 = .ok (.aload_n 0, 1) := by decide +kernel
theorem d_Side_init_54 : decode b_Side_init 54 = .ok (.iload_n 2, 1) := by decide +kernel
theorem d_Side_init_55 : decode b_Side_init 55 = .ok (.putfield 41, 3) := by decide +kernel
theorem d_Side_init_58 : decode b_Side_init 58 = .ok (.aload_n 0, 1) := by decide +kernel
theorem d_Side_init_59 : decode b_Side_init 59 = .ok (.aload_n 3, 1) := by decide +kernel
theorem d_Side_init_60 : decode b_Side_init 60 = .ok (.putfield 44, 3) := by decide +kernel
theorem d_Side_init_63 : decode b_Side_init 63 = .ok (.aload_n 0, 1) := by decide +kernel
theorem d_Side_init_64 : decode b_Side_init 64 = .ok (.new 48, 3) := by decide +kernel
theorem d_Side_init_67 : decode b_Side_init 67 = .ok (.dup, 1) := by decide +kernel
theorem d_Side_init_68 : decode b_Side_init 68 = .ok (.iload 4, 2) := by decide +kernel
theorem d_Side_init_70 : decode b_Side_init 70 = .ok (.invokespecial 50, 3) := by decide +kernel
theorem d_Side_init_73 : decode b_Side_init 73 = .ok (.putfield 53, 3) := by decide +kernel
theorem d_Side_init_76 : decode b_Side_init 76 = .ok (.iconst (0), 1) := by decide +kernel
theorem d_Side_init_77 : decode b_Side_init 77 = .ok (.istore 5, 2) := by decide +kernel
theorem d_Side_init_79 : decode b_Side_init 79 = .ok (.iload 5, 2) := by decide +kernel
theorem d_Side_init_81 : decode b_Side_init 81 = .ok (.aload_n 0, 1) := by decide +kernel
theorem d_Side_init_82 : decode b_Side_init 82 = .ok (.getfield 20, 3) := by decide +kernel
theorem d_Side_init_85 : decode b_Side_init 85 = .ok (.arraylength, 1) := by decide +kernel
theorem d_Side_init_86 : decode b_Side_init 86 = .ok (.if_icmp .ge (23), 3) := by decide +kernel
theorem d_Side_init_89 : decode b_Side_init 89 = .ok (.aload_n 0, 1) := by decide +kernel
theorem d_Side_init_90 : decode b_Side_init 90 = .ok (.getfield 20, 3) := by decide +kernel
theorem d_Side_init_93 : decode b_Side_init 93 = .ok (.iload 5, 2) := by decide +kernel
theorem d_Side_init_95 : decode b_Side_init 95 = .ok (.new 18, 3) := by decide +kernel
theorem d_Side_init_98 : decode b_Side_init 98 = .ok (.dup, 1) := by decide +kernel
theorem d_Side_init_99 : decode b_Side_init 99 = .ok (.invokespecial 57, 3) := by decide +kernel
theorem d_Side_init_102 : decode b_Side_init 102 = .ok (.aastore, 1) := by decide +kernel
theorem d_Side_init_103 : decode b_Side_init 103 = .ok (.iinc 5 (1), 3) := by decide +kernel
theorem d_Side_init_106 : decode b_Side_init 106 = .ok (.goto (-27), 3) := by decide +kernel
theorem d_Side_init_109 : decode b_Side_init 109 = .ok (.return_, 1) := by decide +kernel
theorem d_Msg_init_0 : decode b_Msg_init 0 = .ok (.aload_n 0, 1) := by decide +kernel
theorem d_Msg_init_1 : decode b_Msg_init 1 = .ok (.invokespecial 3, 3) := by decide +kernel
theorem d_Msg_init_4 : decode b_Msg_init 4 = .ok (.aload_n 0, 1) := by decide +kernel
theorem d_Msg_init_5 : decode b_Msg_init 5 = .ok (.iload_n 1, 1) := by decide +kernel
theorem d_Msg_init_6 : decode b_Msg_init 6 = .ok (.putfield 9, 3) := by decide +kernel
theorem d_Msg_init_9 : decode b_Msg_init 9 = .ok (.aload_n 0, 1) := by decide +kernel
theorem d_Msg_init_10 : decode b_Msg_init 10 = .ok (.iload_n 2, 1) := by decide +kernel
theorem d_Msg_init_11 : decode b_Msg_init 11 = .ok (.putfield 15, 3) := by decide +kernel
theorem d_Msg_init_14 : decode b_Msg_init 14 = .ok (.aload_n 0, 1) := by decide +kernel
theorem d_Msg_init_15 : decode b_Msg_init 15 = .ok (.iload_n 3, 1) := by decide +kernel
theorem d_Msg_init_16 : decode b_Msg_init 16 = .ok (.newarray .int, 2) := by decide +kernel
theorem d_Msg_init_18 : decode b_Msg_init 18 = .ok (.putfield 18, 3) := by decide +kernel
theorem d_Msg_init_21 : decode b_Msg_init 21 = .ok (.return_, 1) := by decide +kernel
theorem d_X_mix_0 : decode b_X_mix 0 = .ok (.iload_n 0, 1) := by decide +kernel
theorem d_X_mix_1 : decode b_X_mix 1 = .ok (.bipush (31), 2) := by decide +kernel
theorem d_X_mix_3 : decode b_X_mix 3 = .ok (.imul, 1) := by decide +kernel
theorem d_X_mix_4 : decode b_X_mix 4 = .ok (.iload_n 1, 1) := by decide +kernel
theorem d_X_mix_5 : decode b_X_mix 5 = .ok (.iadd, 1) := by decide +kernel
theorem d_X_mix_6 : decode b_X_mix 6 = .ok (.ldc 140, 2) := by decide +kernel
theorem d_X_mix_8 : decode b_X_mix 8 = .ok (.imul, 1) := by decide +kernel
theorem d_X_mix_9 : decode b_X_mix 9 = .ok (.istore_n 2, 1) := by decide +kernel
theorem d_X_mix_10 : decode b_X_mix 10 = .ok (.iload_n 2, 1) := by decide +kernel
theorem d_X_mix_11 : decode b_X_mix 11 = .ok (.iload_n 2, 1) := by decide +kernel
theorem d_X_mix_12 : decode b_X_mix 12 = .ok (.bipush (15), 2) := by decide +kernel
theorem d_X_mix_14 : decode b_X_mix 14 = .ok (.iushr, 1) := by decide +kernel
theorem d_X_mix_15 : decode b_X_mix 15 = .ok (.ixor, 1) := by decide +kernel
theorem d_X_mix_16 : decode b_X_mix 16 = .ok (.ireturn, 1) := by decide +kernel
theorem d_X_clientNumber_0 : decode b_X_clientNumber 0 = .ok (.iload_n 0, 1) := by decide +kernel
theorem d_X_clientNumber_1 : decode b_X_clientNumber 1 = .ok (.iconst (1), 1) := by decide +kernel
theorem d_X_clientNumber_2 : decode b_X_clientNumber 2 = .ok (.invokestatic 141, 3) := by decide +kernel
theorem d_X_clientNumber_5 : decode b_X_clientNumber 5 = .ok (.ireturn, 1) := by decide +kernel
theorem d_X_proofLength_0 : decode b_X_proofLength 0 = .ok (.bipush (12), 2) := by decide +kernel
theorem d_X_proofLength_2 : decode b_X_proofLength 2 = .ok (.iload_n 0, 1) := by decide +kernel
theorem d_X_proofLength_3 : decode b_X_proofLength 3 = .ok (.bipush (31), 2) := by decide +kernel
theorem d_X_proofLength_5 : decode b_X_proofLength 5 = .ok (.iand, 1) := by decide +kernel
theorem d_X_proofLength_6 : decode b_X_proofLength 6 = .ok (.iadd, 1) := by decide +kernel
theorem d_X_proofLength_7 : decode b_X_proofLength 7 = .ok (.ireturn, 1) := by decide +kernel
theorem d_Client_init_0 : decode b_Client_init 0 = .ok (.aload_n 0, 1) := by decide +kernel
theorem d_Client_init_1 : decode b_Client_init 1 = .ok (.iconst (0), 1) := by decide +kernel
theorem d_Client_init_2 : decode b_Client_init 2 = .ok (.iload_n 2, 1) := by decide +kernel
theorem d_Client_init_3 : decode b_Client_init 3 = .ok (.aload_n 3, 1) := by decide +kernel
theorem d_Client_init_4 : decode b_Client_init 4 = .ok (.iconst (1), 1) := by decide +kernel
theorem d_Client_init_5 : decode b_Client_init 5 = .ok (.invokespecial 3, 3) := by decide +kernel
theorem d_Client_init_8 : decode b_Client_init 8 = .ok (.aload_n 0, 1) := by decide +kernel
theorem d_Client_init_9 : decode b_Client_init 9 = .ok (.new 9, 3) := by decide +kernel
theorem d_Client_init_12 : decode b_Client_init 12 = .ok (.dup, 1) := by decide +kernel
theorem d_Client_init_13 : decode b_Client_init 13 = .ok (.iconst (0), 1) := by decide +kernel
theorem d_Client_init_14 : decode b_Client_init 14 = .ok (.iconst (0), 1) := by decide +kernel
theorem d_Client_init_15 : decode b_Client_init 15 = .ok (.bipush (8), 2) := by decide +kernel
theorem d_Client_init_17 : decode b_Client_init 17 = .ok (.invokespecial 11, 3) := by decide +kernel
theorem d_Client_init_20 : decode b_Client_init 20 = .ok (.putfield 14, 3) := by decide +kernel
theorem d_Client_init_23 : decode b_Client_init 23 = .ok (.aload_n 0, 1) := by decide +kernel
theorem d_Client_init_24 : decode b_Client_init 24 = .ok (.new 9, 3) := by decide +kernel
theorem d_Client_init_27 : decode b_Client_init 27 = .ok (.dup, 1) := by decide +kernel
theorem d_Client_init_28 : decode b_Client_init 28 = .ok (.iconst (1), 1) := by decide +kernel
theorem d_Client_init_29 : decode b_Client_init 29 = .ok (.iconst (0), 1) := by decide +kernel
theorem d_Client_init_30 : decode b_Client_init 30 = .ok (.bipush (8), 2) := by decide +kernel
theorem d_Client_init_32 : decode b_Client_init 32 = .ok (.invokespecial 11, 3) := by decide +kernel
theorem d_Client_init_35 : decode b_Client_init 35 = .ok (.putfield 20, 3) := by decide +kernel
theorem d_Client_init_38 : decode b_Client_init 38 = .ok (.aload_n 0, 1) := by decide +kernel
theorem d_Client_init_39 : decode b_Client_init 39 = .ok (.new 9, 3) := by decide +kernel
theorem d_Client_init_42 : decode b_Client_init 42 = .ok (.dup, 1) := by decide +kernel
theorem d_Client_init_43 : decode b_Client_init 43 = .ok (.iconst (2), 1) := by decide +kernel
theorem d_Client_init_44 : decode b_Client_init 44 = .ok (.iconst (2), 1) := by decide +kernel
theorem d_Client_init_45 : decode b_Client_init 45 = .ok (.iconst (4), 1) := by decide +kernel
theorem d_Client_init_46 : decode b_Client_init 46 = .ok (.invokespecial 11, 3) := by decide +kernel
theorem d_Client_init_49 : decode b_Client_init 49 = .ok (.putfield 23, 3) := by decide +kernel
theorem d_Client_init_52 : decode b_Client_init 52 = .ok (.aload_n 0, 1) := by decide +kernel
theorem d_Client_init_53 : decode b_Client_init 53 = .ok (.iload_n 1, 1) := by decide +kernel
theorem d_Client_init_54 : decode b_Client_init 54 = .ok (.invokestatic 26, 3) := by decide +kernel
theorem d_Client_init_57 : decode b_Client_init 57 = .ok (.putfield 30, 3) := by decide +kernel
theorem d_Client_init_60 : decode b_Client_init 60 = .ok (.aload_n 0, 1) := by decide +kernel
theorem d_Client_init_61 : decode b_Client_init 61 = .ok (.new 34, 3) := by decide +kernel
theorem d_Client_init_64 : decode b_Client_init 64 = .ok (.dup, 1) := by decide +kernel
theorem d_Client_init_65 : decode b_Client_init 65 = .ok (.iload_n 1, 1) := by decide +kernel
theorem d_Client_init_66 : decode b_Client_init 66 = .ok (.invokestatic 36, 3) := by decide +kernel
theorem d_Client_init_69 : decode b_Client_init 69 = .ok (.invokespecial 39, 3) := by decide +kernel
theorem d_Client_init_72 : decode b_Client_init 72 = .ok (.putfield 42, 3) := by decide +kernel
theorem d_Client_init_75 : decode b_Client_init 75 = .ok (.return_, 1) := by decide +kernel
theorem d_Msg_writeInt_0 : decode b_Msg_writeInt 0 = .ok (.iconst (0), 1) := by decide +kernel
theorem d_Msg_writeInt_1 : decode b_Msg_writeInt 1 = .ok (.istore_n 3, 1) := by decide +kernel
theorem d_Msg_writeInt_2 : decode b_Msg_writeInt 2 = .ok (.iload_n 3, 1) := by decide +kernel
theorem d_Msg_writeInt_3 : decode b_Msg_writeInt 3 = .ok (.iconst (4), 1) := by decide +kernel
theorem d_Msg_writeInt_4 : decode b_Msg_writeInt 4 = .ok (.if_icmp .ge (38), 3) := by decide +kernel
theorem d_Msg_writeInt_7 : decode b_Msg_writeInt 7 = .ok (.iload_n 1, 1) := by decide +kernel
theorem d_Msg_writeInt_8 : decode b_Msg_writeInt 8 = .ok (.iload_n 3, 1) := by decide +kernel
theorem d_Msg_writeInt_9 : decode b_Msg_writeInt 9 = .ok (.iadd, 1) := by decide +kernel
theorem d_Msg_writeInt_10 : decode b_Msg_writeInt 10 = .ok (.aload_n 0, 1) := by decide +kernel
theorem d_Msg_writeInt_11 : decode b_Msg_writeInt 11 = .ok (.getfield 18, 3) := by decide +kernel
theorem d_Msg_writeInt_14 : decode b_Msg_writeInt 14 = .ok (.arraylength, 1) := by decide +kernel
theorem d_Msg_writeInt_15 : decode b_Msg_writeInt 15 = .ok (.if_icmp .ge (27), 3) := by decide +kernel
theorem d_Msg_writeInt_18 : decode b_Msg_writeInt 18 = .ok (.aload_n 0, 1) := by decide +kernel
theorem d_Msg_writeInt_19 : decode b_Msg_writeInt 19 = .ok (.getfield 18, 3) := by decide +kernel
theorem d_Msg_writeInt_22 : decode b_Msg_writeInt 22 = .ok (.iload_n 1, 1) := by decide +kernel
theorem d_Msg_writeInt_23 : decode b_Msg_writeInt 23 = .ok (.iload_n 3, 1) := by decide +kernel
theorem d_Msg_writeInt_24 : decode b_Msg_writeInt 24 = .ok (.iadd, 1) := by decide +kernel
theorem d_Msg_writeInt_25 : decode b_Msg_writeInt 25 = .ok (.iload_n 2, 1) := by decide +kernel
theorem d_Msg_writeInt_26 : decode b_Msg_writeInt 26 = .ok (.bipush (8), 2) := by decide +kernel
theorem d_Msg_writeInt_28 : decode b_Msg_writeInt 28 = .ok (.iload_n 3, 1) := by decide +kernel
theorem d_Msg_writeInt_29 : decode b_Msg_writeInt 29 = .ok (.imul, 1) := by decide +kernel
theorem d_Msg_writeInt_30 : decode b_Msg_writeInt 30 = .ok (.iushr, 1) := by decide +kernel
theorem d_Msg_writeInt_31 : decode b_Msg_writeInt 31 = .ok (.sipush (255), 3) := by decide +kernel
theorem d_Msg_writeInt_34 : decode b_Msg_writeInt 34 = .ok (.iand, 1) := by decide +kernel
theorem d_Msg_writeInt_35 : decode b_Msg_writeInt 35 = .ok (.iastore, 1) := by decide +kernel
theorem d_Msg_writeInt_36 : decode b_Msg_writeInt 36 = .ok (.iinc 3 (1), 3) := by decide +kernel
theorem d_Msg_writeInt_39 : decode b_Msg_writeInt 39 = .ok (.goto (-37), 3) := by decide +kernel
theorem d_Msg_writeInt_42 : decode b_Msg_writeInt 42 = .ok (.return_, 1) := by decide +kernel
theorem d_Side_addBytesToTranscript_0 : decode b_Side_addBytesToTranscript 0 = .ok (.iload_n 2, 1) := by decide +kernel
theorem d_Side_addBytesToTranscript_1 : decode b_Side_addBytesToTranscript 1 = .ok (.istore 4, 2) := by decide +kernel
theorem d_Side_addBytesToTranscript_3 : decode b_Side_addBytesToTranscript 3 = .ok (.iload 4, 2) := by decide +kernel
theorem d_Side_addBytesToTranscript_5 : decode b_Side_addBytesToTranscript 5 = .ok (.iload_n 3, 1) := by decide +kernel
theorem d_Side_addBytesToTranscript_6 : decode b_Side_addBytesToTranscript 6 = .ok (.if_icmp .ge (34), 3) := by decide +kernel
theorem d_Side_addBytesToTranscript_9 : decode b_Side_addBytesToTranscript 9 = .ok (.iload 4, 2) := by decide +kernel
theorem d_Side_addBytesToTranscript_11 : decode b_Side_addBytesToTranscript 11 = .ok (.aload_n 1, 1) := by decide +kernel
theorem d_Side_addBytesToTranscript_12 : decode b_Side_addBytesToTranscript 12 = .ok (.arraylength, 1) := by decide +kernel
theorem d_Side_addBytesToTranscript_13 : decode b_Side_addBytesToTranscript 13 = .ok (.if_icmp .ge (27), 3) := by decide +kernel
theorem d_Side_addBytesToTranscript_16 : decode b_Side_addBytesToTranscript 16 = .ok (.aload_n 0, 1) := by decide +kernel
theorem d_Side_addBytesToTranscript_17 : decode b_Side_addBytesToTranscript 17 = .ok (.aload_n 0, 1) := by decide +kernel
theorem d_Side_addBytesToTranscript_18 : decode b_Side_addBytesToTranscript 18 = .ok (.getfield 64, 3) := by decide +kernel
theorem d_Side_addBytesToTranscript_21 : decode b_Side_addBytesToTranscript 21 = .ok (.bipush (31), 2) := by decide +kernel
theorem d_Side_addBytesToTranscript_23 : decode b_Side_addBytesToTranscript 23 = .ok (.imul, 1) := by decide +kernel
theorem d_Side_addBytesToTranscript_24 : decode b_Side_addBytesToTranscript 24 = .ok (.aload_n 1, 1) := by decide +kernel
theorem d_Side_addBytesToTranscript_25 : decode b_Side_addBytesToTranscript 25 = .ok (.iload 4, 2) := by decide +kernel
theorem d_Side_addBytesToTranscript_27 : decode b_Side_addBytesToTranscript 27 = .ok (.iaload, 1) := by decide +kernel
theorem d_Side_addBytesToTranscript_28 : decode b_Side_addBytesToTranscript 28 = .ok (.iadd, 1) := by decide +kernel
theorem d_Side_addBytesToTranscript_29 : decode b_Side_addBytesToTranscript 29 = .ok (.iconst (1), 1) := by decide +kernel
theorem d_Side_addBytesToTranscript_30 : decode b_Side_addBytesToTranscript 30 = .ok (.iadd, 1) := by decide +kernel
theorem d_Side_addBytesToTranscript_31 : decode b_Side_addBytesToTranscript 31 = .ok (.putfield 64, 3) := by decide +kernel
theorem d_Side_addBytesToTranscript_34 : decode b_Side_addBytesToTranscript 34 = .ok (.iinc 4 (1), 3) := by decide +kernel
theorem d_Side_addBytesToTranscript_37 : decode b_Side_addBytesToTranscript 37 = .ok (.goto (-34), 3) := by decide +kernel
theorem d_Side_addBytesToTranscript_40 : decode b_Side_addBytesToTranscript 40 = .ok (.return_, 1) := by decide +kernel
theorem d_Side_addToTranscript_0 : decode b_Side_addToTranscript 0 = .ok (.aload_n 0, 1) := by decide +kernel
theorem d_Side_addToTranscript_1 : decode b_Side_addToTranscript 1 = .ok (.aload_n 1, 1) := by decide +kernel
theorem d_Side_addToTranscript_2 : decode b_Side_addToTranscript 2 = .ok (.getfield 67, 3) := by decide +kernel
theorem d_Side_addToTranscript_5 : decode b_Side_addToTranscript 5 = .ok (.iconst (0), 1) := by decide +kernel
theorem d_Side_addToTranscript_6 : decode b_Side_addToTranscript 6 = .ok (.aload_n 1, 1) := by decide +kernel
theorem d_Side_addToTranscript_7 : decode b_Side_addToTranscript 7 = .ok (.getfield 67, 3) := by decide +kernel
theorem d_Side_addToTranscript_10 : decode b_Side_addToTranscript 10 = .ok (.arraylength, 1) := by decide +kernel
theorem d_Side_addToTranscript_11 : decode b_Side_addToTranscript 11 = .ok (.invokevirtual 72, 3) := by decide +kernel
theorem d_Side_addToTranscript_14 : decode b_Side_addToTranscript 14 = .ok (.return_, 1) := by decide +kernel
theorem d_Flight_begin_0 : decode b_Flight_begin 0 = .ok (.aload_n 0, 1) := by decide +kernel
theorem d_Flight_begin_1 : decode b_Flight_begin 1 = .ok (.iconst (0), 1) := by decide +kernel
theorem d_Flight_begin_2 : decode b_Flight_begin 2 = .ok (.putfield 18, 3) := by decide +kernel
theorem d_Flight_begin_5 : decode b_Flight_begin 5 = .ok (.aload_n 0, 1) := by decide +kernel
theorem d_Flight_begin_6 : decode b_Flight_begin 6 = .ok (.iconst (4), 1) := by decide +kernel
theorem d_Flight_begin_7 : decode b_Flight_begin 7 = .ok (.putfield 22, 3) := by decide +kernel
theorem d_Flight_begin_10 : decode b_Flight_begin 10 = .ok (.aload_n 0, 1) := by decide +kernel
theorem d_Flight_begin_11 : decode b_Flight_begin 11 = .ok (.iconst (4), 1) := by decide +kernel
theorem d_Flight_begin_12 : decode b_Flight_begin 12 = .ok (.putfield 25, 3) := by decide +kernel
theorem d_Flight_begin_15 : decode b_Flight_begin 15 = .ok (.aload_n 0, 1) := by decide +kernel
theorem d_Flight_begin_16 : decode b_Flight_begin 16 = .ok (.iconst (0), 1) := by decide +kernel
theorem d_Flight_begin_17 : decode b_Flight_begin 17 = .ok (.putfield 28, 3) := by decide +kernel
theorem d_Flight_begin_20 : decode b_Flight_begin 20 = .ok (.return_, 1) := by decide +kernel
theorem d_Frag_cutFrom_0 : decode b_Frag_cutFrom 0 = .ok (.aload_n 0, 1) := by decide +kernel
theorem d_Frag_cutFrom_1 : decode b_Frag_cutFrom 1 = .ok (.aload_n 1, 1) := by decide +kernel
theorem d_Frag_cutFrom_2 : decode b_Frag_cutFrom 2 = .ok (.getfield 18, 3) := by decide +kernel
theorem d_Frag_cutFrom_5 : decode b_Frag_cutFrom 5 = .ok (.putfield 24, 3) := by decide +kernel
theorem d_Frag_cutFrom_8 : decode b_Frag_cutFrom 8 = .ok (.aload_n 0, 1) := by decide +kernel
theorem d_Frag_cutFrom_9 : decode b_Frag_cutFrom 9 = .ok (.aload_n 1, 1) := by decide +kernel
theorem d_Frag_cutFrom_10 : decode b_Frag_cutFrom 10 = .ok (.getfield 27, 3) := by decide +kernel
theorem d_Frag_cutFrom_13 : decode b_Frag_cutFrom 13 = .ok (.putfield 30, 3) := by decide +kernel
theorem d_Frag_cutFrom_16 : decode b_Frag_cutFrom 16 = .ok (.aload_n 0, 1) := by decide +kernel
theorem d_Frag_cutFrom_17 : decode b_Frag_cutFrom 17 = .ok (.iload_n 2, 1) := by decide +kernel
theorem d_Frag_cutFrom_18 : decode b_Frag_cutFrom 18 = .ok (.putfield 31, 3) := by decide +kernel
theorem d_Frag_cutFrom_21 : decode b_Frag_cutFrom 21 = .ok (.aload_n 0, 1) := by decide +kernel
theorem d_Frag_cutFrom_22 : decode b_Frag_cutFrom 22 = .ok (.iload_n 3, 1) := by decide +kernel
theorem d_Frag_cutFrom_23 : decode b_Frag_cutFrom 23 = .ok (.aload_n 0, 1) := by decide +kernel
theorem d_Frag_cutFrom_24 : decode b_Frag_cutFrom 24 = .ok (.getfield 9, 3) := by decide +kernel
theorem d_Frag_cutFrom_27 : decode b_Frag_cutFrom 27 = .ok (.arraylength, 1) := by decide +kernel
theorem d_Frag_cutFrom_28 : decode b_Frag_cutFrom 28 = .ok (.invokestatic 34, 3) := by decide +kernel
theorem d_Frag_cutFrom_31 : decode b_Frag_cutFrom 31 = .ok (.aload_n 1, 1) := by decide +kernel
theorem d_Frag_cutFrom_32 : decode b_Frag_cutFrom 32 = .ok (.getfield 40, 3) := by decide +kernel
theorem d_Frag_cutFrom_35 : decode b_Frag_cutFrom 35 = .ok (.arraylength, 1) := by decide +kernel
theorem d_Frag_cutFrom_36 : decode b_Frag_cutFrom 36 = .ok (.iload_n 2, 1) := by decide +kernel
theorem d_Frag_cutFrom_37 : decode b_Frag_cutFrom 37 = .ok (.isub, 1) := by decide +kernel
theorem d_Frag_cutFrom_38 : decode b_Frag_cutFrom 38 = .ok (.invokestatic 34, 3) := by decide +kernel
theorem d_Frag_cutFrom_41 : decode b_Frag_cutFrom 41 = .ok (.putfield 41, 3) := by decide +kernel
theorem d_Frag_cutFrom_44 : decode b_Frag_cutFrom 44 = .ok (.iconst (0), 1) := by decide +kernel
theorem d_Frag_cutFrom_45 : decode b_Frag_cutFrom 45 = .ok (.istore 4, 2) := by decide +kernel
theorem d_Frag_cutFrom_47 : decode b_Frag_cutFrom 47 = .ok (.iload 4, 2) := by decide +kernel
theorem d_Frag_cutFrom_49 : decode b_Frag_cutFrom 49 = .ok (.aload_n 0, 1) := by decide +kernel
theorem d_Frag_cutFrom_50 : decode b_Frag_cutFrom 50 = .ok (.getfield 41, 3) := by decide +kernel
theorem d_Frag_cutFrom_53 : decode b_Frag_cutFrom 53 = .ok (.if_icmp .ge (25), 3) := by decide +kernel
theorem d_Frag_cutFrom_56 : decode b_Frag_cutFrom 56 = .ok (.aload_n 0, 1) := by decide +kernel
theorem d_Frag_cutFrom_57 : decode b_Frag_cutFrom 57 = .ok (.getfield 9, 3) := by decide +kernel
theorem d_Frag_cutFrom_60 : decode b_Frag_cutFrom 60 = .ok (.iload 4, 2) := by decide +kernel
theorem d_Frag_cutFrom_62 : decode b_Frag_cutFrom 62 = .ok (.aload_n 1, 1) := by decide +kernel
theorem d_Frag_cutFrom_63 : decode b_Frag_cutFrom 63 = .ok (.getfield 40, 3) := by decide +kernel
theorem d_Frag_cutFrom_66 : decode b_Frag_cutFrom 66 = .ok (.iload_n 2, 1) := by decide +kernel
theorem d_Frag_cutFrom_67 : decode b_Frag_cutFrom 67 = .ok (.iload 4, 2) := by decide +kernel
theorem d_Frag_cutFrom_69 : decode b_Frag_cutFrom 69 = .ok (.iadd, 1) := by decide +kernel
theorem d_Frag_cutFrom_70 : decode b_Frag_cutFrom 70 = .ok (.iaload, 1) := by decide +kernel
theorem d_Frag_cutFrom_71 : decode b_Frag_cutFrom 71 = .ok (.iastore, 1) := by decide +kernel
theorem d_Frag_cutFrom_72 : decode b_Frag_cutFrom 72 = .ok (.iinc 4 (1), 3) := by decide +kernel
theorem d_Frag_cutFrom_75 : decode b_Frag_cutFrom 75 = .ok (.goto (-28), 3) := by decide +kernel
theorem d_Frag_cutFrom_78 : decode b_Frag_cutFrom 78 = .ok (.aload_n 0, 1) := by decide +kernel
theorem d_Frag_cutFrom_79 : decode b_Frag_cutFrom 79 = .ok (.iconst (0), 1) := by decide +kernel
theorem d_Frag_cutFrom_80 : decode b_Frag_cutFrom 80 = .ok (.putfield 44, 3) := by decide +kernel
theorem d_Frag_cutFrom_83 : decode b_Frag_cutFrom 83 = .ok (.aload_n 0, 1) := by decide +kernel
theorem d_Frag_cutFrom_84 : decode b_Frag_cutFrom 84 = .ok (.iconst (1), 1) := by decide +kernel
theorem d_Frag_cutFrom_85 : decode b_Frag_cutFrom 85 = .ok (.putfield 47, 3) := by decide +kernel
theorem d_Frag_cutFrom_88 : decode b_Frag_cutFrom 88 = .ok (.return_, 1) := by decide +kernel
theorem d_Flight_add_0 : decode b_Flight_add 0 = .ok (.iconst (0), 1) := by decide +kernel
theorem d_Flight_add_1 : decode b_Flight_add 1 = .ok (.istore_n 3, 1) := by decide +kernel
theorem d_Flight_add_2 : decode b_Flight_add 2 = .ok (.iload_n 3, 1) := by decide +kernel
theorem d_Flight_add_3 : decode b_Flight_add 3 = .ok (.aload_n 1, 1) := by decide +kernel
theorem d_Flight_add_4 : decode b_Flight_add 4 = .ok (.getfield 31, 3) := by decide +kernel
theorem d_Flight_add_7 : decode b_Flight_add 7 = .ok (.arraylength, 1) := by decide +kernel
theorem d_Flight_add_8 : decode b_Flight_add 8 = .ok (.if_icmp .ge (47), 3) := by decide +kernel
theorem d_Flight_add_11 : decode b_Flight_add 11 = .ok (.aload_n 0, 1) := by decide +kernel
theorem d_Flight_add_12 : decode b_Flight_add 12 = .ok (.getfield 18, 3) := by decide +kernel
theorem d_Flight_add_15 : decode b_Flight_add 15 = .ok (.aload_n 0, 1) := by decide +kernel
theorem d_Flight_add_16 : decode b_Flight_add 16 = .ok (.getfield 11, 3) := by decide +kernel
theorem d_Flight_add_19 : decode b_Flight_add 19 = .ok (.arraylength, 1) := by decide +kernel
theorem d_Flight_add_20 : decode b_Flight_add 20 = .ok (.if_icmp .ge (35), 3) := by decide +kernel
theorem d_Flight_add_23 : decode b_Flight_add 23 = .ok (.aload_n 0, 1) := by decide +kernel
theorem d_Flight_add_24 : decode b_Flight_add 24 = .ok (.getfield 11, 3) := by decide +kernel
theorem d_Flight_add_27 : decode b_Flight_add 27 = .ok (.aload_n 0, 1) := by decide +kernel
theorem d_Flight_add_28 : decode b_Flight_add 28 = .ok (.getfield 18, 3) := by decide +kernel
theorem d_Flight_add_31 : decode b_Flight_add 31 = .ok (.aaload, 1) := by decide +kernel
theorem d_Flight_add_32 : decode b_Flight_add 32 = .ok (.aload_n 1, 1) := by decide +kernel
theorem d_Flight_add_33 : decode b_Flight_add 33 = .ok (.iload_n 3, 1) := by decide +kernel
theorem d_Flight_add_34 : decode b_Flight_add 34 = .ok (.iload_n 2, 1) := by decide +kernel
theorem d_Flight_add_35 : decode b_Flight_add 35 = .ok (.invokevirtual 37, 3) := by decide +kernel
theorem d_Flight_add_38 : decode b_Flight_add 38 = .ok (.aload_n 0, 1) := by decide +kernel
theorem d_Flight_add_39 : decode b_Flight_add 39 = .ok (.dup, 1) := by decide +kernel
theorem d_Flight_add_40 : decode b_Flight_add 40 = .ok (.getfield 18, 3) := by decide +kernel
theorem d_Flight_add_43 : decode b_Flight_add 43 = .ok (.iconst (1), 1) := by decide +kernel
theorem d_Flight_add_44 : decode b_Flight_add 44 = .ok (.iadd, 1) := by decide +kernel
theorem d_Flight_add_45 : decode b_Flight_add 45 = .ok (.putfield 18, 3) := by decide +kernel
theorem d_Flight_add_48 : decode b_Flight_add 48 = .ok (.iload_n 3, 1) := by decide +kernel
theorem d_Flight_add_49 : decode b_Flight_add 49 = .ok (.iload_n 2, 1) := by decide +kernel
theorem d_Flight_add_50 : decode b_Flight_add 50 = .ok (.iadd, 1) := by decide +kernel
theorem d_Flight_add_51 : decode b_Flight_add 51 = .ok (.istore_n 3, 1) := by decide +kernel
theorem d_Flight_add_52 : decode b_Flight_add 52 = .ok (.goto (-50), 3) := by decide +kernel
theorem d_Flight_add_55 : decode b_Flight_add 55 = .ok (.return_, 1) := by decide +kernel
theorem d_Side_takeNumber_0 : decode b_Side_takeNumber 0 = .ok (.aload_n 0, 1) := by decide +kernel
theorem d_Side_takeNumber_1 : decode b_Side_takeNumber 1 = .ok (.getfield 24, 3) := by decide +kernel
theorem d_Side_takeNumber_4 : decode b_Side_takeNumber 4 = .ok (.iload_n 1, 1) := by decide +kernel
theorem d_Side_takeNumber_5 : decode b_Side_takeNumber 5 = .ok (.iaload, 1) := by decide +kernel
theorem d_Side_takeNumber_6 : decode b_Side_takeNumber 6 = .ok (.istore_n 2, 1) := by decide +kernel
theorem d_Side_takeNumber_7 : decode b_Side_takeNumber 7 = .ok (.aload_n 0, 1) := by decide +kernel
theorem d_Side_takeNumber_8 : decode b_Side_takeNumber 8 = .ok (.getfield 24, 3) := by decide +kernel
theorem d_Side_takeNumber_11 : decode b_Side_takeNumber 11 = .ok (.iload_n 1, 1) := by decide +kernel
theorem d_Side_takeNumber_12 : decode b_Side_takeNumber 12 = .ok (.iload_n 2, 1) := by decide +kernel
theorem d_Side_takeNumber_13 : decode b_Side_takeNumber 13 = .ok (.iconst (1), 1) := by decide +kernel
theorem d_Side_takeNumber_14 : decode b_Side_takeNumber 14 = .ok (.iadd, 1) := by decide +kernel
theorem d_Side_takeNumber_15 : decode b_Side_takeNumber 15 = .ok (.iastore, 1) := by decide +kernel
theorem d_Side_takeNumber_16 : decode b_Side_takeNumber 16 = .ok (.iload_n 2, 1) := by decide +kernel
theorem d_Side_takeNumber_17 : decode b_Side_takeNumber 17 = .ok (.ireturn, 1) := by decide +kernel
theorem d_X_nameOf_0 : decode b_X_nameOf 0 = .ok (.iload_n 1, 1) := by decide +kernel
theorem d_X_nameOf_1 : decode b_X_nameOf 1 = .ok (.iconst (4), 1) := by decide +kernel
theorem d_X_nameOf_2 : decode b_X_nameOf 2 = .ok (.imul, 1) := by decide +kernel
theorem d_X_nameOf_3 : decode b_X_nameOf 3 = .ok (.iload_n 0, 1) := by decide +kernel
theorem d_X_nameOf_4 : decode b_X_nameOf 4 = .ok (.iadd, 1) := by decide +kernel
theorem d_X_nameOf_5 : decode b_X_nameOf 5 = .ok (.ireturn, 1) := by decide +kernel
theorem d_Frag_rememberSending_0 : decode b_Frag_rememberSending 0 = .ok (.aload_n 0, 1) := by decide +kernel
theorem d_Frag_rememberSending_1 : decode b_Frag_rememberSending 1 = .ok (.getfield 44, 3) := by decide +kernel
theorem d_Frag_rememberSending_4 : decode b_Frag_rememberSending 4 = .ok (.aload_n 0, 1) := by decide +kernel
theorem d_Frag_rememberSending_5 : decode b_Frag_rememberSending 5 = .ok (.getfield 15, 3) := by decide +kernel
theorem d_Frag_rememberSending_8 : decode b_Frag_rememberSending 8 = .ok (.arraylength, 1) := by decide +kernel
theorem d_Frag_rememberSending_9 : decode b_Frag_rememberSending 9 = .ok (.if_icmp .ge (30), 3) := by decide +kernel
theorem d_Frag_rememberSending_12 : decode b_Frag_rememberSending 12 = .ok (.aload_n 0, 1) := by decide +kernel
theorem d_Frag_rememberSending_13 : decode b_Frag_rememberSending 13 = .ok (.getfield 15, 3) := by decide +kernel
theorem d_Frag_rememberSending_16 : decode b_Frag_rememberSending 16 = .ok (.aload_n 0, 1) := by decide +kernel
theorem d_Frag_rememberSending_17 : decode b_Frag_rememberSending 17 = .ok (.getfield 44, 3) := by decide +kernel
theorem d_Frag_rememberSending_20 : decode b_Frag_rememberSending 20 = .ok (.aload_n 0, 1) := by decide +kernel
theorem d_Frag_rememberSending_21 : decode b_Frag_rememberSending 21 = .ok (.getfield 30, 3) := by decide +kernel
theorem d_Frag_rememberSending_24 : decode b_Frag_rememberSending 24 = .ok (.iload_n 1, 1) := by decide +kernel
theorem d_Frag_rememberSending_25 : decode b_Frag_rememberSending 25 = .ok (.invokestatic 51, 3) := by decide +kernel
theorem d_Frag_rememberSending_28 : decode b_Frag_rememberSending 28 = .ok (.iastore, 1) := by decide +kernel
theorem d_Frag_rememberSending_29 : decode b_Frag_rememberSending 29 = .ok (.aload_n 0, 1) := by decide +kernel
theorem d_Frag_rememberSending_30 : decode b_Frag_rememberSending 30 = .ok (.dup, 1) := by decide +kernel
theorem d_Frag_rememberSending_31 : decode b_Frag_rememberSending 31 = .ok (.getfield 44, 3) := by decide +kernel
theorem d_Frag_rememberSending_34 : decode b_Frag_rememberSending 34 = .ok (.iconst (1), 1) := by decide +kernel
theorem d_Frag_rememberSending_35 : decode b_Frag_rememberSending 35 = .ok (.iadd, 1) := by decide +kernel
theorem d_Frag_rememberSending_36 : decode b_Frag_rememberSending 36 = .ok (.putfield 44, 3) := by decide +kernel
theorem d_Frag_rememberSending_39 : decode b_Frag_rememberSending 39 = .ok (.return_, 1) := by decide +kernel
theorem d_Rec_address_0 : decode b_Rec_address 0 = .ok (.aload_n 0, 1) := by decide +kernel
theorem d_Rec_address_1 : decode b_Rec_address 1 = .ok (.iload_n 1, 1) := by decide +kernel
theorem d_Rec_address_2 : decode b_Rec_address 2 = .ok (.putfield 15, 3) := by decide +kernel
theorem d_Rec_address_5 : decode b_Rec_address 5 = .ok (.aload_n 0, 1) := by decide +kernel
theorem d_Rec_address_6 : decode b_Rec_address 6 = .ok (.iload_n 2, 1) := by decide +kernel
theorem d_Rec_address_7 : decode b_Rec_address 7 = .ok (.putfield 19, 3) := by decide +kernel
theorem d_Rec_address_10 : decode b_Rec_address 10 = .ok (.aload_n 0, 1) := by decide +kernel
theorem d_Rec_address_11 : decode b_Rec_address 11 = .ok (.iload_n 3, 1) := by decide +kernel
theorem d_Rec_address_12 : decode b_Rec_address 12 = .ok (.putfield 22, 3) := by decide +kernel
theorem d_Rec_address_15 : decode b_Rec_address 15 = .ok (.aload_n 0, 1) := by decide +kernel
theorem d_Rec_address_16 : decode b_Rec_address 16 = .ok (.iload 4, 2) := by decide +kernel
theorem d_Rec_address_18 : decode b_Rec_address 18 = .ok (.putfield 25, 3) := by decide +kernel
theorem d_Rec_address_21 : decode b_Rec_address 21 = .ok (.aload_n 0, 1) := by decide +kernel
theorem d_Rec_address_22 : decode b_Rec_address 22 = .ok (.iconst (0), 1) := by decide +kernel
theorem d_Rec_address_23 : decode b_Rec_address 23 = .ok (.putfield 28, 3) := by decide +kernel
theorem d_Rec_address_26 : decode b_Rec_address 26 = .ok (.aload_n 0, 1) := by decide +kernel
theorem d_Rec_address_27 : decode b_Rec_address 27 = .ok (.iconst (0), 1) := by decide +kernel
theorem d_Rec_address_28 : decode b_Rec_address 28 = .ok (.putfield 31, 3) := by decide +kernel
theorem d_Rec_address_31 : decode b_Rec_address 31 = .ok (.aload_n 0, 1) := by decide +kernel
theorem d_Rec_address_32 : decode b_Rec_address 32 = .ok (.iconst (0), 1) := by decide +kernel
theorem d_Rec_address_33 : decode b_Rec_address 33 = .ok (.putfield 34, 3) := by decide +kernel
theorem d_Rec_address_36 : decode b_Rec_address 36 = .ok (.aload_n 0, 1) := by decide +kernel
theorem d_Rec_address_37 : decode b_Rec_address 37 = .ok (.iconst (0), 1) := by decide +kernel
theorem d_Rec_address_38 : decode b_Rec_address 38 = .ok (.putfield 37, 3) := by decide +kernel
theorem d_Rec_address_41 : decode b_Rec_address 41 = .ok (.return_, 1) := by decide +kernel
theorem d_Net_append_0 : decode b_Net_append 0 = .ok (.aload_n 0, 1) := by decide +kernel
theorem d_Net_append_1 : decode b_Net_append 1 = .ok (.dup, 1) := by decide +kernel
theorem d_Net_append_2 : decode b_Net_append 2 = .ok (.getfield 29, 3) := by decide +kernel
theorem d_Net_append_5 : decode b_Net_append 5 = .ok (.iconst (1), 1) := by decide +kernel
theorem d_Net_append_6 : decode b_Net_append 6 = .ok (.iadd, 1) := by decide +kernel
theorem d_Net_append_7 : decode b_Net_append 7 = .ok (.putfield 29, 3) := by decide +kernel
theorem d_Net_append_10 : decode b_Net_append 10 = .ok (.aload_n 0, 1) := by decide +kernel
theorem d_Net_append_11 : decode b_Net_append 11 = .ok (.getfield 22, 3) := by decide +kernel
theorem d_Net_append_14 : decode b_Net_append 14 = .ok (.astore 5, 2) := by decide +kernel
theorem d_Net_append_16 : decode b_Net_append 16 = .ok (.aload_n 0, 1) := by decide +kernel
theorem d_Net_append_17 : decode b_Net_append 17 = .ok (.getfield 25, 3) := by decide +kernel
theorem d_Net_append_20 : decode b_Net_append 20 = .ok (.aload_n 0, 1) := by decide +kernel
theorem d_Net_append_21 : decode b_Net_append 21 = .ok (.getfield 11, 3) := by decide +kernel
theorem d_Net_append_24 : decode b_Net_append 24 = .ok (.arraylength, 1) := by decide +kernel
theorem d_Net_append_25 : decode b_Net_append 25 = .ok (.if_icmp .ge (27), 3) := by decide +kernel
theorem d_Net_append_28 : decode b_Net_append 28 = .ok (.aload_n 0, 1) := by decide +kernel
theorem d_Net_append_29 : decode b_Net_append 29 = .ok (.getfield 11, 3) := by decide +kernel
theorem d_Net_append_32 : decode b_Net_append 32 = .ok (.aload_n 0, 1) := by decide +kernel
theorem d_Net_append_33 : decode b_Net_append 33 = .ok (.getfield 25, 3) := by decide +kernel
theorem d_Net_append_36 : decode b_Net_append 36 = .ok (.aaload, 1) := by decide +kernel
theorem d_Net_append_37 : decode b_Net_append 37 = .ok (.astore 5, 2) := by decide +kernel
theorem d_Net_append_39 : decode b_Net_append 39 = .ok (.aload_n 0, 1) := by decide +kernel
theorem d_Net_append_40 : decode b_Net_append 40 = .ok (.dup, 1) := by decide +kernel
theorem d_Net_append_41 : decode b_Net_append 41 = .ok (.getfield 25, 3) := by decide +kernel
theorem d_Net_append_44 : decode b_Net_append 44 = .ok (.iconst (1), 1) := by decide +kernel
theorem d_Net_append_45 : decode b_Net_append 45 = .ok (.iadd, 1) := by decide +kernel
theorem d_Net_append_46 : decode b_Net_append 46 = .ok (.putfield 25, 3) := by decide +kernel
theorem d_Net_append_49 : decode b_Net_append 49 = .ok (.goto (13), 3) := by decide +kernel
theorem d_Net_append_52 : decode b_Net_append 52 = .ok (.aload_n 0, 1) := by decide +kernel
theorem d_Net_append_53 : decode b_Net_append 53 = .ok (.dup, 1) := by decide +kernel
theorem d_Net_append_54 : decode b_Net_append 54 = .ok (.getfield 32, 3) := by decide +kernel
theorem d_Net_append_57 : decode b_Net_append 57 = .ok (.iconst (1), 1) := by decide +kernel
theorem d_Net_append_58 : decode b_Net_append 58 = .ok (.iadd, 1) := by decide +kernel
theorem d_Net_append_59 : decode b_Net_append 59 = .ok (.putfield 32, 3) := by decide +kernel
theorem d_Net_append_62 : decode b_Net_append 62 = .ok (.aload 5, 2) := by decide +kernel
theorem d_Net_append_64 : decode b_Net_append 64 = .ok (.iload_n 1, 1) := by decide +kernel
theorem d_Net_append_65 : decode b_Net_append 65 = .ok (.iload_n 2, 1) := by decide +kernel
theorem d_Net_append_66 : decode b_Net_append 66 = .ok (.iload_n 3, 1) := by decide +kernel
theorem d_Net_append_67 : decode b_Net_append 67 = .ok (.iload 4, 2) := by decide +kernel
theorem d_Net_append_69 : decode b_Net_append 69 = .ok (.invokevirtual 35, 3) := by decide +kernel
theorem d_Net_append_72 : decode b_Net_append 72 = .ok (.aload 5, 2) := by decide +kernel
theorem d_Net_append_74 : decode b_Net_append 74 = .ok (.areturn, 1) := by decide +kernel
theorem d_Rec_markAsPiece_0 : decode b_Rec_markAsPiece 0 = .ok (.aload_n 0, 1) := by decide +kernel
theorem d_Rec_markAsPiece_1 : decode b_Rec_markAsPiece 1 = .ok (.iload_n 1, 1) := by decide +kernel
theorem d_Rec_markAsPiece_2 : decode b_Rec_markAsPiece 2 = .ok (.putfield 28, 3) := by decide +kernel
theorem d_Rec_markAsPiece_5 : decode b_Rec_markAsPiece 5 = .ok (.aload_n 0, 1) := by decide +kernel
theorem d_Rec_markAsPiece_6 : decode b_Rec_markAsPiece 6 = .ok (.iload_n 2, 1) := by decide +kernel
theorem d_Rec_markAsPiece_7 : decode b_Rec_markAsPiece 7 = .ok (.putfield 31, 3) := by decide +kernel
theorem d_Rec_markAsPiece_10 : decode b_Rec_markAsPiece 10 = .ok (.return_, 1) := by decide +kernel
theorem d_Rec_hold_0 : decode b_Rec_hold 0 = .ok (.aload_n 0, 1) := by decide +kernel
theorem d_Rec_hold_1 : decode b_Rec_hold 1 = .ok (.iload_n 2, 1) := by decide +kernel
theorem d_Rec_hold_2 : decode b_Rec_hold 2 = .ok (.aload_n 1, 1) := by decide +kernel
theorem d_Rec_hold_3 : decode b_Rec_hold 3 = .ok (.arraylength, 1) := by decide +kernel
theorem d_Rec_hold_4 : decode b_Rec_hold 4 = .ok (.invokestatic 41, 3) := by decide +kernel
theorem d_Rec_hold_7 : decode b_Rec_hold 7 = .ok (.aload_n 0, 1) := by decide +kernel
theorem d_Rec_hold_8 : decode b_Rec_hold 8 = .ok (.getfield 9, 3) := by decide +kernel
theorem d_Rec_hold_11 : decode b_Rec_hold 11 = .ok (.arraylength, 1) := by decide +kernel
theorem d_Rec_hold_12 : decode b_Rec_hold 12 = .ok (.invokestatic 41, 3) := by decide +kernel
theorem d_Rec_hold_15 : decode b_Rec_hold 15 = .ok (.putfield 34, 3) := by decide +kernel
theorem d_Rec_hold_18 : decode b_Rec_hold 18 = .ok (.iconst (0), 1) := by decide +kernel
theorem d_Rec_hold_19 : decode b_Rec_hold 19 = .ok (.istore_n 3, 1) := by decide +kernel
theorem d_Rec_hold_20 : decode b_Rec_hold 20 = .ok (.iload_n 3, 1) := by decide +kernel
theorem d_Rec_hold_21 : decode b_Rec_hold 21 = .ok (.aload_n 0, 1) := by decide +kernel
theorem d_Rec_hold_22 : decode b_Rec_hold 22 = .ok (.getfield 34, 3) := by decide +kernel
theorem d_Rec_hold_25 : decode b_Rec_hold 25 = .ok (.if_icmp .ge (18), 3) := by decide +kernel
theorem d_Rec_hold_28 : decode b_Rec_hold 28 = .ok (.aload_n 0, 1) := by decide +kernel
