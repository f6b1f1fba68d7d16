theorem d_X_sideOf_15 : decode b_X_sideOf 15 = .ok (.areturn, 1) := by decide +kernel
theorem d_X_send_0 : decode b_X_send 0 = .ok (.iload_n 1, 1) := by decide +kernel
theorem d_X_send_1 : decode b_X_send 1 = .ok (.invokestatic 55, 3) := by decide +kernel
theorem d_X_send_4 : decode b_X_send 4 = .ok (.ifCond .eq (19), 3) := by decide +kernel
theorem d_X_send_7 : decode b_X_send 7 = .ok (.aload_n 0, 1) := by decide +kernel
theorem d_X_send_8 : decode b_X_send 8 = .ok (.iload_n 1, 1) := by decide +kernel
theorem d_X_send_9 : decode b_X_send 9 = .ok (.invokevirtual 59, 3) := by decide +kernel
theorem d_X_send_12 : decode b_X_send 12 = .ok (.iload_n 2, 1) := by decide +kernel
theorem d_X_send_13 : decode b_X_send 13 = .ok (.invokevirtual 63, 3) := by decide +kernel
theorem d_X_send_16 : decode b_X_send 16 = .ok (.ifCond .eq (7), 3) := by decide +kernel
theorem d_X_send_19 : decode b_X_send 19 = .ok (.iconst (1), 1) := by decide +kernel
theorem d_X_send_20 : decode b_X_send 20 = .ok (.goto (4), 3) := by decide +kernel
theorem d_X_send_23 : decode b_X_send 23 = .ok (.iconst (0), 1) := by decide +kernel
theorem d_X_send_24 : decode b_X_send 24 = .ok (.ireturn, 1) := by decide +kernel
theorem d_X_deliver_0 : decode b_X_deliver 0 = .ok (.aload_n 0, 1) := by decide +kernel
theorem d_X_deliver_1 : decode b_X_deliver 1 = .ok (.getfield 21, 3) := by decide +kernel
theorem d_X_deliver_4 : decode b_X_deliver 4 = .ok (.iload_n 1, 1) := by decide +kernel
theorem d_X_deliver_5 : decode b_X_deliver 5 = .ok (.invokevirtual 68, 3) := by decide +kernel
theorem d_X_deliver_8 : decode b_X_deliver 8 = .ok (.ifCond .ne (5), 3) := by decide +kernel
theorem d_X_deliver_11 : decode b_X_deliver 11 = .ok (.iconst (-1), 1) := by decide +kernel
theorem d_X_deliver_12 : decode b_X_deliver 12 = .ok (.ireturn, 1) := by decide +kernel
theorem d_X_deliver_13 : decode b_X_deliver 13 = .ok (.aload_n 0, 1) := by decide +kernel
theorem d_X_deliver_14 : decode b_X_deliver 14 = .ok (.getfield 21, 3) := by decide +kernel
theorem d_X_deliver_17 : decode b_X_deliver 17 = .ok (.iload_n 1, 1) := by decide +kernel
theorem d_X_deliver_18 : decode b_X_deliver 18 = .ok (.invokevirtual 71, 3) := by decide +kernel
theorem d_X_deliver_21 : decode b_X_deliver 21 = .ok (.astore_n 2, 1) := by decide +kernel
theorem d_X_deliver_22 : decode b_X_deliver 22 = .ok (.aload_n 2, 1) := by decide +kernel
theorem d_X_deliver_23 : decode b_X_deliver 23 = .ok (.getfield 75, 3) := by decide +kernel
theorem d_X_deliver_26 : decode b_X_deliver 26 = .ok (.ifCond .ne (10), 3) := by decide +kernel
theorem d_X_deliver_29 : decode b_X_deliver 29 = .ok (.aload_n 0, 1) := by decide +kernel
theorem d_X_deliver_30 : decode b_X_deliver 30 = .ok (.getfield 37, 3) := by decide +kernel
theorem d_X_deliver_33 : decode b_X_deliver 33 = .ok (.goto (7), 3) := by decide +kernel
theorem d_X_deliver_36 : decode b_X_deliver 36 = .ok (.aload_n 0, 1) := by decide +kernel
theorem d_X_deliver_37 : decode b_X_deliver 37 = .ok (.getfield 30, 3) := by decide +kernel
theorem d_X_deliver_40 : decode b_X_deliver 40 = .ok (.astore_n 3, 1) := by decide +kernel
theorem d_X_deliver_41 : decode b_X_deliver 41 = .ok (.aload_n 3, 1) := by decide +kernel
theorem d_X_deliver_42 : decode b_X_deliver 42 = .ok (.aload_n 2, 1) := by decide +kernel
theorem d_X_deliver_43 : decode b_X_deliver 43 = .ok (.invokevirtual 80, 3) := by decide +kernel
theorem d_X_deliver_46 : decode b_X_deliver 46 = .ok (.ifCond .eq (7), 3) := by decide +kernel
theorem d_X_deliver_49 : decode b_X_deliver 49 = .ok (.iconst (1), 1) := by decide +kernel
theorem d_X_deliver_50 : decode b_X_deliver 50 = .ok (.goto (4), 3) := by decide +kernel
theorem d_X_deliver_53 : decode b_X_deliver 53 = .ok (.iconst (0), 1) := by decide +kernel
theorem d_X_deliver_54 : decode b_X_deliver 54 = .ok (.ireturn, 1) := by decide +kernel
theorem d_X_drop_0 : decode b_X_drop 0 = .ok (.aload_n 0, 1) := by decide +kernel
theorem d_X_drop_1 : decode b_X_drop 1 = .ok (.getfield 21, 3) := by decide +kernel
theorem d_X_drop_4 : decode b_X_drop 4 = .ok (.iload_n 1, 1) := by decide +kernel
theorem d_X_drop_5 : decode b_X_drop 5 = .ok (.invokevirtual 68, 3) := by decide +kernel
theorem d_X_drop_8 : decode b_X_drop 8 = .ok (.ifCond .ne (5), 3) := by decide +kernel
theorem d_X_drop_11 : decode b_X_drop 11 = .ok (.iconst (0), 1) := by decide +kernel
theorem d_X_drop_12 : decode b_X_drop 12 = .ok (.ireturn, 1) := by decide +kernel
theorem d_X_drop_13 : decode b_X_drop 13 = .ok (.aload_n 0, 1) := by decide +kernel
theorem d_X_drop_14 : decode b_X_drop 14 = .ok (.getfield 21, 3) := by decide +kernel
theorem d_X_drop_17 : decode b_X_drop 17 = .ok (.iload_n 1, 1) := by decide +kernel
theorem d_X_drop_18 : decode b_X_drop 18 = .ok (.invokevirtual 71, 3) := by decide +kernel
theorem d_X_drop_21 : decode b_X_drop 21 = .ok (.pop, 1) := by decide +kernel
theorem d_X_drop_22 : decode b_X_drop 22 = .ok (.iconst (1), 1) := by decide +kernel
theorem d_X_drop_23 : decode b_X_drop 23 = .ok (.ireturn, 1) := by decide +kernel
theorem d_X_copy_0 : decode b_X_copy 0 = .ok (.aload_n 0, 1) := by decide +kernel
theorem d_X_copy_1 : decode b_X_copy 1 = .ok (.getfield 21, 3) := by decide +kernel
theorem d_X_copy_4 : decode b_X_copy 4 = .ok (.iload_n 1, 1) := by decide +kernel
theorem d_X_copy_5 : decode b_X_copy 5 = .ok (.invokevirtual 68, 3) := by decide +kernel
theorem d_X_copy_8 : decode b_X_copy 8 = .ok (.ifCond .eq (18), 3) := by decide +kernel
theorem d_X_copy_11 : decode b_X_copy 11 = .ok (.aload_n 0, 1) := by decide +kernel
theorem d_X_copy_12 : decode b_X_copy 12 = .ok (.getfield 21, 3) := by decide +kernel
theorem d_X_copy_15 : decode b_X_copy 15 = .ok (.iload_n 1, 1) := by decide +kernel
theorem d_X_copy_16 : decode b_X_copy 16 = .ok (.invokevirtual 84, 3) := by decide +kernel
theorem d_X_copy_19 : decode b_X_copy 19 = .ok (.ifCond .eq (7), 3) := by decide +kernel
theorem d_X_copy_22 : decode b_X_copy 22 = .ok (.iconst (1), 1) := by decide +kernel
theorem d_X_copy_23 : decode b_X_copy 23 = .ok (.goto (4), 3) := by decide +kernel
theorem d_X_copy_26 : decode b_X_copy 26 = .ok (.iconst (0), 1) := by decide +kernel
theorem d_X_copy_27 : decode b_X_copy 27 = .ok (.ireturn, 1) := by decide +kernel
theorem d_X_spoil_0 : decode b_X_spoil 0 = .ok (.aload_n 0, 1) := by decide +kernel
theorem d_X_spoil_1 : decode b_X_spoil 1 = .ok (.getfield 21, 3) := by decide +kernel
theorem d_X_spoil_4 : decode b_X_spoil 4 = .ok (.iload_n 1, 1) := by decide +kernel
theorem d_X_spoil_5 : decode b_X_spoil 5 = .ok (.invokevirtual 68, 3) := by decide +kernel
theorem d_X_spoil_8 : decode b_X_spoil 8 = .ok (.ifCond .ne (5), 3) := by decide +kernel
theorem d_X_spoil_11 : decode b_X_spoil 11 = .ok (.iconst (0), 1) := by decide +kernel
theorem d_X_spoil_12 : decode b_X_spoil 12 = .ok (.ireturn, 1) := by decide +kernel
theorem d_X_spoil_13 : decode b_X_spoil 13 = .ok (.aload_n 0, 1) := by decide +kernel
theorem d_X_spoil_14 : decode b_X_spoil 14 = .ok (.getfield 21, 3) := by decide +kernel
theorem d_X_spoil_17 : decode b_X_spoil 17 = .ok (.getfield 87, 3) := by decide +kernel
theorem d_X_spoil_20 : decode b_X_spoil 20 = .ok (.iload_n 1, 1) := by decide +kernel
theorem d_X_spoil_21 : decode b_X_spoil 21 = .ok (.aaload, 1) := by decide +kernel
theorem d_X_spoil_22 : decode b_X_spoil 22 = .ok (.iconst (1), 1) := by decide +kernel
theorem d_X_spoil_23 : decode b_X_spoil 23 = .ok (.putfield 91, 3) := by decide +kernel
theorem d_X_spoil_26 : decode b_X_spoil 26 = .ok (.iconst (1), 1) := by decide +kernel
theorem d_X_spoil_27 : decode b_X_spoil 27 = .ok (.ireturn, 1) := by decide +kernel
theorem d_X_waiting_0 : decode b_X_waiting 0 = .ok (.aload_n 0, 1) := by decide +kernel
theorem d_X_waiting_1 : decode b_X_waiting 1 = .ok (.getfield 21, 3) := by decide +kernel
theorem d_X_waiting_4 : decode b_X_waiting 4 = .ok (.getfield 95, 3) := by decide +kernel
theorem d_X_waiting_7 : decode b_X_waiting 7 = .ok (.ireturn, 1) := by decide +kernel
theorem d_X_lost_0 : decode b_X_lost 0 = .ok (.aload_n 0, 1) := by decide +kernel
theorem d_X_lost_1 : decode b_X_lost 1 = .ok (.getfield 21, 3) := by decide +kernel
theorem d_X_lost_4 : decode b_X_lost 4 = .ok (.getfield 98, 3) := by decide +kernel
theorem d_X_lost_7 : decode b_X_lost 7 = .ok (.ireturn, 1) := by decide +kernel
theorem d_X_record_0 : decode b_X_record 0 = .ok (.aload_n 0, 1) := by decide +kernel
theorem d_X_record_1 : decode b_X_record 1 = .ok (.getfield 21, 3) := by decide +kernel
theorem d_X_record_4 : decode b_X_record 4 = .ok (.iload_n 1, 1) := by decide +kernel
theorem d_X_record_5 : decode b_X_record 5 = .ok (.invokevirtual 68, 3) := by decide +kernel
theorem d_X_record_8 : decode b_X_record 8 = .ok (.ifCond .eq (18), 3) := by decide +kernel
theorem d_X_record_11 : decode b_X_record 11 = .ok (.aload_n 0, 1) := by decide +kernel
theorem d_X_record_12 : decode b_X_record 12 = .ok (.getfield 21, 3) := by decide +kernel
theorem d_X_record_15 : decode b_X_record 15 = .ok (.getfield 87, 3) := by decide +kernel
theorem d_X_record_18 : decode b_X_record 18 = .ok (.iload_n 1, 1) := by decide +kernel
theorem d_X_record_19 : decode b_X_record 19 = .ok (.aaload, 1) := by decide +kernel
theorem d_X_record_20 : decode b_X_record 20 = .ok (.invokevirtual 101, 3) := by decide +kernel
theorem d_X_record_23 : decode b_X_record 23 = .ok (.goto (4), 3) := by decide +kernel
theorem d_X_record_26 : decode b_X_record 26 = .ok (.iconst (-1), 1) := by decide +kernel
theorem d_X_record_27 : decode b_X_record 27 = .ok (.ireturn, 1) := by decide +kernel
theorem d_X_content_0 : decode b_X_content 0 = .ok (.aload_n 0, 1) := by decide +kernel
theorem d_X_content_1 : decode b_X_content 1 = .ok (.getfield 21, 3) := by decide +kernel
theorem d_X_content_4 : decode b_X_content 4 = .ok (.iload_n 1, 1) := by decide +kernel
theorem d_X_content_5 : decode b_X_content 5 = .ok (.invokevirtual 68, 3) := by decide +kernel
theorem d_X_content_8 : decode b_X_content 8 = .ok (.ifCond .eq (18), 3) := by decide +kernel
theorem d_X_content_11 : decode b_X_content 11 = .ok (.aload_n 0, 1) := by decide +kernel
theorem d_X_content_12 : decode b_X_content 12 = .ok (.getfield 21, 3) := by decide +kernel
theorem d_X_content_15 : decode b_X_content 15 = .ok (.getfield 87, 3) := by decide +kernel
theorem d_X_content_18 : decode b_X_content 18 = .ok (.iload_n 1, 1) := by decide +kernel
theorem d_X_content_19 : decode b_X_content 19 = .ok (.aaload, 1) := by decide +kernel
theorem d_X_content_20 : decode b_X_content 20 = .ok (.invokevirtual 105, 3) := by decide +kernel
theorem d_X_content_23 : decode b_X_content 23 = .ok (.goto (4), 3) := by decide +kernel
theorem d_X_content_26 : decode b_X_content 26 = .ok (.iconst (-1), 1) := by decide +kernel
theorem d_X_content_27 : decode b_X_content 27 = .ok (.ireturn, 1) := by decide +kernel
theorem d_X_byteOf_0 : decode b_X_byteOf 0 = .ok (.aload_n 0, 1) := by decide +kernel
theorem d_X_byteOf_1 : decode b_X_byteOf 1 = .ok (.getfield 21, 3) := by decide +kernel
theorem d_X_byteOf_4 : decode b_X_byteOf 4 = .ok (.iload_n 1, 1) := by decide +kernel
theorem d_X_byteOf_5 : decode b_X_byteOf 5 = .ok (.invokevirtual 68, 3) := by decide +kernel
theorem d_X_byteOf_8 : decode b_X_byteOf 8 = .ok (.ifCond .eq (19), 3) := by decide +kernel
theorem d_X_byteOf_11 : decode b_X_byteOf 11 = .ok (.aload_n 0, 1) := by decide +kernel
theorem d_X_byteOf_12 : decode b_X_byteOf 12 = .ok (.getfield 21, 3) := by decide +kernel
theorem d_X_byteOf_15 : decode b_X_byteOf 15 = .ok (.getfield 87, 3) := by decide +kernel
theorem d_X_byteOf_18 : decode b_X_byteOf 18 = .ok (.iload_n 1, 1) := by decide +kernel
theorem d_X_byteOf_19 : decode b_X_byteOf 19 = .ok (.aaload, 1) := by decide +kernel
theorem d_X_byteOf_20 : decode b_X_byteOf 20 = .ok (.iload_n 2, 1) := by decide +kernel
theorem d_X_byteOf_21 : decode b_X_byteOf 21 = .ok (.invokevirtual 108, 3) := by decide +kernel
theorem d_X_byteOf_24 : decode b_X_byteOf 24 = .ok (.goto (4), 3) := by decide +kernel
theorem d_X_byteOf_27 : decode b_X_byteOf 27 = .ok (.iconst (-1), 1) := by decide +kernel
theorem d_X_byteOf_28 : decode b_X_byteOf 28 = .ok (.ireturn, 1) := by decide +kernel
theorem d_X_state_0 : decode b_X_state 0 = .ok (.iload_n 1, 1) := by decide +kernel
theorem d_X_state_1 : decode b_X_state 1 = .ok (.invokestatic 55, 3) := by decide +kernel
theorem d_X_state_4 : decode b_X_state 4 = .ok (.ifCond .eq (14), 3) := by decide +kernel
theorem d_X_state_7 : decode b_X_state 7 = .ok (.aload_n 0, 1) := by decide +kernel
theorem d_X_state_8 : decode b_X_state 8 = .ok (.iload_n 1, 1) := by decide +kernel
theorem d_X_state_9 : decode b_X_state 9 = .ok (.invokevirtual 59, 3) := by decide +kernel
theorem d_X_state_12 : decode b_X_state 12 = .ok (.getfield 112, 3) := by decide +kernel
theorem d_X_state_15 : decode b_X_state 15 = .ok (.goto (4), 3) := by decide +kernel
theorem d_X_state_18 : decode b_X_state 18 = .ok (.iconst (-1), 1) := by decide +kernel
theorem d_X_state_19 : decode b_X_state 19 = .ok (.ireturn, 1) := by decide +kernel
theorem d_X_transcript_0 : decode b_X_transcript 0 = .ok (.iload_n 1, 1) := by decide +kernel
theorem d_X_transcript_1 : decode b_X_transcript 1 = .ok (.invokestatic 55, 3) := by decide +kernel
theorem d_X_transcript_4 : decode b_X_transcript 4 = .ok (.ifCond .eq (14), 3) := by decide +kernel
theorem d_X_transcript_7 : decode b_X_transcript 7 = .ok (.aload_n 0, 1) := by decide +kernel
theorem d_X_transcript_8 : decode b_X_transcript 8 = .ok (.iload_n 1, 1) := by decide +kernel
theorem d_X_transcript_9 : decode b_X_transcript 9 = .ok (.invokevirtual 59, 3) := by decide +kernel
theorem d_X_transcript_12 : decode b_X_transcript 12 = .ok (.getfield 113, 3) := by decide +kernel
theorem d_X_transcript_15 : decode b_X_transcript 15 = .ok (.goto (4), 3) := by decide +kernel
theorem d_X_transcript_18 : decode b_X_transcript 18 = .ok (.iconst (0), 1) := by decide +kernel
theorem d_X_transcript_19 : decode b_X_transcript 19 = .ok (.ireturn, 1) := by decide +kernel
theorem d_X_open_0 : decode b_X_open 0 = .ok (.iload_n 1, 1) := by decide +kernel
theorem d_X_open_1 : decode b_X_open 1 = .ok (.invokestatic 55, 3) := by decide +kernel
theorem d_X_open_4 : decode b_X_open 4 = .ok (.ifCond .eq (17), 3) := by decide +kernel
theorem d_X_open_7 : decode b_X_open 7 = .ok (.aload_n 0, 1) := by decide +kernel
theorem d_X_open_8 : decode b_X_open 8 = .ok (.iload_n 1, 1) := by decide +kernel
theorem d_X_open_9 : decode b_X_open 9 = .ok (.invokevirtual 59, 3) := by decide +kernel
theorem d_X_open_12 : decode b_X_open 12 = .ok (.getfield 116, 3) := by decide +kernel
theorem d_X_open_15 : decode b_X_open 15 = .ok (.invokevirtual 120, 3) := by decide +kernel
theorem d_X_open_18 : decode b_X_open 18 = .ok (.goto (4), 3) := by decide +kernel
theorem d_X_open_21 : decode b_X_open 21 = .ok (.iconst (-1), 1) := by decide +kernel
theorem d_X_open_22 : decode b_X_open 22 = .ok (.ireturn, 1) := by decide +kernel
theorem d_X_kept_0 : decode b_X_kept 0 = .ok (.iload_n 1, 1) := by decide +kernel
theorem d_X_kept_1 : decode b_X_kept 1 = .ok (.invokestatic 55, 3) := by decide +kernel
theorem d_X_kept_4 : decode b_X_kept 4 = .ok (.ifCond .ne (5), 3) := by decide +kernel
theorem d_X_kept_7 : decode b_X_kept 7 = .ok (.iconst (-1), 1) := by decide +kernel
theorem d_X_kept_8 : decode b_X_kept 8 = .ok (.ireturn, 1) := by decide +kernel
theorem d_X_kept_9 : decode b_X_kept 9 = .ok (.iload_n 1, 1) := by decide +kernel
theorem d_X_kept_10 : decode b_X_kept 10 = .ok (.ifCond .ne (16), 3) := by decide +kernel
theorem d_X_kept_13 : decode b_X_kept 13 = .ok (.aload_n 0, 1) := by decide +kernel
theorem d_X_kept_14 : decode b_X_kept 14 = .ok (.getfield 30, 3) := by decide +kernel
theorem d_X_kept_17 : decode b_X_kept 17 = .ok (.getfield 125, 3) := by decide +kernel
theorem d_X_kept_20 : decode b_X_kept 20 = .ok (.invokevirtual 129, 3) := by decide +kernel
theorem d_X_kept_23 : decode b_X_kept 23 = .ok (.goto (4), 3) := by decide +kernel
theorem d_X_kept_26 : decode b_X_kept 26 = .ok (.iconst (0), 1) := by decide +kernel
theorem d_X_kept_27 : decode b_X_kept 27 = .ok (.ireturn, 1) := by decide +kernel
theorem d_X_received_0 : decode b_X_received 0 = .ok (.iload_n 1, 1) := by decide +kernel
theorem d_X_received_1 : decode b_X_received 1 = .ok (.invokestatic 55, 3) := by decide +kernel
theorem d_X_received_4 : decode b_X_received 4 = .ok (.ifCond .eq (14), 3) := by decide +kernel
theorem d_X_received_7 : decode b_X_received 7 = .ok (.aload_n 0, 1) := by decide +kernel
theorem d_X_received_8 : decode b_X_received 8 = .ok (.iload_n 1, 1) := by decide +kernel
theorem d_X_received_9 : decode b_X_received 9 = .ok (.invokevirtual 59, 3) := by decide +kernel
theorem d_X_received_12 : decode b_X_received 12 = .ok (.getfield 134, 3) := by decide +kernel
theorem d_X_received_15 : decode b_X_received 15 = .ok (.goto (4), 3) := by decide +kernel
theorem d_X_received_18 : decode b_X_received 18 = .ok (.iconst (-1), 1) := by decide +kernel
theorem d_X_received_19 : decode b_X_received 19 = .ok (.ireturn, 1) := by decide +kernel
theorem d_X_value_0 : decode b_X_value 0 = .ok (.iload_n 1, 1) := by decide +kernel
theorem d_X_value_1 : decode b_X_value 1 = .ok (.invokestatic 55, 3) := by decide +kernel
theorem d_X_value_4 : decode b_X_value 4 = .ok (.ifCond .eq (15), 3) := by decide +kernel
theorem d_X_value_7 : decode b_X_value 7 = .ok (.aload_n 0, 1) := by decide +kernel
theorem d_X_value_8 : decode b_X_value 8 = .ok (.iload_n 1, 1) := by decide +kernel
theorem d_X_value_9 : decode b_X_value 9 = .ok (.invokevirtual 59, 3) := by decide +kernel
theorem d_X_value_12 : decode b_X_value 12 = .ok (.iload_n 2, 1) := by decide +kernel
theorem d_X_value_13 : decode b_X_value 13 = .ok (.invokevirtual 137, 3) := by decide +kernel
theorem d_X_value_16 : decode b_X_value 16 = .ok (.goto (4), 3) := by decide +kernel
theorem d_X_value_19 : decode b_X_value 19 = .ok (.iconst (0), 1) := by decide +kernel
theorem d_X_value_20 : decode b_X_value 20 = .ok (.ireturn, 1) := by decide +kernel
theorem d_Mo_mix_0 : decode b_Mo_mix 0 = .ok (.iload_n 0, 1) := by decide +kernel
theorem d_Mo_mix_1 : decode b_Mo_mix 1 = .ok (.bipush (31), 2) := by decide +kernel
theorem d_Mo_mix_3 : decode b_Mo_mix 3 = .ok (.imul, 1) := by decide +kernel
theorem d_Mo_mix_4 : decode b_Mo_mix 4 = .ok (.iload_n 1, 1) := by decide +kernel
theorem d_Mo_mix_5 : decode b_Mo_mix 5 = .ok (.iadd, 1) := by decide +kernel
theorem d_Mo_mix_6 : decode b_Mo_mix 6 = .ok (.ldc 140, 2) := by decide +kernel
theorem d_Mo_mix_8 : decode b_Mo_mix 8 = .ok (.imul, 1) := by decide +kernel
theorem d_Mo_mix_9 : decode b_Mo_mix 9 = .ok (.istore_n 2, 1) := by decide +kernel
theorem d_Mo_mix_10 : decode b_Mo_mix 10 = .ok (.iload_n 2, 1) := by decide +kernel
theorem d_Mo_mix_11 : decode b_Mo_mix 11 = .ok (.iload_n 2, 1) := by decide +kernel
theorem d_Mo_mix_12 : decode b_Mo_mix 12 = .ok (.bipush (15), 2) := by decide +kernel
theorem d_Mo_mix_14 : decode b_Mo_mix 14 = .ok (.iushr, 1) := by decide +kernel
theorem d_Mo_mix_15 : decode b_Mo_mix 15 = .ok (.ixor, 1) := by decide +kernel
theorem d_Mo_mix_16 : decode b_Mo_mix 16 = .ok (.ireturn, 1) := by decide +kernel
theorem d_Mo_sizeOf_0 : decode b_Mo_sizeOf 0 = .ok (.iload_n 1, 1) := by decide +kernel
theorem d_Mo_sizeOf_1 : decode b_Mo_sizeOf 1 = .ok (.ifCond .eq (8), 3) := by decide +kernel
theorem d_Mo_sizeOf_4 : decode b_Mo_sizeOf 4 = .ok (.iload_n 1, 1) := by decide +kernel
theorem d_Mo_sizeOf_5 : decode b_Mo_sizeOf 5 = .ok (.iconst (2), 1) := by decide +kernel
theorem d_Mo_sizeOf_6 : decode b_Mo_sizeOf 6 = .ok (.if_icmp .ne (8), 3) := by decide +kernel
theorem d_Mo_sizeOf_9 : decode b_Mo_sizeOf 9 = .ok (.bipush (8), 2) := by decide +kernel
theorem d_Mo_sizeOf_11 : decode b_Mo_sizeOf 11 = .ok (.goto (26), 3) := by decide +kernel
theorem d_Mo_sizeOf_14 : decode b_Mo_sizeOf 14 = .ok (.iload_n 1, 1) := by decide +kernel
theorem d_Mo_sizeOf_15 : decode b_Mo_sizeOf 15 = .ok (.iconst (4), 1) := by decide +kernel
theorem d_Mo_sizeOf_16 : decode b_Mo_sizeOf 16 = .ok (.if_icmp .ne (8), 3) := by decide +kernel
theorem d_Mo_sizeOf_19 : decode b_Mo_sizeOf 19 = .ok (.bipush (6), 2) := by decide +kernel
theorem d_Mo_sizeOf_21 : decode b_Mo_sizeOf 21 = .ok (.goto (16), 3) := by decide +kernel
theorem d_Mo_sizeOf_24 : decode b_Mo_sizeOf 24 = .ok (.iload_n 1, 1) := by decide +kernel
theorem d_Mo_sizeOf_25 : decode b_Mo_sizeOf 25 = .ok (.iconst (5), 1) := by decide +kernel
theorem d_Mo_sizeOf_26 : decode b_Mo_sizeOf 26 = .ok (.if_icmp .ne (10), 3) := by decide +kernel
theorem d_Mo_sizeOf_29 : decode b_Mo_sizeOf 29 = .ok (.aload_n 0, 1) := by decide +kernel
theorem d_Mo_sizeOf_30 : decode b_Mo_sizeOf 30 = .ok (.getfield 114, 3) := by decide +kernel
theorem d_Mo_sizeOf_33 : decode b_Mo_sizeOf 33 = .ok (.goto (4), 3) := by decide +kernel
theorem d_Mo_sizeOf_36 : decode b_Mo_sizeOf 36 = .ok (.iconst (4), 1) := by decide +kernel
theorem d_Mo_sizeOf_37 : decode b_Mo_sizeOf 37 = .ok (.ireturn, 1) := by decide +kernel
theorem d_Mo_byteAt_0 : decode b_Mo_byteAt 0 = .ok (.iload_n 0, 1) := by decide +kernel
theorem d_Mo_byteAt_1 : decode b_Mo_byteAt 1 = .ok (.bipush (8), 2) := by decide +kernel
theorem d_Mo_byteAt_3 : decode b_Mo_byteAt 3 = .ok (.iload_n 1, 1) := by decide +kernel
theorem d_Mo_byteAt_4 : decode b_Mo_byteAt 4 = .ok (.imul, 1) := by decide +kernel
theorem d_Mo_byteAt_5 : decode b_Mo_byteAt 5 = .ok (.iushr, 1) := by decide +kernel
theorem d_Mo_byteAt_6 : decode b_Mo_byteAt 6 = .ok (.sipush (255), 3) := by decide +kernel
theorem d_Mo_byteAt_9 : decode b_Mo_byteAt 9 = .ok (.iand, 1) := by decide +kernel
theorem d_Mo_byteAt_10 : decode b_Mo_byteAt 10 = .ok (.ireturn, 1) := by decide +kernel
theorem d_Mo_content2_0 : decode b_Mo_content2 0 = .ok (.iload_n 1, 1) := by decide +kernel
theorem d_Mo_content2_1 : decode b_Mo_content2 1 = .ok (.tableswitch (152) 0 6 #[43, 61, 70, 97, 115, 128, 143], 43) := by decide +kernel
theorem d_Mo_content2_44 : decode b_Mo_content2 44 = .ok (.iload_n 2, 1) := by decide +kernel
theorem d_Mo_content2_45 : decode b_Mo_content2 45 = .ok (.iconst (4), 1) := by decide +kernel
theorem d_Mo_content2_46 : decode b_Mo_content2 46 = .ok (.if_icmp .ge (14), 3) := by decide +kernel
theorem d_Mo_content2_49 : decode b_Mo_content2 49 = .ok (.aload_n 0, 1) := by decide +kernel
theorem d_Mo_content2_50 : decode b_Mo_content2 50 = .ok (.getfield 121, 3) := by decide +kernel
theorem d_Mo_content2_53 : decode b_Mo_content2 53 = .ok (.iload_n 2, 1) := by decide +kernel
theorem d_Mo_content2_54 : decode b_Mo_content2 54 = .ok (.invokestatic 141, 3) := by decide +kernel
theorem d_Mo_content2_57 : decode b_Mo_content2 57 = .ok (.goto (4), 3) := by decide +kernel
theorem d_Mo_content2_60 : decode b_Mo_content2 60 = .ok (.iconst (0), 1) := by decide +kernel
theorem d_Mo_content2_61 : decode b_Mo_content2 61 = .ok (.ireturn, 1) := by decide +kernel
theorem d_Mo_content2_62 : decode b_Mo_content2 62 = .ok (.aload_n 0, 1) := by decide +kernel
theorem d_Mo_content2_63 : decode b_Mo_content2 63 = .ok (.getfield 127, 3) := by decide +kernel
theorem d_Mo_content2_66 : decode b_Mo_content2 66 = .ok (.iload_n 2, 1) := by decide +kernel
theorem d_Mo_content2_67 : decode b_Mo_content2 67 = .ok (.invokestatic 141, 3) := by decide +kernel
theorem d_Mo_content2_70 : decode b_Mo_content2 70 = .ok (.ireturn, 1) := by decide +kernel
theorem d_Mo_content2_71 : decode b_Mo_content2 71 = .ok (.iload_n 2, 1) := by decide +kernel
theorem d_Mo_content2_72 : decode b_Mo_content2 72 = .ok (.iconst (4), 1) := by decide +kernel
theorem d_Mo_content2_73 : decode b_Mo_content2 73 = .ok (.if_icmp .ge (14), 3) := by decide +kernel
theorem d_Mo_content2_76 : decode b_Mo_content2 76 = .ok (.aload_n 0, 1) := by decide +kernel
theorem d_Mo_content2_77 : decode b_Mo_content2 77 = .ok (.getfield 121, 3) := by decide +kernel
theorem d_Mo_content2_80 : decode b_Mo_content2 80 = .ok (.iload_n 2, 1) := by decide +kernel
theorem d_Mo_content2_81 : decode b_Mo_content2 81 = .ok (.invokestatic 141, 3) := by decide +kernel
theorem d_Mo_content2_84 : decode b_Mo_content2 84 = .ok (.goto (13), 3) := by decide +kernel
theorem d_Mo_content2_87 : decode b_Mo_content2 87 = .ok (.aload_n 0, 1) := by decide +kernel
theorem d_Mo_content2_88 : decode b_Mo_content2 88 = .ok (.getfield 127, 3) := by decide +kernel
theorem d_Mo_content2_91 : decode b_Mo_content2 91 = .ok (.iload_n 2, 1) := by decide +kernel
theorem d_Mo_content2_92 : decode b_Mo_content2 92 = .ok (.iconst (4), 1) := by decide +kernel
theorem d_Mo_content2_93 : decode b_Mo_content2 93 = .ok (.isub, 1) := by decide +kernel
theorem d_Mo_content2_94 : decode b_Mo_content2 94 = .ok (.invokestatic 141, 3) := by decide +kernel
theorem d_Mo_content2_97 : decode b_Mo_content2 97 = .ok (.ireturn, 1) := by decide +kernel
theorem d_Mo_content2_98 : decode b_Mo_content2 98 = .ok (.aload_n 0, 1) := by decide +kernel
theorem d_Mo_content2_99 : decode b_Mo_content2 99 = .ok (.getfield 124, 3) := by decide +kernel
theorem d_Mo_content2_102 : decode b_Mo_content2 102 = .ok (.iconst (1), 1) := by decide +kernel
theorem d_Mo_content2_103 : decode b_Mo_content2 103 = .ok (.iadd, 1) := by decide +kernel
theorem d_Mo_content2_104 : decode b_Mo_content2 104 = .ok (.aload_n 0, 1) := by decide +kernel
theorem d_Mo_content2_105 : decode b_Mo_content2 105 = .ok (.getfield 121, 3) := by decide +kernel
theorem d_Mo_content2_108 : decode b_Mo_content2 108 = .ok (.invokestatic 117, 3) := by decide +kernel
theorem d_Mo_content2_111 : decode b_Mo_content2 111 = .ok (.iload_n 2, 1) := by decide +kernel
theorem d_Mo_content2_112 : decode b_Mo_content2 112 = .ok (.invokestatic 141, 3) := by decide +kernel
theorem d_Mo_content2_115 : decode b_Mo_content2 115 = .ok (.ireturn, 1) := by decide +kernel
theorem d_Mo_content2_116 : decode b_Mo_content2 116 = .ok (.aload_n 0, 1) := by decide +kernel
theorem d_Mo_content2_117 : decode b_Mo_content2 117 = .ok (.getfield 121, 3) := by decide +kernel
theorem d_Mo_content2_120 : decode b_Mo_content2 120 = .ok (.iload_n 2, 1) := by decide +kernel
theorem d_Mo_content2_121 : decode b_Mo_content2 121 = .ok (.invokestatic 117, 3) := by decide +kernel
theorem d_Mo_content2_124 : decode b_Mo_content2 124 = .ok (.sipush (255), 3) := by decide +kernel
theorem d_Mo_content2_127 : decode b_Mo_content2 127 = .ok (.iand, 1) := by decide +kernel
theorem d_Mo_content2_128 : decode b_Mo_content2 128 = .ok (.ireturn, 1) := by decide +kernel
theorem d_Mo_content2_129 : decode b_Mo_content2 129 = .ok (.aload_n 0, 1) := by decide +kernel
theorem d_Mo_content2_130 : decode b_Mo_content2 130 = .ok (.getfield 124, 3) := by decide +kernel
theorem d_Mo_content2_133 : decode b_Mo_content2 133 = .ok (.iconst (2), 1) := by decide +kernel
theorem d_Mo_content2_134 : decode b_Mo_content2 134 = .ok (.iadd, 1) := by decide +kernel
theorem d_Mo_content2_135 : decode b_Mo_content2 135 = .ok (.iload_n 2, 1) := by decide +kernel
theorem d_Mo_content2_136 : decode b_Mo_content2 136 = .ok (.invokestatic 117, 3) := by decide +kernel
theorem d_Mo_content2_139 : decode b_Mo_content2 139 = .ok (.sipush (255), 3) := by decide +kernel
theorem d_Mo_content2_142 : decode b_Mo_content2 142 = .ok (.iand, 1) := by decide +kernel
theorem d_Mo_content2_143 : decode b_Mo_content2 143 = .ok (.ireturn, 1) := by decide +kernel
theorem d_Mo_content2_144 : decode b_Mo_content2 144 = .ok (.aload_n 0, 1) := by decide +kernel
theorem d_Mo_content2_145 : decode b_Mo_content2 145 = .ok (.getfield 134, 3) := by decide +kernel
theorem d_Mo_content2_148 : decode b_Mo_content2 148 = .ok (.iload_n 2, 1) := by decide +kernel
theorem d_Mo_content2_149 : decode b_Mo_content2 149 = .ok (.invokestatic 141, 3) := by decide +kernel
theorem d_Mo_content2_152 : decode b_Mo_content2 152 = .ok (.ireturn, 1) := by decide +kernel
theorem d_Mo_content2_153 : decode b_Mo_content2 153 = .ok (.aload_n 0, 1) := by decide +kernel
theorem d_Mo_content2_154 : decode b_Mo_content2 154 = .ok (.getfield 137, 3) := by decide +kernel
theorem d_Mo_content2_157 : decode b_Mo_content2 157 = .ok (.iload_n 2, 1) := by decide +kernel
theorem d_Mo_content2_158 : decode b_Mo_content2 158 = .ok (.invokestatic 141, 3) := by decide +kernel
theorem d_Mo_content2_161 : decode b_Mo_content2 161 = .ok (.ireturn, 1) := by decide +kernel
theorem d_Mo_told_0 : decode b_Mo_told 0 = .ok (.iconst (0), 1) := by decide +kernel
theorem d_Mo_told_1 : decode b_Mo_told 1 = .ok (.istore_n 2, 1) := by decide +kernel
theorem d_Mo_told_2 : decode b_Mo_told 2 = .ok (.iconst (0), 1) := by decide +kernel
theorem d_Mo_told_3 : decode b_Mo_told 3 = .ok (.istore_n 3, 1) := by decide +kernel
theorem d_Mo_told_4 : decode b_Mo_told 4 = .ok (.iload_n 3, 1) := by decide +kernel
theorem d_Mo_told_5 : decode b_Mo_told 5 = .ok (.iload_n 1, 1) := by decide +kernel
theorem d_Mo_told_6 : decode b_Mo_told 6 = .ok (.if_icmp .ge (43), 3) := by decide +kernel
theorem d_Mo_told_9 : decode b_Mo_told 9 = .ok (.iconst (0), 1) := by decide +kernel
theorem d_Mo_told_10 : decode b_Mo_told 10 = .ok (.istore 4, 2) := by decide +kernel
theorem d_Mo_told_12 : decode b_Mo_told 12 = .ok (.iload 4, 2) := by decide +kernel
theorem d_Mo_told_14 : decode b_Mo_told 14 = .ok (.aload_n 0, 1) := by decide +kernel
theorem d_Mo_told_15 : decode b_Mo_told 15 = .ok (.iload_n 3, 1) := by decide +kernel
theorem d_Mo_told_16 : decode b_Mo_told 16 = .ok (.invokevirtual 144, 3) := by decide +kernel
theorem d_Mo_told_19 : decode b_Mo_told 19 = .ok (.if_icmp .ge (24), 3) := by decide +kernel
theorem d_Mo_told_22 : decode b_Mo_told 22 = .ok (.iload_n 2, 1) := by decide +kernel
theorem d_Mo_told_23 : decode b_Mo_told 23 = .ok (.bipush (31), 2) := by decide +kernel
theorem d_Mo_told_25 : decode b_Mo_told 25 = .ok (.imul, 1) := by decide +kernel
theorem d_Mo_told_26 : decode b_Mo_told 26 = .ok (.aload_n 0, 1) := by decide +kernel
theorem d_Mo_told_27 : decode b_Mo_told 27 = .ok (.iload_n 3, 1) := by decide +kernel
theorem d_Mo_told_28 : decode b_Mo_told 28 = .ok (.iload 4, 2) := by decide +kernel
theorem d_Mo_told_30 : decode b_Mo_told 30 = .ok (.invokevirtual 147, 3) := by decide +kernel
theorem d_Mo_told_33 : decode b_Mo_told 33 = .ok (.iadd, 1) := by decide +kernel
theorem d_Mo_told_34 : decode b_Mo_told 34 = .ok (.iconst (1), 1) := by decide +kernel
theorem d_Mo_told_35 : decode b_Mo_told 35 = .ok (.iadd, 1) := by decide +kernel
theorem d_Mo_told_36 : decode b_Mo_told 36 = .ok (.istore_n 2, 1) := by decide +kernel
theorem d_Mo_told_37 : decode b_Mo_told 37 = .ok (.iinc 4 (1), 3) := by decide +kernel
theorem d_Mo_told_40 : decode b_Mo_told 40 = .ok (.goto (-28), 3) := by decide +kernel
theorem d_Mo_told_43 : decode b_Mo_told 43 = .ok (.iinc 3 (1), 3) := by decide +kernel
theorem d_Mo_told_46 : decode b_Mo_told 46 = .ok (.goto (-42), 3) := by decide +kernel
theorem d_Mo_told_49 : decode b_Mo_told 49 = .ok (.iload_n 2, 1) := by decide +kernel
theorem d_Mo_told_50 : decode b_Mo_told 50 = .ok (.ireturn, 1) := by decide +kernel
theorem d_Mo_init_0 : decode b_Mo_init 0 = .ok (.aload_n 0, 1) := by decide +kernel
theorem d_Mo_init_1 : decode b_Mo_init 1 = .ok (.invokespecial 1, 3) := by decide +kernel
theorem d_Mo_init_4 : decode b_Mo_init 4 = .ok (.aload_n 0, 1) := by decide +kernel
theorem d_Mo_init_5 : decode b_Mo_init 5 = .ok (.bipush (60), 2) := by decide +kernel
theorem d_Mo_init_7 : decode b_Mo_init 7 = .ok (.newarray .int, 2) := by decide +kernel
theorem d_Mo_init_9 : decode b_Mo_init 9 = .ok (.putfield 7, 3) := by decide +kernel
theorem d_Mo_init_12 : decode b_Mo_init 12 = .ok (.aload_n 0, 1) := by decide +kernel
theorem d_Mo_init_13 : decode b_Mo_init 13 = .ok (.bipush (60), 2) := by decide +kernel
theorem d_Mo_init_15 : decode b_Mo_init 15 = .ok (.newarray .int, 2) := by decide +kernel
theorem d_Mo_init_17 : decode b_Mo_init 17 = .ok (.putfield 13, 3) := by decide +kernel
theorem d_Mo_init_20 : decode b_Mo_init 20 = .ok (.aload_n 0, 1) := by decide +kernel
theorem d_Mo_init_21 : decode b_Mo_init 21 = .ok (.bipush (60), 2) := by decide +kernel
theorem d_Mo_init_23 : decode b_Mo_init 23 = .ok (.newarray .int, 2) := by decide +kernel
theorem d_Mo_init_25 : decode b_Mo_init 25 = .ok (.putfield 16, 3) := by decide +kernel
theorem d_Mo_init_28 : decode b_Mo_init 28 = .ok (.aload_n 0, 1) := by decide +kernel
theorem d_Mo_init_29 : decode b_Mo_init 29 = .ok (.bipush (60), 2) := by decide +kernel
theorem d_Mo_init_31 : decode b_Mo_init 31 = .ok (.newarray .int, 2) := by decide +kernel
theorem d_Mo_init_33 : decode b_Mo_init 33 = .ok (.putfield 19, 3) := by decide +kernel
theorem d_Mo_init_36 : decode b_Mo_init 36 = .ok (.aload_n 0, 1) := by decide +kernel
theorem d_Mo_init_37 : decode b_Mo_init 37 = .ok (.bipush (60), 2) := by decide +kernel
theorem d_Mo_init_39 : decode b_Mo_init 39 = .ok (.newarray .boolean, 2) := by decide +kernel
theorem d_Mo_init_41 : decode b_Mo_init 41 = .ok (.putfield 22, 3) := by decide +kernel
theorem d_Mo_init_44 : decode b_Mo_init 44 = .ok (.aload_n 0, 1) := by decide +kernel
theorem d_Mo_init_45 : decode b_Mo_init 45 = .ok (.bipush (60), 2) := by decide +kernel
theorem d_Mo_init_47 : decode b_Mo_init 47 = .ok (.newarray .int, 2) := by decide +kernel
theorem d_Mo_init_49 : decode b_Mo_init 49 = .ok (.putfield 26, 3) := by decide +kernel
theorem d_Mo_init_52 : decode b_Mo_init 52 = .ok (.aload_n 0, 1) := by decide +kernel
theorem d_Mo_init_53 : decode b_Mo_init 53 = .ok (.bipush (60), 2) := by decide +kernel
theorem d_Mo_init_55 : decode b_Mo_init 55 = .ok (.newarray .int, 2) := by decide +kernel
theorem d_Mo_init_57 : decode b_Mo_init 57 = .ok (.putfield 29, 3) := by decide +kernel
theorem d_Mo_init_60 : decode b_Mo_init 60 = .ok (.aload_n 0, 1) := by decide +kernel
theorem d_Mo_init_61 : decode b_Mo_init 61 = .ok (.bipush (60), 2) := by decide +kernel
theorem d_Mo_init_63 : decode b_Mo_init 63 = .ok (.newarray .int, 2) := by decide +kernel
theorem d_Mo_init_65 : decode b_Mo_init 65 = .ok (.putfield 32, 3) := by decide +kernel
theorem d_Mo_init_68 : decode b_Mo_init 68 = .ok (.aload_n 0, 1) := by decide +kernel
theorem d_Mo_init_69 : decode b_Mo_init 69 = .ok (.sipush (480), 3) := by decide +kernel
theorem d_Mo_init_72 : decode b_Mo_init 72 = .ok (.newarray .int, 2) := by decide +kernel
theorem d_Mo_init_74 : decode b_Mo_init 74 = .ok (.putfield 35, 3) := by decide +kernel
theorem d_Mo_init_77 : decode b_Mo_init 77 = .ok (.aload_n 0, 1) := by decide +kernel
theorem d_Mo_init_78 : decode b_Mo_init 78 = .ok (.sipush (480), 3) := by decide +kernel
theorem d_Mo_init_81 : decode b_Mo_init 81 = .ok (.newarray .int, 2) := by decide +kernel
theorem d_Mo_init_83 : decode b_Mo_init 83 = .ok (.putfield 38, 3) := by decide +kernel
theorem d_Mo_init_86 : decode b_Mo_init 86 = .ok (.aload_n 0, 1) := by decide +kernel
theorem d_Mo_init_87 : decode b_Mo_init 87 = .ok (.iconst (2), 1) := by decide +kernel
theorem d_Mo_init_88 : decode b_Mo_init 88 = .ok (.newarray .int, 2) := by decide +kernel
theorem d_Mo_init_90 : decode b_Mo_init 90 = .ok (.putfield 41, 3) := by decide +kernel
theorem d_Mo_init_93 : decode b_Mo_init 93 = .ok (.aload_n 0, 1) := by decide +kernel
theorem d_Mo_init_94 : decode b_Mo_init 94 = .ok (.iconst (2), 1) := by decide +kernel
theorem d_Mo_init_95 : decode b_Mo_init 95 = .ok (.newarray .int, 2) := by decide +kernel
theorem d_Mo_init_97 : decode b_Mo_init 97 = .ok (.putfield 44, 3) := by decide +kernel
theorem d_Mo_init_100 : decode b_Mo_init 100 = .ok (.aload_n 0, 1) := by decide +kernel
theorem d_Mo_init_101 : decode b_Mo_init 101 = .ok (.bipush (8), 2) := by decide +kernel
theorem d_Mo_init_103 : decode b_Mo_init 103 = .ok (.newarray .int, 2) := by decide +kernel
theorem d_Mo_init_105 : decode b_Mo_init 105 = .ok (.putfield 47, 3) := by decide +kernel
theorem d_Mo_init_108 : decode b_Mo_init 108 = .ok (.aload_n 0, 1) := by decide +kernel
theorem d_Mo_init_109 : decode b_Mo_init 109 = .ok (.bipush (8), 2) := by decide +kernel
theorem d_Mo_init_111 : decode b_Mo_init 111 = .ok (.newarray .int, 2) := by decide +kernel
theorem d_Mo_init_113 : decode b_Mo_init 113 = .ok (.putfield 50, 3) := by decide +kernel
theorem d_Mo_init_116 : decode b_Mo_init 116 = .ok (.aload_n 0, 1) := by decide +kernel
theorem d_Mo_init_117 : decode b_Mo_init 117 = .ok (.sipush (128), 3) := by decide +kernel
theorem d_Mo_init_120 : decode b_Mo_init 120 = .ok (.newarray .int, 2) := by decide +kernel
theorem d_Mo_init_122 : decode b_Mo_init 122 = .ok (.putfield 53, 3) := by decide +kernel
theorem d_Mo_init_125 : decode b_Mo_init 125 = .ok (.aload_n 0, 1) := by decide +kernel
theorem d_Mo_init_126 : decode b_Mo_init 126 = .ok (.iconst (2), 1) := by decide +kernel
theorem d_Mo_init_127 : decode b_Mo_init 127 = .ok (.newarray .int, 2) := by decide +kernel
theorem d_Mo_init_129 : decode b_Mo_init 129 = .ok (.putfield 56, 3) := by decide +kernel
theorem d_Mo_init_132 : decode b_Mo_init 132 = .ok (.aload_n 0, 1) := by decide +kernel
theorem d_Mo_init_133 : decode b_Mo_init 133 = .ok (.bipush (16), 2) := by decide +kernel
theorem d_Mo_init_135 : decode b_Mo_init 135 = .ok (.newarray .int, 2) := by decide +kernel
theorem d_Mo_init_137 : decode b_Mo_init 137 = .ok (.putfield 59, 3) := by decide +kernel
theorem d_Mo_init_140 : decode b_Mo_init 140 = .ok (.aload_n 0, 1) := by decide +kernel
theorem d_Mo_init_141 : decode b_Mo_init 141 = .ok (.bipush (16), 2) := by decide +kernel
theorem d_Mo_init_143 : decode b_Mo_init 143 = .ok (.newarray .int, 2) := by decide +kernel
theorem d_Mo_init_145 : decode b_Mo_init 145 = .ok (.putfield 62, 3) := by decide +kernel
theorem d_Mo_init_148 : decode b_Mo_init 148 = .ok (.aload_n 0, 1) := by decide +kernel
theorem d_Mo_init_149 : decode b_Mo_init 149 = .ok (.iconst (2), 1) := by decide +kernel
theorem d_Mo_init_150 : decode b_Mo_init 150 = .ok (.newarray .int, 2) := by decide +kernel
theorem d_Mo_init_152 : decode b_Mo_init 152 = .ok (.putfield 65, 3) := by decide +kernel
theorem d_Mo_init_155 : decode b_Mo_init 155 = .ok (.aload_n 0, 1) := by decide +kernel
theorem d_Mo_init_156 : decode b_Mo_init 156 = .ok (.iconst (2), 1) := by decide +kernel
theorem d_Mo_init_157 : decode b_Mo_init 157 = .ok (.newarray .int, 2) := by decide +kernel
theorem d_Mo_init_159 : decode b_Mo_init 159 = .ok (.putfield 68, 3) := by decide +kernel
theorem d_Mo_init_162 : decode b_Mo_init 162 = .ok (.aload_n 0, 1) := by decide +kernel
theorem d_Mo_init_163 : decode b_Mo_init 163 = .ok (.bipush (24), 2) := by decide +kernel
theorem d_Mo_init_165 : decode b_Mo_init 165 = .ok (.newarray .int, 2) := by decide +kernel
theorem d_Mo_init_167 : decode b_Mo_init 167 = .ok (.putfield 71, 3) := by decide +kernel
theorem d_Mo_init_170 : decode b_Mo_init 170 = .ok (.aload_n 0, 1) := by decide +kernel
theorem d_Mo_init_171 : decode b_Mo_init 171 = .ok (.bipush (24), 2) := by decide +kernel
theorem d_Mo_init_173 : decode b_Mo_init 173 = .ok (.newarray .int, 2) := by decide +kernel
theorem d_Mo_init_175 : decode b_Mo_init 175 = .ok (.putfield 74, 3) := by decide +kernel
theorem d_Mo_init_178 : decode b_Mo_init 178 = .ok (.aload_n 0, 1) := by decide +kernel
theorem d_Mo_init_179 : decode b_Mo_init 179 = .ok (.bipush (24), 2) := by decide +kernel
theorem d_Mo_init_181 : decode b_Mo_init 181 = .ok (.newarray .boolean, 2) := by decide +kernel
theorem d_Mo_init_183 : decode b_Mo_init 183 = .ok (.putfield 77, 3) := by decide +kernel
theorem d_Mo_init_186 : decode b_Mo_init 186 = .ok (.aload_n 0, 1) := by decide +kernel
theorem d_Mo_init_187 : decode b_Mo_init 187 = .ok (.iconst (2), 1) := by decide +kernel
theorem d_Mo_init_188 : decode b_Mo_init 188 = .ok (.newarray .int, 2) := by decide +kernel
theorem d_Mo_init_190 : decode b_Mo_init 190 = .ok (.putfield 80, 3) := by decide +kernel
theorem d_Mo_init_193 : decode b_Mo_init 193 = .ok (.aload_n 0, 1) := by decide +kernel
theorem d_Mo_init_194 : decode b_Mo_init 194 = .ok (.sipush (160), 3) := by decide +kernel
theorem d_Mo_init_197 : decode b_Mo_init 197 = .ok (.newarray .int, 2) := by decide +kernel
theorem d_Mo_init_199 : decode b_Mo_init 199 = .ok (.putfield 83, 3) := by decide +kernel
theorem d_Mo_init_202 : decode b_Mo_init 202 = .ok (.aload_n 0, 1) := by decide +kernel
theorem d_Mo_init_203 : decode b_Mo_init 203 = .ok (.sipush (160), 3) := by decide +kernel
theorem d_Mo_init_206 : decode b_Mo_init 206 = .ok (.newarray .int, 2) := by decide +kernel
theorem d_Mo_init_208 : decode b_Mo_init 208 = .ok (.putfield 86, 3) := by decide +kernel
theorem d_Mo_init_211 : decode b_Mo_init 211 = .ok (.aload_n 0, 1) := by decide +kernel
theorem d_Mo_init_212 : decode b_Mo_init 212 = .ok (.sipush (160), 3) := by decide +kernel
theorem d_Mo_init_215 : decode b_Mo_init 215 = .ok (.newarray .int, 2) := by decide +kernel
theorem d_Mo_init_217 : decode b_Mo_init 217 = .ok (.putfield 89, 3) := by decide +kernel
theorem d_Mo_init_220 : decode b_Mo_init 220 = .ok (.aload_n 0, 1) := by decide +kernel
theorem d_Mo_init_221 : decode b_Mo_init 221 = .ok (.iconst (2), 1) := by decide +kernel
theorem d_Mo_init_222 : decode b_Mo_init 222 = .ok (.newarray .int, 2) := by decide +kernel
theorem d_Mo_init_224 : decode b_Mo_init 224 = .ok (.putfield 92, 3) := by decide +kernel
theorem d_Mo_init_227 : decode b_Mo_init 227 = .ok (.aload_n 0, 1) := by decide +kernel
theorem d_Mo_init_228 : decode b_Mo_init 228 = .ok (.iconst (2), 1) := by decide +kernel
theorem d_Mo_init_229 : decode b_Mo_init 229 = .ok (.newarray .int, 2) := by decide +kernel
theorem d_Mo_init_231 : decode b_Mo_init 231 = .ok (.putfield 95, 3) := by decide +kernel
theorem d_Mo_init_234 : decode b_Mo_init 234 = .ok (.aload_n 0, 1) := by decide +kernel
theorem d_Mo_init_235 : decode b_Mo_init 235 = .ok (.iconst (2), 1) := by decide +kernel
theorem d_Mo_init_236 : decode b_Mo_init 236 = .ok (.newarray .int, 2) := by decide +kernel
theorem d_Mo_init_238 : decode b_Mo_init 238 = .ok (.putfield 98, 3) := by decide +kernel
theorem d_Mo_init_241 : decode b_Mo_init 241 = .ok (.aload_n 0, 1) := by decide +kernel
theorem d_Mo_init_242 : decode b_Mo_init 242 = .ok (.sipush (192), 3) := by decide +kernel
theorem d_Mo_init_245 : decode b_Mo_init 245 = .ok (.newarray .boolean, 2) := by decide +kernel
theorem d_Mo_init_247 : decode b_Mo_init 247 = .ok (.putfield 101, 3) := by decide +kernel
theorem d_Mo_init_250 : decode b_Mo_init 250 = .ok (.aload_n 0, 1) := by decide +kernel
theorem d_Mo_init_251 : decode b_Mo_init 251 = .ok (.bipush (120), 2) := by decide +kernel
theorem d_Mo_init_253 : decode b_Mo_init 253 = .ok (.newarray .int, 2) := by decide +kernel
theorem d_Mo_init_255 : decode b_Mo_init 255 = .ok (.putfield 104, 3) := by decide +kernel
theorem d_Mo_init_258 : decode b_Mo_init 258 = .ok (.aload_n 0, 1) := by decide +kernel
theorem d_Mo_init_259 : decode b_Mo_init 259 = .ok (.iconst (2), 1) := by decide +kernel
theorem d_Mo_init_260 : decode b_Mo_init 260 = .ok (.newarray .int, 2) := by decide +kernel
theorem d_Mo_init_262 : decode b_Mo_init 262 = .ok (.putfield 107, 3) := by decide +kernel
theorem d_Mo_init_265 : decode b_Mo_init 265 = .ok (.aload_n 0, 1) := by decide +kernel
theorem d_Mo_init_266 : decode b_Mo_init 266 = .ok (.iload_n 2, 1) := by decide +kernel
theorem d_Mo_init_267 : decode b_Mo_init 267 = .ok (.bipush (8), 2) := by decide +kernel
theorem d_Mo_init_269 : decode b_Mo_init 269 = .ok (.if_icmp .ge (8), 3) := by decide +kernel
theorem d_Mo_init_272 : decode b_Mo_init 272 = .ok (.bipush (8), 2) := by decide +kernel
theorem d_Mo_init_274 : decode b_Mo_init 274 = .ok (.goto (15), 3) := by decide +kernel
theorem d_Mo_init_277 : decode b_Mo_init 277 = .ok (.iload_n 2, 1) := by decide +kernel
theorem d_Mo_init_278 : decode b_Mo_init 278 = .ok (.bipush (24), 2) := by decide +kernel
theorem d_Mo_init_280 : decode b_Mo_init 280 = .ok (.if_icmp .le (8), 3) := by decide +kernel
theorem d_Mo_init_283 : decode b_Mo_init 283 = .ok (.bipush (24), 2) := by decide +kernel
theorem d_Mo_init_285 : decode b_Mo_init 285 = .ok (.goto (4), 3) := by decide +kernel
theorem d_Mo_init_288 : decode b_Mo_init 288 = .ok (.iload_n 2, 1) := by decide +kernel
theorem d_Mo_init_289 : decode b_Mo_init 289 = .ok (.putfield 110, 3) := by decide +kernel
theorem d_Mo_init_292 : decode b_Mo_init 292 = .ok (.aload_n 0, 1) := by decide +kernel
theorem d_Mo_init_293 : decode b_Mo_init 293 = .ok (.bipush (12), 2) := by decide +kernel
theorem d_Mo_init_295 : decode b_Mo_init 295 = .ok (.iload_n 1, 1) := by decide +kernel
theorem d_Mo_init_296 : decode b_Mo_init 296 = .ok (.bipush (31), 2) := by decide +kernel
theorem d_Mo_init_298 : decode b_Mo_init 298 = .ok (.iand, 1) := by decide +kernel
theorem d_Mo_init_299 : decode b_Mo_init 299 = .ok (.iadd, 1) := by decide +kernel
theorem d_Mo_init_300 : decode b_Mo_init 300 = .ok (.putfield 114, 3) := by decide +kernel
theorem d_Mo_init_303 : decode b_Mo_init 303 = .ok (.aload_n 0, 1) := by decide +kernel
theorem d_Mo_init_304 : decode b_Mo_init 304 = .ok (.iload_n 1, 1) := by decide +kernel
theorem d_Mo_init_305 : decode b_Mo_init 305 = .ok (.iconst (1), 1) := by decide +kernel
theorem d_Mo_init_306 : decode b_Mo_init 306 = .ok (.invokestatic 117, 3) := by decide +kernel
theorem d_Mo_init_309 : decode b_Mo_init 309 = .ok (.putfield 121, 3) := by decide +kernel
theorem d_Mo_init_312 : decode b_Mo_init 312 = .ok (.aload_n 0, 1) := by decide +kernel
theorem d_Mo_init_313 : decode b_Mo_init 313 = .ok (.iload_n 1, 1) := by decide +kernel
theorem d_Mo_init_314 : decode b_Mo_init 314 = .ok (.iconst (2), 1) := by decide +kernel
theorem d_Mo_init_315 : decode b_Mo_init 315 = .ok (.invokestatic 117, 3) := by decide +kernel
theorem d_Mo_init_318 : decode b_Mo_init 318 = .ok (.putfield 124, 3) := by decide +kernel
theorem d_Mo_init_321 : decode b_Mo_init 321 = .ok (.aload_n 0, 1) := by decide +kernel
theorem d_Mo_init_322 : decode b_Mo_init 322 = .ok (.aload_n 0, 1) := by decide +kernel
theorem d_Mo_init_323 : decode b_Mo_init 323 = .ok (.getfield 124, 3) := by decide +kernel
theorem d_Mo_init_326 : decode b_Mo_init 326 = .ok (.aload_n 0, 1) := by decide +kernel
theorem d_Mo_init_327 : decode b_Mo_init 327 = .ok (.getfield 121, 3) := by decide +kernel
theorem d_Mo_init_330 : decode b_Mo_init 330 = .ok (.invokestatic 117, 3) := by decide +kernel
theorem d_Mo_init_333 : decode b_Mo_init 333 = .ok (.putfield 127, 3) := by decide +kernel
theorem d_Mo_init_336 : decode b_Mo_init 336 = .ok (.aload_n 0, 1) := by decide +kernel
theorem d_Mo_init_337 : decode b_Mo_init 337 = .ok (.aload_n 0, 1) := by decide +kernel
theorem d_Mo_init_338 : decode b_Mo_init 338 = .ok (.bipush (6), 2) := by decide +kernel
theorem d_Mo_init_340 : decode b_Mo_init 340 = .ok (.invokevirtual 130, 3) := by decide +kernel
theorem d_Mo_init_343 : decode b_Mo_init 343 = .ok (.iconst (2), 1) := by decide +kernel
theorem d_Mo_init_344 : decode b_Mo_init 344 = .ok (.invokestatic 117, 3) := by decide +kernel
theorem d_Mo_init_347 : decode b_Mo_init 347 = .ok (.putfield 134, 3) := by decide +kernel
theorem d_Mo_init_350 : decode b_Mo_init 350 = .ok (.aload_n 0, 1) := by decide +kernel
theorem d_Mo_init_351 : decode b_Mo_init 351 = .ok (.aload_n 0, 1) := by decide +kernel
theorem d_Mo_init_352 : decode b_Mo_init 352 = .ok (.bipush (7), 2) := by decide +kernel
theorem d_Mo_init_354 : decode b_Mo_init 354 = .ok (.invokevirtual 130, 3) := by decide +kernel
theorem d_Mo_init_357 : decode b_Mo_init 357 = .ok (.iconst (1), 1) := by decide +kernel
theorem d_Mo_init_358 : decode b_Mo_init 358 = .ok (.invokestatic 117, 3) := by decide +kernel
theorem d_Mo_init_361 : decode b_Mo_init 361 = .ok (.putfield 137, 3) := by decide +kernel
theorem d_Mo_init_364 : decode b_Mo_init 364 = .ok (.iconst (0), 1) := by decide +kernel
theorem d_Mo_init_365 : decode b_Mo_init 365 = .ok (.istore_n 3, 1) := by decide +kernel
theorem d_Mo_init_366 : decode b_Mo_init 366 = .ok (.iload_n 3, 1) := by decide +kernel
theorem d_Mo_init_367 : decode b_Mo_init 367 = .ok (.bipush (8), 2) := by decide +kernel
theorem d_Mo_init_369 : decode b_Mo_init 369 = .ok (.if_icmp .ge (16), 3) := by decide +kernel
theorem d_Mo_init_372 : decode b_Mo_init 372 = .ok (.aload_n 0, 1) := by decide +kernel
theorem d_Mo_init_373 : decode b_Mo_init 373 = .ok (.getfield 50, 3) := by decide +kernel
theorem d_Mo_init_376 : decode b_Mo_init 376 = .ok (.iload_n 3, 1) := by decide +kernel
theorem d_Mo_init_377 : decode b_Mo_init 377 = .ok (.iconst (-1), 1) := by decide +kernel
theorem d_Mo_init_378 : decode b_Mo_init 378 = .ok (.iastore, 1) := by decide +kernel
theorem d_Mo_init_379 : decode b_Mo_init 379 = .ok (.iinc 3 (1), 3) := by decide +kernel
theorem d_Mo_init_382 : decode b_Mo_init 382 = .ok (.goto (-16), 3) := by decide +kernel
theorem d_Mo_init_385 : decode b_Mo_init 385 = .ok (.iconst (0), 1) := by decide +kernel
theorem d_Mo_init_386 : decode b_Mo_init 386 = .ok (.istore_n 3, 1) := by decide +kernel
theorem d_Mo_init_387 : decode b_Mo_init 387 = .ok (.iload_n 3, 1) := by decide +kernel
theorem d_Mo_init_388 : decode b_Mo_init 388 = .ok (.sipush (128), 3) := by decide +kernel
theorem d_Mo_init_391 : decode b_Mo_init 391 = .ok (.if_icmp .ge (16), 3) := by decide +kernel
theorem d_Mo_init_394 : decode b_Mo_init 394 = .ok (.aload_n 0, 1) := by decide +kernel
theorem d_Mo_init_395 : decode b_Mo_init 395 = .ok (.getfield 53, 3) := by decide +kernel
theorem d_Mo_init_398 : decode b_Mo_init 398 = .ok (.iload_n 3, 1) := by decide +kernel
theorem d_Mo_init_399 : decode b_Mo_init 399 = .ok (.iconst (-1), 1) := by decide +kernel
theorem d_Mo_init_400 : decode b_Mo_init 400 = .ok (.iastore, 1) := by decide +kernel
theorem d_Mo_init_401 : decode b_Mo_init 401 = .ok (.iinc 3 (1), 3) := by decide +kernel
theorem d_Mo_init_404 : decode b_Mo_init 404 = .ok (.goto (-17), 3) := by decide +kernel
theorem d_Mo_init_407 : decode b_Mo_init 407 = .ok (.iconst (0), 1) := by decide +kernel
theorem d_Mo_init_408 : decode b_Mo_init 408 = .ok (.istore_n 3, 1) := by decide +kernel
theorem d_Mo_init_409 : decode b_Mo_init 409 = .ok (.iload_n 3, 1) := by decide +kernel
theorem d_Mo_init_410 : decode b_Mo_init 410 = .ok (.iconst (2), 1) := by decide +kernel
theorem d_Mo_init_411 : decode b_Mo_init 411 = .ok (.if_icmp .ge (16), 3) := by decide +kernel
theorem d_Mo_init_414 : decode b_Mo_init 414 = .ok (.aload_n 0, 1) := by decide +kernel
theorem d_Mo_init_415 : decode b_Mo_init 415 = .ok (.getfield 65, 3) := by decide +kernel
theorem d_Mo_init_418 : decode b_Mo_init 418 = .ok (.iload_n 3, 1) := by decide +kernel
theorem d_Mo_init_419 : decode b_Mo_init 419 = .ok (.iconst (-1), 1) := by decide +kernel
theorem d_Mo_init_420 : decode b_Mo_init 420 = .ok (.iastore, 1) := by decide +kernel
theorem d_Mo_init_421 : decode b_Mo_init 421 = .ok (.iinc 3 (1), 3) := by decide +kernel
theorem d_Mo_init_424 : decode b_Mo_init 424 = .ok (.goto (-15), 3) := by decide +kernel
theorem d_Mo_init_427 : decode b_Mo_init 427 = .ok (.return_, 1) := by decide +kernel
theorem d_Mo_become_0 : decode b_Mo_become 0 = .ok (.aload_n 0, 1) := by decide +kernel
theorem d_Mo_become_1 : decode b_Mo_become 1 = .ok (.getfield 41, 3) := by decide +kernel
theorem d_Mo_become_4 : decode b_Mo_become 4 = .ok (.iload_n 1, 1) := by decide +kernel
theorem d_Mo_become_5 : decode b_Mo_become 5 = .ok (.iload_n 2, 1) := by decide +kernel
theorem d_Mo_become_6 : decode b_Mo_become 6 = .ok (.iastore, 1) := by decide +kernel
theorem d_Mo_become_7 : decode b_Mo_become 7 = .ok (.aload_n 0, 1) := by decide +kernel
theorem d_Mo_become_8 : decode b_Mo_become 8 = .ok (.getfield 65, 3) := by decide +kernel
theorem d_Mo_become_11 : decode b_Mo_become 11 = .ok (.iload_n 1, 1) := by decide +kernel
theorem d_Mo_become_12 : decode b_Mo_become 12 = .ok (.iconst (-1), 1) := by decide +kernel
theorem d_Mo_become_13 : decode b_Mo_become 13 = .ok (.iastore, 1) := by decide +kernel
theorem d_Mo_become_14 : decode b_Mo_become 14 = .ok (.return_, 1) := by decide +kernel
theorem d_Mo_put_0 : decode b_Mo_put 0 = .ok (.aload_n 0, 1) := by decide +kernel
theorem d_Mo_put_1 : decode b_Mo_put 1 = .ok (.dup, 1) := by decide +kernel
theorem d_Mo_put_2 : decode b_Mo_put 2 = .ok (.getfield 150, 3) := by decide +kernel
theorem d_Mo_put_5 : decode b_Mo_put 5 = .ok (.iconst (1), 1) := by decide +kernel
theorem d_Mo_put_6 : decode b_Mo_put 6 = .ok (.iadd, 1) := by decide +kernel
theorem d_Mo_put_7 : decode b_Mo_put 7 = .ok (.putfield 150, 3) := by decide +kernel
theorem d_Mo_put_10 : decode b_Mo_put 10 = .ok (.aload_n 0, 1) := by decide +kernel
theorem d_Mo_put_11 : decode b_Mo_put 11 = .ok (.getfield 153, 3) := by decide +kernel
theorem d_Mo_put_14 : decode b_Mo_put 14 = .ok (.bipush (60), 2) := by decide +kernel
theorem d_Mo_put_16 : decode b_Mo_put 16 = .ok (.if_icmp .ne (15), 3) := by decide +kernel
theorem d_Mo_put_19 : decode b_Mo_put 19 = .ok (.aload_n 0, 1) := by decide +kernel
theorem d_Mo_put_20 : decode b_Mo_put 20 = .ok (.dup, 1) := by decide +kernel
theorem d_Mo_put_21 : decode b_Mo_put 21 = .ok (.getfield 156, 3) := by decide +kernel
theorem d_Mo_put_24 : decode b_Mo_put 24 = .ok (.iconst (1), 1) := by decide +kernel
theorem d_Mo_put_25 : decode b_Mo_put 25 = .ok (.iadd, 1) := by decide +kernel
theorem d_Mo_put_26 : decode b_Mo_put 26 = .ok (.putfield 156, 3) := by decide +kernel
theorem d_Mo_put_29 : decode b_Mo_put 29 = .ok (.iconst (-1), 1) := by decide +kernel
theorem d_Mo_put_30 : decode b_Mo_put 30 = .ok (.ireturn, 1) := by decide +kernel
theorem d_Mo_put_31 : decode b_Mo_put 31 = .ok (.aload_n 0, 1) := by decide +kernel
theorem d_Mo_put_32 : decode b_Mo_put 32 = .ok (.getfield 7, 3) := by decide +kernel
theorem d_Mo_put_35 : decode b_Mo_put 35 = .ok (.aload_n 0, 1) := by decide +kernel
theorem d_Mo_put_36 : decode b_Mo_put 36 = .ok (.getfield 153, 3) := by decide +kernel
theorem d_Mo_put_39 : decode b_Mo_put 39 = .ok (.iload_n 1, 1) := by decide +kernel
theorem d_Mo_put_40 : decode b_Mo_put 40 = .ok (.iastore, 1) := by decide +kernel
theorem d_Mo_put_41 : decode b_Mo_put 41 = .ok (.aload_n 0, 1) := by decide +kernel
theorem d_Mo_put_42 : decode b_Mo_put 42 = .ok (.getfield 13, 3) := by decide +kernel
theorem d_Mo_put_45 : decode b_Mo_put 45 = .ok (.aload_n 0, 1) := by decide +kernel
theorem d_Mo_put_46 : decode b_Mo_put 46 = .ok (.getfield 153, 3) := by decide +kernel
theorem d_Mo_put_49 : decode b_Mo_put 49 = .ok (.iload_n 2, 1) := by decide +kernel
theorem d_Mo_put_50 : decode b_Mo_put 50 = .ok (.iastore, 1) := by decide +kernel
theorem d_Mo_put_51 : decode b_Mo_put 51 = .ok (.aload_n 0, 1) := by decide +kernel
theorem d_Mo_put_52 : decode b_Mo_put 52 = .ok (.getfield 16, 3) := by decide +kernel
theorem d_Mo_put_55 : decode b_Mo_put 55 = .ok (.aload_n 0, 1) := by decide +kernel
theorem d_Mo_put_56 : decode b_Mo_put 56 = .ok (.getfield 153, 3) := by decide +kernel
theorem d_Mo_put_59 : decode b_Mo_put 59 = .ok (.iload_n 3, 1) := by decide +kernel
theorem d_Mo_put_60 : decode b_Mo_put 60 = .ok (.iastore, 1) := by decide +kernel
theorem d_Mo_put_61 : decode b_Mo_put 61 = .ok (.aload_n 0, 1) := by decide +kernel
theorem d_Mo_put_62 : decode b_Mo_put 62 = .ok (.getfield 19, 3) := by decide +kernel
theorem d_Mo_put_65 : decode b_Mo_put 65 = .ok (.aload_n 0, 1) := by decide +kernel
theorem d_Mo_put_66 : decode b_Mo_put 66 = .ok (.getfield 153, 3) := by decide +kernel
theorem d_Mo_put_69 : decode b_Mo_put 69 = .ok (.iload 4, 2) := by decide +kernel
theorem d_Mo_put_71 : decode b_Mo_put 71 = .ok (.iastore, 1) := by decide +kernel
theorem d_Mo_put_72 : decode b_Mo_put 72 = .ok (.aload_n 0, 1) := by decide +kernel
theorem d_Mo_put_73 : decode b_Mo_put 73 = .ok (.getfield 22, 3) := by decide +kernel
theorem d_Mo_put_76 : decode b_Mo_put 76 = .ok (.aload_n 0, 1) := by decide +kernel
theorem d_Mo_put_77 : decode b_Mo_put 77 = .ok (.getfield 153, 3) := by decide +kernel
theorem d_Mo_put_80 : decode b_Mo_put 80 = .ok (.iconst (0), 1) := by decide +kernel
theorem d_Mo_put_81 : decode b_Mo_put 81 = .ok (.bastore, 1) := by decide +kernel
theorem d_Mo_put_82 : decode b_Mo_put 82 = .ok (.aload_n 0, 1) := by decide +kernel
theorem d_Mo_put_83 : decode b_Mo_put 83 = .ok (.getfield 26, 3) := by decide +kernel
theorem d_Mo_put_86 : decode b_Mo_put 86 = .ok (.aload_n 0, 1) := by decide +kernel
theorem d_Mo_put_87 : decode b_Mo_put 87 = .ok (.getfield 153, 3) := by decide +kernel
theorem d_Mo_put_90 : decode b_Mo_put 90 = .ok (.iconst (0), 1) := by decide +kernel
theorem d_Mo_put_91 : decode b_Mo_put 91 = .ok (.iastore, 1) := by decide +kernel
theorem d_Mo_put_92 : decode b_Mo_put 92 = .ok (.aload_n 0, 1) := by decide +kernel
theorem d_Mo_put_93 : decode b_Mo_put 93 = .ok (.getfield 29, 3) := by decide +kernel
theorem d_Mo_put_96 : decode b_Mo_put 96 = .ok (.aload_n 0, 1) := by decide +kernel
theorem d_Mo_put_97 : decode b_Mo_put 97 = .ok (.getfield 153, 3) := by decide +kernel
theorem d_Mo_put_100 : decode b_Mo_put 100 = .ok (.iconst (0), 1) := by decide +kernel
theorem d_Mo_put_101 : decode b_Mo_put 101 = .ok (.iastore, 1) := by decide +kernel
theorem d_Mo_put_102 : decode b_Mo_put 102 = .ok (.aload_n 0, 1) := by decide +kernel
theorem d_Mo_put_103 : decode b_Mo_put 103 = .ok (.getfield 32, 3) := by decide +kernel
theorem d_Mo_put_106 : decode b_Mo_put 106 = .ok (.aload_n 0, 1) := by decide +kernel
theorem d_Mo_put_107 : decode b_Mo_put 107 = .ok (.getfield 153, 3) := by decide +kernel
theorem d_Mo_put_110 : decode b_Mo_put 110 = .ok (.iconst (0), 1) := by decide +kernel
theorem d_Mo_put_111 : decode b_Mo_put 111 = .ok (.iastore, 1) := by decide +kernel
theorem d_Mo_put_112 : decode b_Mo_put 112 = .ok (.aload_n 0, 1) := by decide +kernel
theorem d_Mo_put_113 : decode b_Mo_put 113 = .ok (.dup, 1) := by decide +kernel
theorem d_Mo_put_114 : decode b_Mo_put 114 = .ok (.getfield 153, 3) := by decide +kernel
theorem d_Mo_put_117 : decode b_Mo_put 117 = .ok (.iconst (1), 1) := by decide +kernel
theorem d_Mo_put_118 : decode b_Mo_put 118 = .ok (.iadd, 1) := by decide +kernel
theorem d_Mo_put_119 : decode b_Mo_put 119 = .ok (.putfield 153, 3) := by decide +kernel
