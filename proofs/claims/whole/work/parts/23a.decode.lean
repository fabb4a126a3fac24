theorem d_ER_isNode_0 : decode b_ER_isNode 0 = .ok (.iload_n 1, 1) := by decide +kernel
theorem d_ER_isNode_1 : decode b_ER_isNode 1 = .ok (.ifCond .lt 16, 3) := by decide +kernel
theorem d_ER_isNode_4 : decode b_ER_isNode 4 = .ok (.iload_n 1, 1) := by decide +kernel
theorem d_ER_isNode_5 : decode b_ER_isNode 5 = .ok (.aload_n 0, 1) := by decide +kernel
theorem d_ER_isNode_6 : decode b_ER_isNode 6 = .ok (.getfield 25, 3) := by decide +kernel
theorem d_ER_isNode_9 : decode b_ER_isNode 9 = .ok (.arraylength, 1) := by decide +kernel
theorem d_ER_isNode_10 : decode b_ER_isNode 10 = .ok (.if_icmp .ge 7, 3) := by decide +kernel
theorem d_ER_isNode_13 : decode b_ER_isNode 13 = .ok (.iconst 1, 1) := by decide +kernel
theorem d_ER_isNode_14 : decode b_ER_isNode 14 = .ok (.goto 4, 3) := by decide +kernel
theorem d_ER_isNode_17 : decode b_ER_isNode 17 = .ok (.iconst 0, 1) := by decide +kernel
theorem d_ER_isNode_18 : decode b_ER_isNode 18 = .ok (.ireturn, 1) := by decide +kernel
theorem d_ER_isWellBehaved_0 : decode b_ER_isWellBehaved 0 = .ok (.aload_n 0, 1) := by decide +kernel
theorem d_ER_isWellBehaved_1 : decode b_ER_isWellBehaved 1 = .ok (.iload_n 1, 1) := by decide +kernel
theorem d_ER_isWellBehaved_2 : decode b_ER_isWellBehaved 2 = .ok (.invokevirtual 57, 3) := by decide +kernel
theorem d_ER_isWellBehaved_5 : decode b_ER_isWellBehaved 5 = .ok (.ifCond .eq 19, 3) := by decide +kernel
theorem d_ER_isWellBehaved_8 : decode b_ER_isWellBehaved 8 = .ok (.aload_n 0, 1) := by decide +kernel
theorem d_ER_isWellBehaved_9 : decode b_ER_isWellBehaved 9 = .ok (.getfield 25, 3) := by decide +kernel
theorem d_ER_isWellBehaved_12 : decode b_ER_isWellBehaved 12 = .ok (.iload_n 1, 1) := by decide +kernel
theorem d_ER_isWellBehaved_13 : decode b_ER_isWellBehaved 13 = .ok (.aaload, 1) := by decide +kernel
theorem d_ER_isWellBehaved_14 : decode b_ER_isWellBehaved 14 = .ok (.getfield 36, 3) := by decide +kernel
theorem d_ER_isWellBehaved_17 : decode b_ER_isWellBehaved 17 = .ok (.ifCond .eq 7, 3) := by decide +kernel
theorem d_ER_isWellBehaved_20 : decode b_ER_isWellBehaved 20 = .ok (.iconst 1, 1) := by decide +kernel
theorem d_ER_isWellBehaved_21 : decode b_ER_isWellBehaved 21 = .ok (.goto 4, 3) := by decide +kernel
theorem d_ER_isWellBehaved_24 : decode b_ER_isWellBehaved 24 = .ok (.iconst 0, 1) := by decide +kernel
theorem d_ER_isWellBehaved_25 : decode b_ER_isWellBehaved 25 = .ok (.ireturn, 1) := by decide +kernel
theorem d_ER_sent_0 : decode b_ER_sent 0 = .ok (.aload_n 0, 1) := by decide +kernel
theorem d_ER_sent_1 : decode b_ER_sent 1 = .ok (.iload_n 1, 1) := by decide +kernel
theorem d_ER_sent_2 : decode b_ER_sent 2 = .ok (.invokevirtual 57, 3) := by decide +kernel
theorem d_ER_sent_5 : decode b_ER_sent 5 = .ok (.ifCond .eq 18, 3) := by decide +kernel
theorem d_ER_sent_8 : decode b_ER_sent 8 = .ok (.aload_n 0, 1) := by decide +kernel
theorem d_ER_sent_9 : decode b_ER_sent 9 = .ok (.getfield 25, 3) := by decide +kernel
theorem d_ER_sent_12 : decode b_ER_sent 12 = .ok (.iload_n 1, 1) := by decide +kernel
theorem d_ER_sent_13 : decode b_ER_sent 13 = .ok (.aaload, 1) := by decide +kernel
theorem d_ER_sent_14 : decode b_ER_sent 14 = .ok (.getfield 60, 3) := by decide +kernel
theorem d_ER_sent_17 : decode b_ER_sent 17 = .ok (.getfield 79, 3) := by decide +kernel
theorem d_ER_sent_20 : decode b_ER_sent 20 = .ok (.goto 4, 3) := by decide +kernel
theorem d_ER_sent_23 : decode b_ER_sent 23 = .ok (.iconst (-1), 1) := by decide +kernel
theorem d_ER_sent_24 : decode b_ER_sent 24 = .ok (.ireturn, 1) := by decide +kernel
theorem d_ER_message_0 : decode b_ER_message 0 = .ok (.aload_n 0, 1) := by decide +kernel
theorem d_ER_message_1 : decode b_ER_message 1 = .ok (.iload_n 1, 1) := by decide +kernel
theorem d_ER_message_2 : decode b_ER_message 2 = .ok (.invokevirtual 57, 3) := by decide +kernel
theorem d_ER_message_5 : decode b_ER_message 5 = .ok (.ifCond .eq 19, 3) := by decide +kernel
theorem d_ER_message_8 : decode b_ER_message 8 = .ok (.aload_n 0, 1) := by decide +kernel
theorem d_ER_message_9 : decode b_ER_message 9 = .ok (.getfield 25, 3) := by decide +kernel
theorem d_ER_message_12 : decode b_ER_message 12 = .ok (.iload_n 1, 1) := by decide +kernel
theorem d_ER_message_13 : decode b_ER_message 13 = .ok (.aaload, 1) := by decide +kernel
theorem d_ER_message_14 : decode b_ER_message 14 = .ok (.getfield 60, 3) := by decide +kernel
theorem d_ER_message_17 : decode b_ER_message 17 = .ok (.iload_n 2, 1) := by decide +kernel
theorem d_ER_message_18 : decode b_ER_message 18 = .ok (.invokevirtual 84, 3) := by decide +kernel
theorem d_ER_message_21 : decode b_ER_message 21 = .ok (.goto 4, 3) := by decide +kernel
theorem d_ER_message_24 : decode b_ER_message 24 = .ok (.iconst (-1), 1) := by decide +kernel
theorem d_ER_message_25 : decode b_ER_message 25 = .ok (.ireturn, 1) := by decide +kernel
theorem d_ER_waiting_0 : decode b_ER_waiting 0 = .ok (.aload_n 0, 1) := by decide +kernel
theorem d_ER_waiting_1 : decode b_ER_waiting 1 = .ok (.iload_n 1, 1) := by decide +kernel
theorem d_ER_waiting_2 : decode b_ER_waiting 2 = .ok (.invokevirtual 57, 3) := by decide +kernel
theorem d_ER_waiting_5 : decode b_ER_waiting 5 = .ok (.ifCond .eq 38, 3) := by decide +kernel
theorem d_ER_waiting_8 : decode b_ER_waiting 8 = .ok (.aload_n 0, 1) := by decide +kernel
theorem d_ER_waiting_9 : decode b_ER_waiting 9 = .ok (.iload_n 2, 1) := by decide +kernel
theorem d_ER_waiting_10 : decode b_ER_waiting 10 = .ok (.invokevirtual 57, 3) := by decide +kernel
theorem d_ER_waiting_13 : decode b_ER_waiting 13 = .ok (.ifCond .eq 30, 3) := by decide +kernel
theorem d_ER_waiting_16 : decode b_ER_waiting 16 = .ok (.aload_n 0, 1) := by decide +kernel
theorem d_ER_waiting_17 : decode b_ER_waiting 17 = .ok (.getfield 25, 3) := by decide +kernel
theorem d_ER_waiting_20 : decode b_ER_waiting 20 = .ok (.iload_n 1, 1) := by decide +kernel
theorem d_ER_waiting_21 : decode b_ER_waiting 21 = .ok (.aaload, 1) := by decide +kernel
theorem d_ER_waiting_22 : decode b_ER_waiting 22 = .ok (.getfield 60, 3) := by decide +kernel
theorem d_ER_waiting_25 : decode b_ER_waiting 25 = .ok (.getfield 79, 3) := by decide +kernel
theorem d_ER_waiting_28 : decode b_ER_waiting 28 = .ok (.aload_n 0, 1) := by decide +kernel
theorem d_ER_waiting_29 : decode b_ER_waiting 29 = .ok (.getfield 25, 3) := by decide +kernel
theorem d_ER_waiting_32 : decode b_ER_waiting 32 = .ok (.iload_n 2, 1) := by decide +kernel
theorem d_ER_waiting_33 : decode b_ER_waiting 33 = .ok (.aaload, 1) := by decide +kernel
theorem d_ER_waiting_34 : decode b_ER_waiting 34 = .ok (.getfield 88, 3) := by decide +kernel
theorem d_ER_waiting_37 : decode b_ER_waiting 37 = .ok (.iload_n 1, 1) := by decide +kernel
theorem d_ER_waiting_38 : decode b_ER_waiting 38 = .ok (.iaload, 1) := by decide +kernel
theorem d_ER_waiting_39 : decode b_ER_waiting 39 = .ok (.isub, 1) := by decide +kernel
theorem d_ER_waiting_40 : decode b_ER_waiting 40 = .ok (.goto 4, 3) := by decide +kernel
theorem d_ER_waiting_43 : decode b_ER_waiting 43 = .ok (.iconst (-1), 1) := by decide +kernel
theorem d_ER_waiting_44 : decode b_ER_waiting 44 = .ok (.ireturn, 1) := by decide +kernel
theorem d_ER_votes_0 : decode b_ER_votes 0 = .ok (.aload_n 0, 1) := by decide +kernel
theorem d_ER_votes_1 : decode b_ER_votes 1 = .ok (.iload_n 1, 1) := by decide +kernel
theorem d_ER_votes_2 : decode b_ER_votes 2 = .ok (.invokevirtual 57, 3) := by decide +kernel
theorem d_ER_votes_5 : decode b_ER_votes 5 = .ok (.ifCond .eq 29, 3) := by decide +kernel
theorem d_ER_votes_8 : decode b_ER_votes 8 = .ok (.iload_n 2, 1) := by decide +kernel
theorem d_ER_votes_9 : decode b_ER_votes 9 = .ok (.invokestatic 68, 3) := by decide +kernel
theorem d_ER_votes_12 : decode b_ER_votes 12 = .ok (.ifCond .eq 22, 3) := by decide +kernel
theorem d_ER_votes_15 : decode b_ER_votes 15 = .ok (.aload_n 0, 1) := by decide +kernel
theorem d_ER_votes_16 : decode b_ER_votes 16 = .ok (.iload_n 3, 1) := by decide +kernel
theorem d_ER_votes_17 : decode b_ER_votes 17 = .ok (.invokevirtual 57, 3) := by decide +kernel
theorem d_ER_votes_20 : decode b_ER_votes 20 = .ok (.ifCond .eq 14, 3) := by decide +kernel
theorem d_ER_votes_23 : decode b_ER_votes 23 = .ok (.iload 4, 2) := by decide +kernel
theorem d_ER_votes_25 : decode b_ER_votes 25 = .ok (.ifCond .lt 9, 3) := by decide +kernel
theorem d_ER_votes_28 : decode b_ER_votes 28 = .ok (.iload 4, 2) := by decide +kernel
theorem d_ER_votes_30 : decode b_ER_votes 30 = .ok (.iconst 4, 1) := by decide +kernel
theorem d_ER_votes_31 : decode b_ER_votes 31 = .ok (.if_icmp .lt 5, 3) := by decide +kernel
theorem d_ER_votes_34 : decode b_ER_votes 34 = .ok (.iconst 0, 1) := by decide +kernel
theorem d_ER_votes_35 : decode b_ER_votes 35 = .ok (.ireturn, 1) := by decide +kernel
theorem d_ER_votes_36 : decode b_ER_votes 36 = .ok (.aload_n 0, 1) := by decide +kernel
theorem d_ER_votes_37 : decode b_ER_votes 37 = .ok (.getfield 25, 3) := by decide +kernel
theorem d_ER_votes_40 : decode b_ER_votes 40 = .ok (.iload_n 1, 1) := by decide +kernel
theorem d_ER_votes_41 : decode b_ER_votes 41 = .ok (.aaload, 1) := by decide +kernel
theorem d_ER_votes_42 : decode b_ER_votes 42 = .ok (.getfield 92, 3) := by decide +kernel
theorem d_ER_votes_45 : decode b_ER_votes 45 = .ok (.iload 5, 2) := by decide +kernel
theorem d_ER_votes_47 : decode b_ER_votes 47 = .ok (.ifCond .eq 7, 3) := by decide +kernel
theorem d_ER_votes_50 : decode b_ER_votes 50 = .ok (.iconst 2, 1) := by decide +kernel
theorem d_ER_votes_51 : decode b_ER_votes 51 = .ok (.goto 4, 3) := by decide +kernel
theorem d_ER_votes_54 : decode b_ER_votes 54 = .ok (.iconst 1, 1) := by decide +kernel
theorem d_ER_votes_55 : decode b_ER_votes 55 = .ok (.iload_n 2, 1) := by decide +kernel
theorem d_ER_votes_56 : decode b_ER_votes 56 = .ok (.iload_n 3, 1) := by decide +kernel
theorem d_ER_votes_57 : decode b_ER_votes 57 = .ok (.invokestatic 96, 3) := by decide +kernel
theorem d_ER_votes_60 : decode b_ER_votes 60 = .ok (.iload 4, 2) := by decide +kernel
theorem d_ER_votes_62 : decode b_ER_votes 62 = .ok (.invokevirtual 99, 3) := by decide +kernel
theorem d_ER_votes_65 : decode b_ER_votes 65 = .ok (.ireturn, 1) := by decide +kernel
theorem d_ER_accepted_0 : decode b_ER_accepted 0 = .ok (.aload_n 0, 1) := by decide +kernel
theorem d_ER_accepted_1 : decode b_ER_accepted 1 = .ok (.iload_n 1, 1) := by decide +kernel
theorem d_ER_accepted_2 : decode b_ER_accepted 2 = .ok (.invokevirtual 57, 3) := by decide +kernel
theorem d_ER_accepted_5 : decode b_ER_accepted 5 = .ok (.ifCond .eq 18, 3) := by decide +kernel
theorem d_ER_accepted_8 : decode b_ER_accepted 8 = .ok (.iload_n 2, 1) := by decide +kernel
theorem d_ER_accepted_9 : decode b_ER_accepted 9 = .ok (.invokestatic 68, 3) := by decide +kernel
theorem d_ER_accepted_12 : decode b_ER_accepted 12 = .ok (.ifCond .eq 11, 3) := by decide +kernel
theorem d_ER_accepted_15 : decode b_ER_accepted 15 = .ok (.aload_n 0, 1) := by decide +kernel
theorem d_ER_accepted_16 : decode b_ER_accepted 16 = .ok (.iload_n 3, 1) := by decide +kernel
theorem d_ER_accepted_17 : decode b_ER_accepted 17 = .ok (.invokevirtual 57, 3) := by decide +kernel
theorem d_ER_accepted_20 : decode b_ER_accepted 20 = .ok (.ifCond .ne 5, 3) := by decide +kernel
theorem d_ER_accepted_23 : decode b_ER_accepted 23 = .ok (.iconst (-1), 1) := by decide +kernel
theorem d_ER_accepted_24 : decode b_ER_accepted 24 = .ok (.ireturn, 1) := by decide +kernel
theorem d_ER_accepted_25 : decode b_ER_accepted 25 = .ok (.aload_n 0, 1) := by decide +kernel
theorem d_ER_accepted_26 : decode b_ER_accepted 26 = .ok (.getfield 25, 3) := by decide +kernel
theorem d_ER_accepted_29 : decode b_ER_accepted 29 = .ok (.iload_n 1, 1) := by decide +kernel
theorem d_ER_accepted_30 : decode b_ER_accepted 30 = .ok (.aaload, 1) := by decide +kernel
theorem d_ER_accepted_31 : decode b_ER_accepted 31 = .ok (.getfield 105, 3) := by decide +kernel
theorem d_ER_accepted_34 : decode b_ER_accepted 34 = .ok (.iload_n 2, 1) := by decide +kernel
theorem d_ER_accepted_35 : decode b_ER_accepted 35 = .ok (.iload_n 3, 1) := by decide +kernel
theorem d_ER_accepted_36 : decode b_ER_accepted 36 = .ok (.invokestatic 96, 3) := by decide +kernel
theorem d_ER_accepted_39 : decode b_ER_accepted 39 = .ok (.iaload, 1) := by decide +kernel
theorem d_ER_accepted_40 : decode b_ER_accepted 40 = .ok (.ireturn, 1) := by decide +kernel
theorem d_ER_rowAt_0 : decode b_ER_rowAt 0 = .ok (.aload_n 0, 1) := by decide +kernel
theorem d_ER_rowAt_1 : decode b_ER_rowAt 1 = .ok (.iload_n 1, 1) := by decide +kernel
theorem d_ER_rowAt_2 : decode b_ER_rowAt 2 = .ok (.invokevirtual 57, 3) := by decide +kernel
theorem d_ER_rowAt_5 : decode b_ER_rowAt 5 = .ok (.ifCond .eq 28, 3) := by decide +kernel
theorem d_ER_rowAt_8 : decode b_ER_rowAt 8 = .ok (.iload_n 2, 1) := by decide +kernel
theorem d_ER_rowAt_9 : decode b_ER_rowAt 9 = .ok (.invokestatic 68, 3) := by decide +kernel
theorem d_ER_rowAt_12 : decode b_ER_rowAt 12 = .ok (.ifCond .eq 21, 3) := by decide +kernel
theorem d_ER_rowAt_15 : decode b_ER_rowAt 15 = .ok (.aload_n 0, 1) := by decide +kernel
theorem d_ER_rowAt_16 : decode b_ER_rowAt 16 = .ok (.getfield 25, 3) := by decide +kernel
theorem d_ER_rowAt_19 : decode b_ER_rowAt 19 = .ok (.iload_n 1, 1) := by decide +kernel
theorem d_ER_rowAt_20 : decode b_ER_rowAt 20 = .ok (.aaload, 1) := by decide +kernel
theorem d_ER_rowAt_21 : decode b_ER_rowAt 21 = .ok (.getfield 108, 3) := by decide +kernel
theorem d_ER_rowAt_24 : decode b_ER_rowAt 24 = .ok (.iload_n 2, 1) := by decide +kernel
theorem d_ER_rowAt_25 : decode b_ER_rowAt 25 = .ok (.aaload, 1) := by decide +kernel
theorem d_ER_rowAt_26 : decode b_ER_rowAt 26 = .ok (.iload_n 3, 1) := by decide +kernel
theorem d_ER_rowAt_27 : decode b_ER_rowAt 27 = .ok (.invokevirtual 112, 3) := by decide +kernel
theorem d_ER_rowAt_30 : decode b_ER_rowAt 30 = .ok (.goto 4, 3) := by decide +kernel
theorem d_ER_rowAt_33 : decode b_ER_rowAt 33 = .ok (.iconst (-1), 1) := by decide +kernel
theorem d_ER_rowAt_34 : decode b_ER_rowAt 34 = .ok (.ireturn, 1) := by decide +kernel
theorem d_ER_slot_0 : decode b_ER_slot 0 = .ok (.aload_n 0, 1) := by decide +kernel
theorem d_ER_slot_1 : decode b_ER_slot 1 = .ok (.iload_n 1, 1) := by decide +kernel
theorem d_ER_slot_2 : decode b_ER_slot 2 = .ok (.invokevirtual 57, 3) := by decide +kernel
theorem d_ER_slot_5 : decode b_ER_slot 5 = .ok (.ifCond .eq 15, 3) := by decide +kernel
theorem d_ER_slot_8 : decode b_ER_slot 8 = .ok (.aload_n 0, 1) := by decide +kernel
theorem d_ER_slot_9 : decode b_ER_slot 9 = .ok (.getfield 25, 3) := by decide +kernel
theorem d_ER_slot_12 : decode b_ER_slot 12 = .ok (.iload_n 1, 1) := by decide +kernel
theorem d_ER_slot_13 : decode b_ER_slot 13 = .ok (.aaload, 1) := by decide +kernel
theorem d_ER_slot_14 : decode b_ER_slot 14 = .ok (.getfield 44, 3) := by decide +kernel
theorem d_ER_slot_17 : decode b_ER_slot 17 = .ok (.goto 4, 3) := by decide +kernel
theorem d_ER_slot_20 : decode b_ER_slot 20 = .ok (.iconst (-1), 1) := by decide +kernel
theorem d_ER_slot_21 : decode b_ER_slot 21 = .ok (.ireturn, 1) := by decide +kernel
theorem d_ER_value_0 : decode b_ER_value 0 = .ok (.aload_n 0, 1) := by decide +kernel
theorem d_ER_value_1 : decode b_ER_value 1 = .ok (.iload_n 1, 1) := by decide +kernel
theorem d_ER_value_2 : decode b_ER_value 2 = .ok (.invokevirtual 57, 3) := by decide +kernel
theorem d_ER_value_5 : decode b_ER_value 5 = .ok (.ifCond .eq 15, 3) := by decide +kernel
theorem d_ER_value_8 : decode b_ER_value 8 = .ok (.aload_n 0, 1) := by decide +kernel
theorem d_ER_value_9 : decode b_ER_value 9 = .ok (.getfield 25, 3) := by decide +kernel
theorem d_ER_value_12 : decode b_ER_value 12 = .ok (.iload_n 1, 1) := by decide +kernel
theorem d_ER_value_13 : decode b_ER_value 13 = .ok (.aaload, 1) := by decide +kernel
theorem d_ER_value_14 : decode b_ER_value 14 = .ok (.getfield 117, 3) := by decide +kernel
theorem d_ER_value_17 : decode b_ER_value 17 = .ok (.goto 4, 3) := by decide +kernel
theorem d_ER_value_20 : decode b_ER_value 20 = .ok (.iconst (-1), 1) := by decide +kernel
theorem d_ER_value_21 : decode b_ER_value 21 = .ok (.ireturn, 1) := by decide +kernel
theorem d_ER_decided_0 : decode b_ER_decided 0 = .ok (.aload_n 0, 1) := by decide +kernel
theorem d_ER_decided_1 : decode b_ER_decided 1 = .ok (.iload_n 1, 1) := by decide +kernel
theorem d_ER_decided_2 : decode b_ER_decided 2 = .ok (.invokevirtual 57, 3) := by decide +kernel
theorem d_ER_decided_5 : decode b_ER_decided 5 = .ok (.ifCond .eq 15, 3) := by decide +kernel
theorem d_ER_decided_8 : decode b_ER_decided 8 = .ok (.aload_n 0, 1) := by decide +kernel
theorem d_ER_decided_9 : decode b_ER_decided 9 = .ok (.getfield 25, 3) := by decide +kernel
theorem d_ER_decided_12 : decode b_ER_decided 12 = .ok (.iload_n 1, 1) := by decide +kernel
theorem d_ER_decided_13 : decode b_ER_decided 13 = .ok (.aaload, 1) := by decide +kernel
theorem d_ER_decided_14 : decode b_ER_decided 14 = .ok (.getfield 120, 3) := by decide +kernel
theorem d_ER_decided_17 : decode b_ER_decided 17 = .ok (.goto 4, 3) := by decide +kernel
theorem d_ER_decided_20 : decode b_ER_decided 20 = .ok (.iconst (-1), 1) := by decide +kernel
theorem d_ER_decided_21 : decode b_ER_decided 21 = .ok (.ireturn, 1) := by decide +kernel
theorem d_ER_init_0 : decode b_ER_init 0 = .ok (.aload_n 0, 1) := by decide +kernel
theorem d_ER_init_1 : decode b_ER_init 1 = .ok (.invokespecial 3, 3) := by decide +kernel
theorem d_ER_init_4 : decode b_ER_init 4 = .ok (.iconst 4, 1) := by decide +kernel
theorem d_ER_init_5 : decode b_ER_init 5 = .ok (.bipush 7, 2) := by decide +kernel
theorem d_ER_init_7 : decode b_ER_init 7 = .ok (.iload_n 1, 1) := by decide +kernel
theorem d_ER_init_8 : decode b_ER_init 8 = .ok (.invokestatic 9, 3) := by decide +kernel
theorem d_ER_init_11 : decode b_ER_init 11 = .ok (.invokestatic 15, 3) := by decide +kernel
theorem d_ER_init_14 : decode b_ER_init 14 = .ok (.istore_n 2, 1) := by decide +kernel
theorem d_ER_init_15 : decode b_ER_init 15 = .ok (.new 18, 3) := by decide +kernel
theorem d_ER_init_18 : decode b_ER_init 18 = .ok (.dup, 1) := by decide +kernel
theorem d_ER_init_19 : decode b_ER_init 19 = .ok (.iload_n 2, 1) := by decide +kernel
theorem d_ER_init_20 : decode b_ER_init 20 = .ok (.invokespecial 20, 3) := by decide +kernel
theorem d_ER_init_23 : decode b_ER_init 23 = .ok (.astore_n 3, 1) := by decide +kernel
theorem d_ER_init_24 : decode b_ER_init 24 = .ok (.aload_n 0, 1) := by decide +kernel
theorem d_ER_init_25 : decode b_ER_init 25 = .ok (.iload_n 2, 1) := by decide +kernel
theorem d_ER_init_26 : decode b_ER_init 26 = .ok (.anewarray 23, 3) := by decide +kernel
theorem d_ER_init_29 : decode b_ER_init 29 = .ok (.putfield 25, 3) := by decide +kernel
theorem d_ER_init_32 : decode b_ER_init 32 = .ok (.iconst 0, 1) := by decide +kernel
theorem d_ER_init_33 : decode b_ER_init 33 = .ok (.istore 4, 2) := by decide +kernel
theorem d_ER_init_35 : decode b_ER_init 35 = .ok (.iload 4, 2) := by decide +kernel
theorem d_ER_init_37 : decode b_ER_init 37 = .ok (.iload_n 2, 1) := by decide +kernel
theorem d_ER_init_38 : decode b_ER_init 38 = .ok (.if_icmp .ge 26, 3) := by decide +kernel
theorem d_ER_init_41 : decode b_ER_init 41 = .ok (.aload_n 0, 1) := by decide +kernel
theorem d_ER_init_42 : decode b_ER_init 42 = .ok (.getfield 25, 3) := by decide +kernel
theorem d_ER_init_45 : decode b_ER_init 45 = .ok (.iload 4, 2) := by decide +kernel
theorem d_ER_init_47 : decode b_ER_init 47 = .ok (.new 23, 3) := by decide +kernel
theorem d_ER_init_50 : decode b_ER_init 50 = .ok (.dup, 1) := by decide +kernel
theorem d_ER_init_51 : decode b_ER_init 51 = .ok (.iload 4, 2) := by decide +kernel
theorem d_ER_init_53 : decode b_ER_init 53 = .ok (.aload_n 3, 1) := by decide +kernel
theorem d_ER_init_54 : decode b_ER_init 54 = .ok (.invokespecial 29, 3) := by decide +kernel
theorem d_ER_init_57 : decode b_ER_init 57 = .ok (.aastore, 1) := by decide +kernel
theorem d_ER_init_58 : decode b_ER_init 58 = .ok (.iinc 4 1, 3) := by decide +kernel
theorem d_ER_init_61 : decode b_ER_init 61 = .ok (.goto (-26), 3) := by decide +kernel
theorem d_ER_init_64 : decode b_ER_init 64 = .ok (.return_, 1) := by decide +kernel
theorem d_ER_corrupt_0 : decode b_ER_corrupt 0 = .ok (.aload_n 0, 1) := by decide +kernel
theorem d_ER_corrupt_1 : decode b_ER_corrupt 1 = .ok (.iload_n 1, 1) := by decide +kernel
theorem d_ER_corrupt_2 : decode b_ER_corrupt 2 = .ok (.invokevirtual 32, 3) := by decide +kernel
theorem d_ER_corrupt_5 : decode b_ER_corrupt 5 = .ok (.ifCond .ne 5, 3) := by decide +kernel
theorem d_ER_corrupt_8 : decode b_ER_corrupt 8 = .ok (.iconst 0, 1) := by decide +kernel
theorem d_ER_corrupt_9 : decode b_ER_corrupt 9 = .ok (.ireturn, 1) := by decide +kernel
theorem d_ER_corrupt_10 : decode b_ER_corrupt 10 = .ok (.aload_n 0, 1) := by decide +kernel
theorem d_ER_corrupt_11 : decode b_ER_corrupt 11 = .ok (.getfield 25, 3) := by decide +kernel
theorem d_ER_corrupt_14 : decode b_ER_corrupt 14 = .ok (.iload_n 1, 1) := by decide +kernel
theorem d_ER_corrupt_15 : decode b_ER_corrupt 15 = .ok (.aaload, 1) := by decide +kernel
theorem d_ER_corrupt_16 : decode b_ER_corrupt 16 = .ok (.iconst 0, 1) := by decide +kernel
theorem d_ER_corrupt_17 : decode b_ER_corrupt 17 = .ok (.putfield 36, 3) := by decide +kernel
theorem d_ER_corrupt_20 : decode b_ER_corrupt 20 = .ok (.iconst 1, 1) := by decide +kernel
theorem d_ER_corrupt_21 : decode b_ER_corrupt 21 = .ok (.ireturn, 1) := by decide +kernel
theorem d_ER_tosses_0 : decode b_ER_tosses 0 = .ok (.aload_n 0, 1) := by decide +kernel
theorem d_ER_tosses_1 : decode b_ER_tosses 1 = .ok (.iload_n 1, 1) := by decide +kernel
theorem d_ER_tosses_2 : decode b_ER_tosses 2 = .ok (.invokevirtual 32, 3) := by decide +kernel
theorem d_ER_tosses_5 : decode b_ER_tosses 5 = .ok (.ifCond .ne 5, 3) := by decide +kernel
theorem d_ER_tosses_8 : decode b_ER_tosses 8 = .ok (.iconst 0, 1) := by decide +kernel
theorem d_ER_tosses_9 : decode b_ER_tosses 9 = .ok (.ireturn, 1) := by decide +kernel
theorem d_ER_tosses_10 : decode b_ER_tosses 10 = .ok (.aload_n 0, 1) := by decide +kernel
theorem d_ER_tosses_11 : decode b_ER_tosses 11 = .ok (.getfield 25, 3) := by decide +kernel
theorem d_ER_tosses_14 : decode b_ER_tosses 14 = .ok (.iload_n 1, 1) := by decide +kernel
theorem d_ER_tosses_15 : decode b_ER_tosses 15 = .ok (.aaload, 1) := by decide +kernel
theorem d_ER_tosses_16 : decode b_ER_tosses 16 = .ok (.iload_n 2, 1) := by decide +kernel
theorem d_ER_tosses_17 : decode b_ER_tosses 17 = .ok (.bipush 7, 2) := by decide +kernel
theorem d_ER_tosses_19 : decode b_ER_tosses 19 = .ok (.iand, 1) := by decide +kernel
theorem d_ER_tosses_20 : decode b_ER_tosses 20 = .ok (.putfield 40, 3) := by decide +kernel
theorem d_ER_tosses_23 : decode b_ER_tosses 23 = .ok (.iconst 1, 1) := by decide +kernel
theorem d_ER_tosses_24 : decode b_ER_tosses 24 = .ok (.ireturn, 1) := by decide +kernel
theorem d_ER_start_0 : decode b_ER_start 0 = .ok (.aload_n 0, 1) := by decide +kernel
theorem d_ER_start_1 : decode b_ER_start 1 = .ok (.iload_n 1, 1) := by decide +kernel
theorem d_ER_start_2 : decode b_ER_start 2 = .ok (.invokevirtual 32, 3) := by decide +kernel
theorem d_ER_start_5 : decode b_ER_start 5 = .ok (.ifCond .eq 23, 3) := by decide +kernel
theorem d_ER_start_8 : decode b_ER_start 8 = .ok (.aload_n 0, 1) := by decide +kernel
theorem d_ER_start_9 : decode b_ER_start 9 = .ok (.getfield 25, 3) := by decide +kernel
theorem d_ER_start_12 : decode b_ER_start 12 = .ok (.iload_n 1, 1) := by decide +kernel
theorem d_ER_start_13 : decode b_ER_start 13 = .ok (.aaload, 1) := by decide +kernel
theorem d_ER_start_14 : decode b_ER_start 14 = .ok (.getfield 44, 3) := by decide +kernel
theorem d_ER_start_17 : decode b_ER_start 17 = .ok (.iconst (-1), 1) := by decide +kernel
theorem d_ER_start_18 : decode b_ER_start 18 = .ok (.if_icmp .ne 10, 3) := by decide +kernel
theorem d_ER_start_21 : decode b_ER_start 21 = .ok (.iload_n 2, 1) := by decide +kernel
theorem d_ER_start_22 : decode b_ER_start 22 = .ok (.invokestatic 47, 3) := by decide +kernel
theorem d_ER_start_25 : decode b_ER_start 25 = .ok (.ifCond .ne 5, 3) := by decide +kernel
theorem d_ER_start_28 : decode b_ER_start 28 = .ok (.iconst 0, 1) := by decide +kernel
theorem d_ER_start_29 : decode b_ER_start 29 = .ok (.ireturn, 1) := by decide +kernel
theorem d_ER_start_30 : decode b_ER_start 30 = .ok (.aload_n 0, 1) := by decide +kernel
theorem d_ER_start_31 : decode b_ER_start 31 = .ok (.getfield 25, 3) := by decide +kernel
theorem d_ER_start_34 : decode b_ER_start 34 = .ok (.iload_n 1, 1) := by decide +kernel
theorem d_ER_start_35 : decode b_ER_start 35 = .ok (.aaload, 1) := by decide +kernel
theorem d_ER_start_36 : decode b_ER_start 36 = .ok (.iconst 0, 1) := by decide +kernel
theorem d_ER_start_37 : decode b_ER_start 37 = .ok (.iload_n 2, 1) := by decide +kernel
theorem d_ER_start_38 : decode b_ER_start 38 = .ok (.invokevirtual 50, 3) := by decide +kernel
theorem d_ER_start_41 : decode b_ER_start 41 = .ok (.aload_n 0, 1) := by decide +kernel
theorem d_ER_start_42 : decode b_ER_start 42 = .ok (.getfield 25, 3) := by decide +kernel
theorem d_ER_start_45 : decode b_ER_start 45 = .ok (.iload_n 1, 1) := by decide +kernel
theorem d_ER_start_46 : decode b_ER_start 46 = .ok (.aaload, 1) := by decide +kernel
theorem d_ER_start_47 : decode b_ER_start 47 = .ok (.invokevirtual 54, 3) := by decide +kernel
theorem d_ER_start_50 : decode b_ER_start 50 = .ok (.iconst 1, 1) := by decide +kernel
theorem d_ER_start_51 : decode b_ER_start 51 = .ok (.ireturn, 1) := by decide +kernel
theorem d_ER_pass_0 : decode b_ER_pass 0 = .ok (.aload_n 0, 1) := by decide +kernel
theorem d_ER_pass_1 : decode b_ER_pass 1 = .ok (.iload_n 1, 1) := by decide +kernel
theorem d_ER_pass_2 : decode b_ER_pass 2 = .ok (.invokevirtual 57, 3) := by decide +kernel
theorem d_ER_pass_5 : decode b_ER_pass 5 = .ok (.ifCond .eq 27, 3) := by decide +kernel
theorem d_ER_pass_8 : decode b_ER_pass 8 = .ok (.aload_n 0, 1) := by decide +kernel
theorem d_ER_pass_9 : decode b_ER_pass 9 = .ok (.iload_n 2, 1) := by decide +kernel
theorem d_ER_pass_10 : decode b_ER_pass 10 = .ok (.invokevirtual 32, 3) := by decide +kernel
theorem d_ER_pass_13 : decode b_ER_pass 13 = .ok (.ifCond .eq 19, 3) := by decide +kernel
theorem d_ER_pass_16 : decode b_ER_pass 16 = .ok (.iload_n 1, 1) := by decide +kernel
theorem d_ER_pass_17 : decode b_ER_pass 17 = .ok (.iload_n 2, 1) := by decide +kernel
theorem d_ER_pass_18 : decode b_ER_pass 18 = .ok (.if_icmp .eq 14, 3) := by decide +kernel
theorem d_ER_pass_21 : decode b_ER_pass 21 = .ok (.iload_n 3, 1) := by decide +kernel
theorem d_ER_pass_22 : decode b_ER_pass 22 = .ok (.iconst 1, 1) := by decide +kernel
theorem d_ER_pass_23 : decode b_ER_pass 23 = .ok (.if_icmp .lt 9, 3) := by decide +kernel
theorem d_ER_pass_26 : decode b_ER_pass 26 = .ok (.iload_n 3, 1) := by decide +kernel
theorem d_ER_pass_27 : decode b_ER_pass 27 = .ok (.bipush 100, 2) := by decide +kernel
theorem d_ER_pass_29 : decode b_ER_pass 29 = .ok (.if_icmp .le 5, 3) := by decide +kernel
theorem d_ER_pass_32 : decode b_ER_pass 32 = .ok (.iconst (-1), 1) := by decide +kernel
theorem d_ER_pass_33 : decode b_ER_pass 33 = .ok (.ireturn, 1) := by decide +kernel
theorem d_ER_pass_34 : decode b_ER_pass 34 = .ok (.iconst 0, 1) := by decide +kernel
theorem d_ER_pass_35 : decode b_ER_pass 35 = .ok (.istore 4, 2) := by decide +kernel
theorem d_ER_pass_37 : decode b_ER_pass 37 = .ok (.iload 4, 2) := by decide +kernel
theorem d_ER_pass_39 : decode b_ER_pass 39 = .ok (.iload_n 3, 1) := by decide +kernel
theorem d_ER_pass_40 : decode b_ER_pass 40 = .ok (.if_icmp .ge 40, 3) := by decide +kernel
theorem d_ER_pass_43 : decode b_ER_pass 43 = .ok (.aload_n 0, 1) := by decide +kernel
theorem d_ER_pass_44 : decode b_ER_pass 44 = .ok (.getfield 25, 3) := by decide +kernel
theorem d_ER_pass_47 : decode b_ER_pass 47 = .ok (.iload_n 2, 1) := by decide +kernel
theorem d_ER_pass_48 : decode b_ER_pass 48 = .ok (.aaload, 1) := by decide +kernel
theorem d_ER_pass_49 : decode b_ER_pass 49 = .ok (.iload_n 1, 1) := by decide +kernel
theorem d_ER_pass_50 : decode b_ER_pass 50 = .ok (.aload_n 0, 1) := by decide +kernel
theorem d_ER_pass_51 : decode b_ER_pass 51 = .ok (.getfield 25, 3) := by decide +kernel
theorem d_ER_pass_54 : decode b_ER_pass 54 = .ok (.iload_n 1, 1) := by decide +kernel
theorem d_ER_pass_55 : decode b_ER_pass 55 = .ok (.aaload, 1) := by decide +kernel
theorem d_ER_pass_56 : decode b_ER_pass 56 = .ok (.getfield 60, 3) := by decide +kernel
theorem d_ER_pass_59 : decode b_ER_pass 59 = .ok (.invokevirtual 64, 3) := by decide +kernel
theorem d_ER_pass_62 : decode b_ER_pass 62 = .ok (.ifCond .eq 18, 3) := by decide +kernel
theorem d_ER_pass_65 : decode b_ER_pass 65 = .ok (.aload_n 0, 1) := by decide +kernel
theorem d_ER_pass_66 : decode b_ER_pass 66 = .ok (.getfield 25, 3) := by decide +kernel
theorem d_ER_pass_69 : decode b_ER_pass 69 = .ok (.iload_n 2, 1) := by decide +kernel
theorem d_ER_pass_70 : decode b_ER_pass 70 = .ok (.aaload, 1) := by decide +kernel
theorem d_ER_pass_71 : decode b_ER_pass 71 = .ok (.invokevirtual 54, 3) := by decide +kernel
theorem d_ER_pass_74 : decode b_ER_pass 74 = .ok (.iinc 4 1, 3) := by decide +kernel
theorem d_ER_pass_77 : decode b_ER_pass 77 = .ok (.goto (-40), 3) := by decide +kernel
theorem d_ER_pass_80 : decode b_ER_pass 80 = .ok (.iload 4, 2) := by decide +kernel
theorem d_ER_pass_82 : decode b_ER_pass 82 = .ok (.ireturn, 1) := by decide +kernel
theorem d_ER_forge_0 : decode b_ER_forge 0 = .ok (.aload_n 0, 1) := by decide +kernel
theorem d_ER_forge_1 : decode b_ER_forge 1 = .ok (.iload_n 1, 1) := by decide +kernel
theorem d_ER_forge_2 : decode b_ER_forge 2 = .ok (.invokevirtual 57, 3) := by decide +kernel
theorem d_ER_forge_5 : decode b_ER_forge 5 = .ok (.ifCond .eq 23, 3) := by decide +kernel
theorem d_ER_forge_8 : decode b_ER_forge 8 = .ok (.aload_n 0, 1) := by decide +kernel
theorem d_ER_forge_9 : decode b_ER_forge 9 = .ok (.getfield 25, 3) := by decide +kernel
theorem d_ER_forge_12 : decode b_ER_forge 12 = .ok (.iload_n 1, 1) := by decide +kernel
theorem d_ER_forge_13 : decode b_ER_forge 13 = .ok (.aaload, 1) := by decide +kernel
theorem d_ER_forge_14 : decode b_ER_forge 14 = .ok (.getfield 36, 3) := by decide +kernel
theorem d_ER_forge_17 : decode b_ER_forge 17 = .ok (.ifCond .ne 11, 3) := by decide +kernel
theorem d_ER_forge_20 : decode b_ER_forge 20 = .ok (.aload_n 0, 1) := by decide +kernel
theorem d_ER_forge_21 : decode b_ER_forge 21 = .ok (.iload_n 2, 1) := by decide +kernel
theorem d_ER_forge_22 : decode b_ER_forge 22 = .ok (.invokevirtual 32, 3) := by decide +kernel
theorem d_ER_forge_25 : decode b_ER_forge 25 = .ok (.ifCond .ne 5, 3) := by decide +kernel
theorem d_ER_forge_28 : decode b_ER_forge 28 = .ok (.iconst 0, 1) := by decide +kernel
theorem d_ER_forge_29 : decode b_ER_forge 29 = .ok (.ireturn, 1) := by decide +kernel
theorem d_ER_forge_30 : decode b_ER_forge 30 = .ok (.iload_n 3, 1) := by decide +kernel
theorem d_ER_forge_31 : decode b_ER_forge 31 = .ok (.invokestatic 68, 3) := by decide +kernel
theorem d_ER_forge_34 : decode b_ER_forge 34 = .ok (.ifCond .eq 24, 3) := by decide +kernel
theorem d_ER_forge_37 : decode b_ER_forge 37 = .ok (.aload_n 0, 1) := by decide +kernel
theorem d_ER_forge_38 : decode b_ER_forge 38 = .ok (.iload 4, 2) := by decide +kernel
theorem d_ER_forge_40 : decode b_ER_forge 40 = .ok (.invokevirtual 57, 3) := by decide +kernel
theorem d_ER_forge_43 : decode b_ER_forge 43 = .ok (.ifCond .eq 15, 3) := by decide +kernel
theorem d_ER_forge_46 : decode b_ER_forge 46 = .ok (.iload 5, 2) := by decide +kernel
theorem d_ER_forge_48 : decode b_ER_forge 48 = .ok (.ifCond .lt 10, 3) := by decide +kernel
theorem d_ER_forge_51 : decode b_ER_forge 51 = .ok (.iload 5, 2) := by decide +kernel
theorem d_ER_forge_53 : decode b_ER_forge 53 = .ok (.bipush 12, 2) := by decide +kernel
theorem d_ER_forge_55 : decode b_ER_forge 55 = .ok (.if_icmp .lt 5, 3) := by decide +kernel
theorem d_ER_forge_58 : decode b_ER_forge 58 = .ok (.iconst 0, 1) := by decide +kernel
theorem d_ER_forge_59 : decode b_ER_forge 59 = .ok (.ireturn, 1) := by decide +kernel
theorem d_ER_forge_60 : decode b_ER_forge 60 = .ok (.aload_n 0, 1) := by decide +kernel
theorem d_ER_forge_61 : decode b_ER_forge 61 = .ok (.getfield 25, 3) := by decide +kernel
theorem d_ER_forge_64 : decode b_ER_forge 64 = .ok (.iload_n 2, 1) := by decide +kernel
theorem d_ER_forge_65 : decode b_ER_forge 65 = .ok (.aaload, 1) := by decide +kernel
theorem d_ER_forge_66 : decode b_ER_forge 66 = .ok (.iload_n 1, 1) := by decide +kernel
theorem d_ER_forge_67 : decode b_ER_forge 67 = .ok (.iload 5, 2) := by decide +kernel
theorem d_ER_forge_69 : decode b_ER_forge 69 = .ok (.iconst 4, 1) := by decide +kernel
theorem d_ER_forge_70 : decode b_ER_forge 70 = .ok (.idiv, 1) := by decide +kernel
theorem d_ER_forge_71 : decode b_ER_forge 71 = .ok (.iload_n 3, 1) := by decide +kernel
theorem d_ER_forge_72 : decode b_ER_forge 72 = .ok (.iload 4, 2) := by decide +kernel
theorem d_ER_forge_74 : decode b_ER_forge 74 = .ok (.iload 5, 2) := by decide +kernel
theorem d_ER_forge_76 : decode b_ER_forge 76 = .ok (.iconst 4, 1) := by decide +kernel
theorem d_ER_forge_77 : decode b_ER_forge 77 = .ok (.irem, 1) := by decide +kernel
theorem d_ER_forge_78 : decode b_ER_forge 78 = .ok (.invokestatic 71, 3) := by decide +kernel
theorem d_ER_forge_81 : decode b_ER_forge 81 = .ok (.invokevirtual 75, 3) := by decide +kernel
theorem d_ER_forge_84 : decode b_ER_forge 84 = .ok (.istore 6, 2) := by decide +kernel
theorem d_ER_forge_86 : decode b_ER_forge 86 = .ok (.aload_n 0, 1) := by decide +kernel
theorem d_ER_forge_87 : decode b_ER_forge 87 = .ok (.getfield 25, 3) := by decide +kernel
theorem d_ER_forge_90 : decode b_ER_forge 90 = .ok (.iload_n 2, 1) := by decide +kernel
theorem d_ER_forge_91 : decode b_ER_forge 91 = .ok (.aaload, 1) := by decide +kernel
theorem d_ER_forge_92 : decode b_ER_forge 92 = .ok (.invokevirtual 54, 3) := by decide +kernel
theorem d_ER_forge_95 : decode b_ER_forge 95 = .ok (.iload 6, 2) := by decide +kernel
theorem d_ER_forge_97 : decode b_ER_forge 97 = .ok (.ireturn, 1) := by decide +kernel
