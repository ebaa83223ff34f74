/-! decode rows, by program: BreakerTrials -/
theorem dX3_init_0 : decode cX3_init 0 = .ok (.aload_n 0, 1) := by decide +kernel
theorem dX3_init_1 : decode cX3_init 1 = .ok (.invokespecial 1, 3) := by decide +kernel
theorem dX3_init_4 : decode cX3_init 4 = .ok (.aload_n 0, 1) := by decide +kernel
theorem dX3_init_5 : decode cX3_init 5 = .ok (.new 7, 3) := by decide +kernel
theorem dX3_init_8 : decode cX3_init 8 = .ok (.dup, 1) := by decide +kernel
theorem dX3_init_9 : decode cX3_init 9 = .ok (.invokespecial 9, 3) := by decide +kernel
theorem dX3_init_12 : decode cX3_init 12 = .ok (.putfield 10, 3) := by decide +kernel
theorem dX3_init_15 : decode cX3_init 15 = .ok (.aload_n 0, 1) := by decide +kernel
theorem dX3_init_16 : decode cX3_init 16 = .ok (.new 7, 3) := by decide +kernel
theorem dX3_init_19 : decode cX3_init 19 = .ok (.dup, 1) := by decide +kernel
theorem dX3_init_20 : decode cX3_init 20 = .ok (.invokespecial 9, 3) := by decide +kernel
theorem dX3_init_23 : decode cX3_init 23 = .ok (.putfield 16, 3) := by decide +kernel
theorem dX3_init_26 : decode cX3_init 26 = .ok (.aload_n 0, 1) := by decide +kernel
theorem dX3_init_27 : decode cX3_init 27 = .ok (.bipush 6, 2) := by decide +kernel
theorem dX3_init_29 : decode cX3_init 29 = .ok (.anewarray 7, 3) := by decide +kernel
theorem dX3_init_32 : decode cX3_init 32 = .ok (.putfield 19, 3) := by decide +kernel
theorem dX3_init_35 : decode cX3_init 35 = .ok (.aload_n 0, 1) := by decide +kernel
theorem dX3_init_36 : decode cX3_init 36 = .ok (.new 23, 3) := by decide +kernel
theorem dX3_init_39 : decode cX3_init 39 = .ok (.dup, 1) := by decide +kernel
theorem dX3_init_40 : decode cX3_init 40 = .ok (.invokespecial 25, 3) := by decide +kernel
theorem dX3_init_43 : decode cX3_init 43 = .ok (.putfield 26, 3) := by decide +kernel
theorem dX3_init_46 : decode cX3_init 46 = .ok (.iconst 0, 1) := by decide +kernel
theorem dX3_init_47 : decode cX3_init 47 = .ok (.istore_n 1, 1) := by decide +kernel
theorem dX3_init_48 : decode cX3_init 48 = .ok (.iload_n 1, 1) := by decide +kernel
theorem dX3_init_49 : decode cX3_init 49 = .ok (.bipush 6, 2) := by decide +kernel
theorem dX3_init_51 : decode cX3_init 51 = .ok (.if_icmp .ge 22, 3) := by decide +kernel
theorem dX3_init_54 : decode cX3_init 54 = .ok (.aload_n 0, 1) := by decide +kernel
theorem dX3_init_55 : decode cX3_init 55 = .ok (.getfield 19, 3) := by decide +kernel
theorem dX3_init_58 : decode cX3_init 58 = .ok (.iload_n 1, 1) := by decide +kernel
theorem dX3_init_59 : decode cX3_init 59 = .ok (.new 7, 3) := by decide +kernel
theorem dX3_init_62 : decode cX3_init 62 = .ok (.dup, 1) := by decide +kernel
theorem dX3_init_63 : decode cX3_init 63 = .ok (.invokespecial 9, 3) := by decide +kernel
theorem dX3_init_66 : decode cX3_init 66 = .ok (.aastore, 1) := by decide +kernel
theorem dX3_init_67 : decode cX3_init 67 = .ok (.iinc 1 1, 3) := by decide +kernel
theorem dX3_init_70 : decode cX3_init 70 = .ok (.goto (-22), 3) := by decide +kernel
theorem dX3_init_73 : decode cX3_init 73 = .ok (.return_, 1) := by decide +kernel
theorem dX3_call_0 : decode cX3_call 0 = .ok (.iload_n 1, 1) := by decide +kernel
theorem dX3_call_1 : decode cX3_call 1 = .ok (.invokestatic 30, 3) := by decide +kernel
theorem dX3_call_4 : decode cX3_call 4 = .ok (.aload_n 0, 1) := by decide +kernel
theorem dX3_call_5 : decode cX3_call 5 = .ok (.getfield 10, 3) := by decide +kernel
theorem dX3_call_8 : decode cX3_call 8 = .ok (.iload_n 1, 1) := by decide +kernel
theorem dX3_call_9 : decode cX3_call 9 = .ok (.invokevirtual 34, 3) := by decide +kernel
theorem dX3_call_12 : decode cX3_call 12 = .ok (.ifCond .eq 13, 3) := by decide +kernel
theorem dX3_call_15 : decode cX3_call 15 = .ok (.new 38, 3) := by decide +kernel
theorem dX3_call_18 : decode cX3_call 18 = .ok (.dup, 1) := by decide +kernel
theorem dX3_call_19 : decode cX3_call 19 = .ok (.ldc 40, 2) := by decide +kernel
theorem dX3_call_21 : decode cX3_call 21 = .ok (.invokespecial 42, 3) := by decide +kernel
theorem dX3_call_24 : decode cX3_call 24 = .ok (.athrow, 1) := by decide +kernel
theorem dX3_call_25 : decode cX3_call 25 = .ok (.aload_n 0, 1) := by decide +kernel
theorem dX3_call_26 : decode cX3_call 26 = .ok (.invokevirtual 45, 3) := by decide +kernel
theorem dX3_call_29 : decode cX3_call 29 = .ok (.aload_n 0, 1) := by decide +kernel
theorem dX3_call_30 : decode cX3_call 30 = .ok (.getfield 10, 3) := by decide +kernel
theorem dX3_call_33 : decode cX3_call 33 = .ok (.iload_n 1, 1) := by decide +kernel
theorem dX3_call_34 : decode cX3_call 34 = .ok (.invokevirtual 48, 3) := by decide +kernel
theorem dX3_call_37 : decode cX3_call 37 = .ok (.ireturn, 1) := by decide +kernel
theorem dX3_callOften_0 : decode cX3_callOften 0 = .ok (.iload_n 1, 1) := by decide +kernel
theorem dX3_callOften_1 : decode cX3_callOften 1 = .ok (.invokestatic 30, 3) := by decide +kernel
theorem dX3_callOften_4 : decode cX3_callOften 4 = .ok (.iload_n 2, 1) := by decide +kernel
theorem dX3_callOften_5 : decode cX3_callOften 5 = .ok (.iconst 1, 1) := by decide +kernel
theorem dX3_callOften_6 : decode cX3_callOften 6 = .ok (.bipush 50, 2) := by decide +kernel
theorem dX3_callOften_8 : decode cX3_callOften 8 = .ok (.invokestatic 52, 3) := by decide +kernel
theorem dX3_callOften_11 : decode cX3_callOften 11 = .ok (.iload_n 3, 1) := by decide +kernel
theorem dX3_callOften_12 : decode cX3_callOften 12 = .ok (.iconst 0, 1) := by decide +kernel
theorem dX3_callOften_13 : decode cX3_callOften 13 = .ok (.bipush 50, 2) := by decide +kernel
theorem dX3_callOften_15 : decode cX3_callOften 15 = .ok (.invokestatic 52, 3) := by decide +kernel
theorem dX3_callOften_18 : decode cX3_callOften 18 = .ok (.aload_n 0, 1) := by decide +kernel
theorem dX3_callOften_19 : decode cX3_callOften 19 = .ok (.invokevirtual 45, 3) := by decide +kernel
theorem dX3_callOften_22 : decode cX3_callOften 22 = .ok (.aload_n 0, 1) := by decide +kernel
theorem dX3_callOften_23 : decode cX3_callOften 23 = .ok (.getfield 10, 3) := by decide +kernel
theorem dX3_callOften_26 : decode cX3_callOften 26 = .ok (.iload_n 1, 1) := by decide +kernel
theorem dX3_callOften_27 : decode cX3_callOften 27 = .ok (.iload_n 2, 1) := by decide +kernel
theorem dX3_callOften_28 : decode cX3_callOften 28 = .ok (.iload_n 3, 1) := by decide +kernel
theorem dX3_callOften_29 : decode cX3_callOften 29 = .ok (.invokevirtual 56, 3) := by decide +kernel
theorem dX3_callOften_32 : decode cX3_callOften 32 = .ok (.ireturn, 1) := by decide +kernel
theorem dX3_callHealthiest_0 : decode cX3_callHealthiest 0 = .ok (.aload_n 0, 1) := by decide +kernel
theorem dX3_callHealthiest_1 : decode cX3_callHealthiest 1 = .ok (.getfield 10, 3) := by decide +kernel
theorem dX3_callHealthiest_4 : decode cX3_callHealthiest 4 = .ok (.invokevirtual 60, 3) := by decide +kernel
theorem dX3_callHealthiest_7 : decode cX3_callHealthiest 7 = .ok (.ifCond .eq 13, 3) := by decide +kernel
theorem dX3_callHealthiest_10 : decode cX3_callHealthiest 10 = .ok (.new 38, 3) := by decide +kernel
theorem dX3_callHealthiest_13 : decode cX3_callHealthiest 13 = .ok (.dup, 1) := by decide +kernel
theorem dX3_callHealthiest_14 : decode cX3_callHealthiest 14 = .ok (.ldc 40, 2) := by decide +kernel
theorem dX3_callHealthiest_16 : decode cX3_callHealthiest 16 = .ok (.invokespecial 42, 3) := by decide +kernel
theorem dX3_callHealthiest_19 : decode cX3_callHealthiest 19 = .ok (.athrow, 1) := by decide +kernel
theorem dX3_callHealthiest_20 : decode cX3_callHealthiest 20 = .ok (.aload_n 0, 1) := by decide +kernel
theorem dX3_callHealthiest_21 : decode cX3_callHealthiest 21 = .ok (.invokevirtual 45, 3) := by decide +kernel
theorem dX3_callHealthiest_24 : decode cX3_callHealthiest 24 = .ok (.aload_n 0, 1) := by decide +kernel
theorem dX3_callHealthiest_25 : decode cX3_callHealthiest 25 = .ok (.getfield 10, 3) := by decide +kernel
theorem dX3_callHealthiest_28 : decode cX3_callHealthiest 28 = .ok (.invokevirtual 64, 3) := by decide +kernel
theorem dX3_callHealthiest_31 : decode cX3_callHealthiest 31 = .ok (.istore_n 1, 1) := by decide +kernel
theorem dX3_callHealthiest_32 : decode cX3_callHealthiest 32 = .ok (.iload_n 1, 1) := by decide +kernel
theorem dX3_callHealthiest_33 : decode cX3_callHealthiest 33 = .ok (.iconst (-1), 1) := by decide +kernel
theorem dX3_callHealthiest_34 : decode cX3_callHealthiest 34 = .ok (.if_icmp .eq 12, 3) := by decide +kernel
theorem dX3_callHealthiest_37 : decode cX3_callHealthiest 37 = .ok (.aload_n 0, 1) := by decide +kernel
theorem dX3_callHealthiest_38 : decode cX3_callHealthiest 38 = .ok (.getfield 10, 3) := by decide +kernel
theorem dX3_callHealthiest_41 : decode cX3_callHealthiest 41 = .ok (.iload_n 1, 1) := by decide +kernel
theorem dX3_callHealthiest_42 : decode cX3_callHealthiest 42 = .ok (.invokevirtual 48, 3) := by decide +kernel
theorem dX3_callHealthiest_45 : decode cX3_callHealthiest 45 = .ok (.pop, 1) := by decide +kernel
theorem dX3_callHealthiest_46 : decode cX3_callHealthiest 46 = .ok (.iload_n 1, 1) := by decide +kernel
theorem dX3_callHealthiest_47 : decode cX3_callHealthiest 47 = .ok (.ireturn, 1) := by decide +kernel
theorem dX3_close_0 : decode cX3_close 0 = .ok (.iload_n 1, 1) := by decide +kernel
theorem dX3_close_1 : decode cX3_close 1 = .ok (.invokestatic 30, 3) := by decide +kernel
theorem dX3_close_4 : decode cX3_close 4 = .ok (.aload_n 0, 1) := by decide +kernel
theorem dX3_close_5 : decode cX3_close 5 = .ok (.invokevirtual 45, 3) := by decide +kernel
theorem dX3_close_8 : decode cX3_close 8 = .ok (.aload_n 0, 1) := by decide +kernel
theorem dX3_close_9 : decode cX3_close 9 = .ok (.getfield 10, 3) := by decide +kernel
theorem dX3_close_12 : decode cX3_close 12 = .ok (.iload_n 1, 1) := by decide +kernel
theorem dX3_close_13 : decode cX3_close 13 = .ok (.invokevirtual 68, 3) := by decide +kernel
theorem dX3_close_16 : decode cX3_close 16 = .ok (.ireturn, 1) := by decide +kernel
theorem dX3_set_0 : decode cX3_set 0 = .ok (.iload_n 1, 1) := by decide +kernel
theorem dX3_set_1 : decode cX3_set 1 = .ok (.invokestatic 71, 3) := by decide +kernel
theorem dX3_set_4 : decode cX3_set 4 = .ok (.iload_n 2, 1) := by decide +kernel
theorem dX3_set_5 : decode cX3_set 5 = .ok (.getstatic 74, 3) := by decide +kernel
theorem dX3_set_8 : decode cX3_set 8 = .ok (.iload_n 1, 1) := by decide +kernel
theorem dX3_set_9 : decode cX3_set 9 = .ok (.iaload, 1) := by decide +kernel
theorem dX3_set_10 : decode cX3_set 10 = .ok (.getstatic 78, 3) := by decide +kernel
theorem dX3_set_13 : decode cX3_set 13 = .ok (.iload_n 1, 1) := by decide +kernel
theorem dX3_set_14 : decode cX3_set 14 = .ok (.iaload, 1) := by decide +kernel
theorem dX3_set_15 : decode cX3_set 15 = .ok (.invokestatic 52, 3) := by decide +kernel
theorem dX3_set_18 : decode cX3_set 18 = .ok (.aload_n 0, 1) := by decide +kernel
theorem dX3_set_19 : decode cX3_set 19 = .ok (.invokevirtual 45, 3) := by decide +kernel
theorem dX3_set_22 : decode cX3_set 22 = .ok (.aload_n 0, 1) := by decide +kernel
theorem dX3_set_23 : decode cX3_set 23 = .ok (.getfield 10, 3) := by decide +kernel
theorem dX3_set_26 : decode cX3_set 26 = .ok (.getfield 81, 3) := by decide +kernel
theorem dX3_set_29 : decode cX3_set 29 = .ok (.iload_n 1, 1) := by decide +kernel
theorem dX3_set_30 : decode cX3_set 30 = .ok (.iaload, 1) := by decide +kernel
theorem dX3_set_31 : decode cX3_set 31 = .ok (.istore_n 3, 1) := by decide +kernel
theorem dX3_set_32 : decode cX3_set 32 = .ok (.aload_n 0, 1) := by decide +kernel
theorem dX3_set_33 : decode cX3_set 33 = .ok (.getfield 10, 3) := by decide +kernel
theorem dX3_set_36 : decode cX3_set 36 = .ok (.getfield 81, 3) := by decide +kernel
theorem dX3_set_39 : decode cX3_set 39 = .ok (.iload_n 1, 1) := by decide +kernel
theorem dX3_set_40 : decode cX3_set 40 = .ok (.iload_n 2, 1) := by decide +kernel
theorem dX3_set_41 : decode cX3_set 41 = .ok (.iastore, 1) := by decide +kernel
theorem dX3_set_42 : decode cX3_set 42 = .ok (.iload_n 3, 1) := by decide +kernel
theorem dX3_set_43 : decode cX3_set 43 = .ok (.ireturn, 1) := by decide +kernel
theorem dX3_pass_0 : decode cX3_pass 0 = .ok (.iload_n 1, 1) := by decide +kernel
theorem dX3_pass_1 : decode cX3_pass 1 = .ok (.iconst 1, 1) := by decide +kernel
theorem dX3_pass_2 : decode cX3_pass 2 = .ok (.sipush 200, 3) := by decide +kernel
theorem dX3_pass_5 : decode cX3_pass 5 = .ok (.invokestatic 52, 3) := by decide +kernel
theorem dX3_pass_8 : decode cX3_pass 8 = .ok (.aload_n 0, 1) := by decide +kernel
theorem dX3_pass_9 : decode cX3_pass 9 = .ok (.invokevirtual 45, 3) := by decide +kernel
theorem dX3_pass_12 : decode cX3_pass 12 = .ok (.aload_n 0, 1) := by decide +kernel
theorem dX3_pass_13 : decode cX3_pass 13 = .ok (.getfield 10, 3) := by decide +kernel
theorem dX3_pass_16 : decode cX3_pass 16 = .ok (.iload_n 1, 1) := by decide +kernel
theorem dX3_pass_17 : decode cX3_pass 17 = .ok (.invokevirtual 84, 3) := by decide +kernel
theorem dX3_pass_20 : decode cX3_pass 20 = .ok (.ireturn, 1) := by decide +kernel
theorem dX3_append_0 : decode cX3_append 0 = .ok (.iload_n 1, 1) := by decide +kernel
theorem dX3_append_1 : decode cX3_append 1 = .ok (.bipush 33, 2) := by decide +kernel
theorem dX3_append_3 : decode cX3_append 3 = .ok (.bipush 126, 2) := by decide +kernel
theorem dX3_append_5 : decode cX3_append 5 = .ok (.invokestatic 52, 3) := by decide +kernel
theorem dX3_append_8 : decode cX3_append 8 = .ok (.aload_n 0, 1) := by decide +kernel
theorem dX3_append_9 : decode cX3_append 9 = .ok (.getfield 26, 3) := by decide +kernel
theorem dX3_append_12 : decode cX3_append 12 = .ok (.invokevirtual 87, 3) := by decide +kernel
theorem dX3_append_15 : decode cX3_append 15 = .ok (.ifCond .eq 13, 3) := by decide +kernel
theorem dX3_append_18 : decode cX3_append 18 = .ok (.new 38, 3) := by decide +kernel
theorem dX3_append_21 : decode cX3_append 21 = .ok (.dup, 1) := by decide +kernel
theorem dX3_append_22 : decode cX3_append 22 = .ok (.ldc 88, 2) := by decide +kernel
theorem dX3_append_24 : decode cX3_append 24 = .ok (.invokespecial 42, 3) := by decide +kernel
theorem dX3_append_27 : decode cX3_append 27 = .ok (.athrow, 1) := by decide +kernel
theorem dX3_append_28 : decode cX3_append 28 = .ok (.aload_n 0, 1) := by decide +kernel
theorem dX3_append_29 : decode cX3_append 29 = .ok (.getfield 26, 3) := by decide +kernel
theorem dX3_append_32 : decode cX3_append 32 = .ok (.iload_n 1, 1) := by decide +kernel
theorem dX3_append_33 : decode cX3_append 33 = .ok (.invokevirtual 90, 3) := by decide +kernel
theorem dX3_append_36 : decode cX3_append 36 = .ok (.ireturn, 1) := by decide +kernel
theorem dX3_clearBuffer_0 : decode cX3_clearBuffer 0 = .ok (.aload_n 0, 1) := by decide +kernel
theorem dX3_clearBuffer_1 : decode cX3_clearBuffer 1 = .ok (.getfield 26, 3) := by decide +kernel
theorem dX3_clearBuffer_4 : decode cX3_clearBuffer 4 = .ok (.invokevirtual 93, 3) := by decide +kernel
theorem dX3_clearBuffer_7 : decode cX3_clearBuffer 7 = .ok (.ireturn, 1) := by decide +kernel
theorem dX3_delays_0 : decode cX3_delays 0 = .ok (.iload_n 1, 1) := by decide +kernel
theorem dX3_delays_1 : decode cX3_delays 1 = .ok (.invokestatic 30, 3) := by decide +kernel
theorem dX3_delays_4 : decode cX3_delays 4 = .ok (.aload_n 0, 1) := by decide +kernel
theorem dX3_delays_5 : decode cX3_delays 5 = .ok (.getfield 26, 3) := by decide +kernel
theorem dX3_delays_8 : decode cX3_delays 8 = .ok (.invokevirtual 99, 3) := by decide +kernel
theorem dX3_delays_11 : decode cX3_delays 11 = .ok (.ifCond .ne 13, 3) := by decide +kernel
theorem dX3_delays_14 : decode cX3_delays 14 = .ok (.new 102, 3) := by decide +kernel
theorem dX3_delays_17 : decode cX3_delays 17 = .ok (.dup, 1) := by decide +kernel
theorem dX3_delays_18 : decode cX3_delays 18 = .ok (.ldc 104, 2) := by decide +kernel
theorem dX3_delays_20 : decode cX3_delays 20 = .ok (.invokespecial 106, 3) := by decide +kernel
theorem dX3_delays_23 : decode cX3_delays 23 = .ok (.athrow, 1) := by decide +kernel
theorem dX3_delays_24 : decode cX3_delays 24 = .ok (.aload_n 0, 1) := by decide +kernel
theorem dX3_delays_25 : decode cX3_delays 25 = .ok (.invokevirtual 45, 3) := by decide +kernel
theorem dX3_delays_28 : decode cX3_delays 28 = .ok (.aload_n 0, 1) := by decide +kernel
theorem dX3_delays_29 : decode cX3_delays 29 = .ok (.getfield 10, 3) := by decide +kernel
theorem dX3_delays_32 : decode cX3_delays 32 = .ok (.getfield 107, 3) := by decide +kernel
theorem dX3_delays_35 : decode cX3_delays 35 = .ok (.iload_n 1, 1) := by decide +kernel
theorem dX3_delays_36 : decode cX3_delays 36 = .ok (.aaload, 1) := by decide +kernel
theorem dX3_delays_37 : decode cX3_delays 37 = .ok (.aload_n 0, 1) := by decide +kernel
theorem dX3_delays_38 : decode cX3_delays 38 = .ok (.getfield 26, 3) := by decide +kernel
theorem dX3_delays_41 : decode cX3_delays 41 = .ok (.invokevirtual 111, 3) := by decide +kernel
theorem dX3_delays_44 : decode cX3_delays 44 = .ok (.istore_n 2, 1) := by decide +kernel
theorem dX3_delays_45 : decode cX3_delays 45 = .ok (.aload_n 0, 1) := by decide +kernel
theorem dX3_delays_46 : decode cX3_delays 46 = .ok (.getfield 26, 3) := by decide +kernel
theorem dX3_delays_49 : decode cX3_delays 49 = .ok (.invokevirtual 93, 3) := by decide +kernel
theorem dX3_delays_52 : decode cX3_delays 52 = .ok (.pop, 1) := by decide +kernel
theorem dX3_delays_53 : decode cX3_delays 53 = .ok (.iload_n 2, 1) := by decide +kernel
theorem dX3_delays_54 : decode cX3_delays 54 = .ok (.ireturn, 1) := by decide +kernel
theorem dX3_undo_0 : decode cX3_undo 0 = .ok (.aload_n 0, 1) := by decide +kernel
theorem dX3_undo_1 : decode cX3_undo 1 = .ok (.getfield 117, 3) := by decide +kernel
theorem dX3_undo_4 : decode cX3_undo 4 = .ok (.ifCond .gt 13, 3) := by decide +kernel
theorem dX3_undo_7 : decode cX3_undo 7 = .ok (.new 38, 3) := by decide +kernel
theorem dX3_undo_10 : decode cX3_undo 10 = .ok (.dup, 1) := by decide +kernel
theorem dX3_undo_11 : decode cX3_undo 11 = .ok (.ldc 121, 2) := by decide +kernel
theorem dX3_undo_13 : decode cX3_undo 13 = .ok (.invokespecial 42, 3) := by decide +kernel
theorem dX3_undo_16 : decode cX3_undo 16 = .ok (.athrow, 1) := by decide +kernel
theorem dX3_undo_17 : decode cX3_undo 17 = .ok (.aload_n 0, 1) := by decide +kernel
theorem dX3_undo_18 : decode cX3_undo 18 = .ok (.dup, 1) := by decide +kernel
theorem dX3_undo_19 : decode cX3_undo 19 = .ok (.getfield 117, 3) := by decide +kernel
theorem dX3_undo_22 : decode cX3_undo 22 = .ok (.iconst 1, 1) := by decide +kernel
theorem dX3_undo_23 : decode cX3_undo 23 = .ok (.isub, 1) := by decide +kernel
theorem dX3_undo_24 : decode cX3_undo 24 = .ok (.putfield 117, 3) := by decide +kernel
theorem dX3_undo_27 : decode cX3_undo 27 = .ok (.aload_n 0, 1) := by decide +kernel
theorem dX3_undo_28 : decode cX3_undo 28 = .ok (.getfield 10, 3) := by decide +kernel
theorem dX3_undo_31 : decode cX3_undo 31 = .ok (.aload_n 0, 1) := by decide +kernel
theorem dX3_undo_32 : decode cX3_undo 32 = .ok (.getfield 19, 3) := by decide +kernel
theorem dX3_undo_35 : decode cX3_undo 35 = .ok (.aload_n 0, 1) := by decide +kernel
theorem dX3_undo_36 : decode cX3_undo 36 = .ok (.getfield 123, 3) := by decide +kernel
theorem dX3_undo_39 : decode cX3_undo 39 = .ok (.aload_n 0, 1) := by decide +kernel
theorem dX3_undo_40 : decode cX3_undo 40 = .ok (.getfield 117, 3) := by decide +kernel
theorem dX3_undo_43 : decode cX3_undo 43 = .ok (.iadd, 1) := by decide +kernel
theorem dX3_undo_44 : decode cX3_undo 44 = .ok (.bipush 6, 2) := by decide +kernel
theorem dX3_undo_46 : decode cX3_undo 46 = .ok (.irem, 1) := by decide +kernel
theorem dX3_undo_47 : decode cX3_undo 47 = .ok (.aaload, 1) := by decide +kernel
theorem dX3_undo_48 : decode cX3_undo 48 = .ok (.invokevirtual 126, 3) := by decide +kernel
theorem dX3_undo_51 : decode cX3_undo 51 = .ok (.aload_n 0, 1) := by decide +kernel
theorem dX3_undo_52 : decode cX3_undo 52 = .ok (.getfield 117, 3) := by decide +kernel
theorem dX3_undo_55 : decode cX3_undo 55 = .ok (.ireturn, 1) := by decide +kernel
theorem dX3_store_0 : decode cX3_store 0 = .ok (.iload_n 1, 1) := by decide +kernel
theorem dX3_store_1 : decode cX3_store 1 = .ok (.invokestatic 30, 3) := by decide +kernel
theorem dX3_store_4 : decode cX3_store 4 = .ok (.iload_n 2, 1) := by decide +kernel
theorem dX3_store_5 : decode cX3_store 5 = .ok (.iconst 0, 1) := by decide +kernel
theorem dX3_store_6 : decode cX3_store 6 = .ok (.bipush 10, 2) := by decide +kernel
theorem dX3_store_8 : decode cX3_store 8 = .ok (.invokestatic 52, 3) := by decide +kernel
theorem dX3_store_11 : decode cX3_store 11 = .ok (.aload_n 0, 1) := by decide +kernel
theorem dX3_store_12 : decode cX3_store 12 = .ok (.getfield 10, 3) := by decide +kernel
theorem dX3_store_15 : decode cX3_store 15 = .ok (.iload_n 1, 1) := by decide +kernel
theorem dX3_store_16 : decode cX3_store 16 = .ok (.iload_n 2, 1) := by decide +kernel
theorem dX3_store_17 : decode cX3_store 17 = .ok (.invokevirtual 130, 3) := by decide +kernel
theorem dX3_store_20 : decode cX3_store 20 = .ok (.ireturn, 1) := by decide +kernel
theorem dX3_delay_0 : decode cX3_delay 0 = .ok (.iload_n 1, 1) := by decide +kernel
theorem dX3_delay_1 : decode cX3_delay 1 = .ok (.invokestatic 30, 3) := by decide +kernel
theorem dX3_delay_4 : decode cX3_delay 4 = .ok (.iload_n 2, 1) := by decide +kernel
theorem dX3_delay_5 : decode cX3_delay 5 = .ok (.invokestatic 134, 3) := by decide +kernel
theorem dX3_delay_8 : decode cX3_delay 8 = .ok (.aload_n 0, 1) := by decide +kernel
theorem dX3_delay_9 : decode cX3_delay 9 = .ok (.getfield 10, 3) := by decide +kernel
theorem dX3_delay_12 : decode cX3_delay 12 = .ok (.getfield 107, 3) := by decide +kernel
theorem dX3_delay_15 : decode cX3_delay 15 = .ok (.iload_n 1, 1) := by decide +kernel
theorem dX3_delay_16 : decode cX3_delay 16 = .ok (.aaload, 1) := by decide +kernel
theorem dX3_delay_17 : decode cX3_delay 17 = .ok (.astore_n 3, 1) := by decide +kernel
theorem dX3_delay_18 : decode cX3_delay 18 = .ok (.iload_n 2, 1) := by decide +kernel
theorem dX3_delay_19 : decode cX3_delay 19 = .ok (.aload_n 3, 1) := by decide +kernel
theorem dX3_delay_20 : decode cX3_delay 20 = .ok (.getfield 137, 3) := by decide +kernel
theorem dX3_delay_23 : decode cX3_delay 23 = .ok (.if_icmp .ge 12, 3) := by decide +kernel
theorem dX3_delay_26 : decode cX3_delay 26 = .ok (.aload_n 3, 1) := by decide +kernel
theorem dX3_delay_27 : decode cX3_delay 27 = .ok (.getfield 140, 3) := by decide +kernel
theorem dX3_delay_30 : decode cX3_delay 30 = .ok (.iload_n 2, 1) := by decide +kernel
theorem dX3_delay_31 : decode cX3_delay 31 = .ok (.iaload, 1) := by decide +kernel
theorem dX3_delay_32 : decode cX3_delay 32 = .ok (.goto 4, 3) := by decide +kernel
theorem dX3_delay_35 : decode cX3_delay 35 = .ok (.iconst (-1), 1) := by decide +kernel
theorem dX3_delay_36 : decode cX3_delay 36 = .ok (.ireturn, 1) := by decide +kernel
theorem dX3_onWay_0 : decode cX3_onWay 0 = .ok (.iload_n 1, 1) := by decide +kernel
theorem dX3_onWay_1 : decode cX3_onWay 1 = .ok (.invokestatic 134, 3) := by decide +kernel
theorem dX3_onWay_4 : decode cX3_onWay 4 = .ok (.iload_n 2, 1) := by decide +kernel
theorem dX3_onWay_5 : decode cX3_onWay 5 = .ok (.iconst 0, 1) := by decide +kernel
theorem dX3_onWay_6 : decode cX3_onWay 6 = .ok (.iconst 3, 1) := by decide +kernel
theorem dX3_onWay_7 : decode cX3_onWay 7 = .ok (.invokestatic 52, 3) := by decide +kernel
theorem dX3_onWay_10 : decode cX3_onWay 10 = .ok (.iload_n 1, 1) := by decide +kernel
theorem dX3_onWay_11 : decode cX3_onWay 11 = .ok (.aload_n 0, 1) := by decide +kernel
theorem dX3_onWay_12 : decode cX3_onWay 12 = .ok (.getfield 10, 3) := by decide +kernel
theorem dX3_onWay_15 : decode cX3_onWay 15 = .ok (.getfield 143, 3) := by decide +kernel
theorem dX3_onWay_18 : decode cX3_onWay 18 = .ok (.if_icmp .ge 17, 3) := by decide +kernel
theorem dX3_onWay_21 : decode cX3_onWay 21 = .ok (.aload_n 0, 1) := by decide +kernel
theorem dX3_onWay_22 : decode cX3_onWay 22 = .ok (.getfield 10, 3) := by decide +kernel
theorem dX3_onWay_25 : decode cX3_onWay 25 = .ok (.getfield 146, 3) := by decide +kernel
theorem dX3_onWay_28 : decode cX3_onWay 28 = .ok (.iload_n 2, 1) := by decide +kernel
theorem dX3_onWay_29 : decode cX3_onWay 29 = .ok (.aaload, 1) := by decide +kernel
theorem dX3_onWay_30 : decode cX3_onWay 30 = .ok (.iload_n 1, 1) := by decide +kernel
theorem dX3_onWay_31 : decode cX3_onWay 31 = .ok (.iaload, 1) := by decide +kernel
theorem dX3_onWay_32 : decode cX3_onWay 32 = .ok (.goto 4, 3) := by decide +kernel
theorem dX3_onWay_35 : decode cX3_onWay 35 = .ok (.iconst (-1), 1) := by decide +kernel
theorem dX3_onWay_36 : decode cX3_onWay 36 = .ok (.ireturn, 1) := by decide +kernel
theorem dX3_count_0 : decode cX3_count 0 = .ok (.iload_n 1, 1) := by decide +kernel
theorem dX3_count_1 : decode cX3_count 1 = .ok (.iconst 0, 1) := by decide +kernel
theorem dX3_count_2 : decode cX3_count 2 = .ok (.bipush 8, 2) := by decide +kernel
theorem dX3_count_4 : decode cX3_count 4 = .ok (.invokestatic 52, 3) := by decide +kernel
theorem dX3_count_7 : decode cX3_count 7 = .ok (.aload_n 0, 1) := by decide +kernel
theorem dX3_count_8 : decode cX3_count 8 = .ok (.iload_n 1, 1) := by decide +kernel
theorem dX3_count_9 : decode cX3_count 9 = .ok (.invokevirtual 150, 3) := by decide +kernel
theorem dX3_count_12 : decode cX3_count 12 = .ok (.ireturn, 1) := by decide +kernel
theorem dX3_setting_0 : decode cX3_setting 0 = .ok (.iload_n 1, 1) := by decide +kernel
theorem dX3_setting_1 : decode cX3_setting 1 = .ok (.invokestatic 71, 3) := by decide +kernel
theorem dX3_setting_4 : decode cX3_setting 4 = .ok (.aload_n 0, 1) := by decide +kernel
theorem dX3_setting_5 : decode cX3_setting 5 = .ok (.getfield 10, 3) := by decide +kernel
theorem dX3_setting_8 : decode cX3_setting 8 = .ok (.getfield 81, 3) := by decide +kernel
theorem dX3_setting_11 : decode cX3_setting 11 = .ok (.iload_n 1, 1) := by decide +kernel
theorem dX3_setting_12 : decode cX3_setting 12 = .ok (.iaload, 1) := by decide +kernel
theorem dX3_setting_13 : decode cX3_setting 13 = .ok (.ireturn, 1) := by decide +kernel
theorem dX3_freeIn_0 : decode cX3_freeIn 0 = .ok (.iload_n 1, 1) := by decide +kernel
theorem dX3_freeIn_1 : decode cX3_freeIn 1 = .ok (.invokestatic 30, 3) := by decide +kernel
theorem dX3_freeIn_4 : decode cX3_freeIn 4 = .ok (.aload_n 0, 1) := by decide +kernel
theorem dX3_freeIn_5 : decode cX3_freeIn 5 = .ok (.getfield 10, 3) := by decide +kernel
theorem dX3_freeIn_8 : decode cX3_freeIn 8 = .ok (.iload_n 1, 1) := by decide +kernel
theorem dX3_freeIn_9 : decode cX3_freeIn 9 = .ok (.invokevirtual 159, 3) := by decide +kernel
theorem dX3_freeIn_12 : decode cX3_freeIn 12 = .ok (.ireturn, 1) := by decide +kernel
theorem dX3_healthiest_0 : decode cX3_healthiest 0 = .ok (.aload_n 0, 1) := by decide +kernel
theorem dX3_healthiest_1 : decode cX3_healthiest 1 = .ok (.getfield 10, 3) := by decide +kernel
theorem dX3_healthiest_4 : decode cX3_healthiest 4 = .ok (.invokevirtual 64, 3) := by decide +kernel
theorem dX3_healthiest_7 : decode cX3_healthiest 7 = .ok (.ireturn, 1) := by decide +kernel
theorem dX3_health_0 : decode cX3_health 0 = .ok (.aload_n 0, 1) := by decide +kernel
theorem dX3_health_1 : decode cX3_health 1 = .ok (.getfield 10, 3) := by decide +kernel
theorem dX3_health_4 : decode cX3_health 4 = .ok (.invokevirtual 162, 3) := by decide +kernel
theorem dX3_health_7 : decode cX3_health 7 = .ok (.dreturn, 1) := by decide +kernel
theorem dX3_counted_0 : decode cX3_counted 0 = .ok (.iload_n 1, 1) := by decide +kernel
theorem dX3_counted_1 : decode cX3_counted 1 = .ok (.tableswitch 116 0 7 #[47, 55, 63, 72, 82, 92, 100, 108], 47) := by decide +kernel
theorem dX3_counted_48 : decode cX3_counted 48 = .ok (.aload_n 0, 1) := by decide +kernel
theorem dX3_counted_49 : decode cX3_counted 49 = .ok (.getfield 10, 3) := by decide +kernel
theorem dX3_counted_52 : decode cX3_counted 52 = .ok (.getfield 194, 3) := by decide +kernel
theorem dX3_counted_55 : decode cX3_counted 55 = .ok (.ireturn, 1) := by decide +kernel
theorem dX3_counted_56 : decode cX3_counted 56 = .ok (.aload_n 0, 1) := by decide +kernel
theorem dX3_counted_57 : decode cX3_counted 57 = .ok (.getfield 10, 3) := by decide +kernel
theorem dX3_counted_60 : decode cX3_counted 60 = .ok (.getfield 143, 3) := by decide +kernel
theorem dX3_counted_63 : decode cX3_counted 63 = .ok (.ireturn, 1) := by decide +kernel
theorem dX3_counted_64 : decode cX3_counted 64 = .ok (.aload_n 0, 1) := by decide +kernel
theorem dX3_counted_65 : decode cX3_counted 65 = .ok (.getfield 10, 3) := by decide +kernel
theorem dX3_counted_68 : decode cX3_counted 68 = .ok (.iconst 5, 1) := by decide +kernel
theorem dX3_counted_69 : decode cX3_counted 69 = .ok (.invokevirtual 197, 3) := by decide +kernel
theorem dX3_counted_72 : decode cX3_counted 72 = .ok (.ireturn, 1) := by decide +kernel
theorem dX3_counted_73 : decode cX3_counted 73 = .ok (.aload_n 0, 1) := by decide +kernel
theorem dX3_counted_74 : decode cX3_counted 74 = .ok (.getfield 10, 3) := by decide +kernel
theorem dX3_counted_77 : decode cX3_counted 77 = .ok (.bipush 6, 2) := by decide +kernel
theorem dX3_counted_79 : decode cX3_counted 79 = .ok (.invokevirtual 197, 3) := by decide +kernel
theorem dX3_counted_82 : decode cX3_counted 82 = .ok (.ireturn, 1) := by decide +kernel
theorem dX3_counted_83 : decode cX3_counted 83 = .ok (.aload_n 0, 1) := by decide +kernel
theorem dX3_counted_84 : decode cX3_counted 84 = .ok (.getfield 10, 3) := by decide +kernel
theorem dX3_counted_87 : decode cX3_counted 87 = .ok (.bipush 7, 2) := by decide +kernel
theorem dX3_counted_89 : decode cX3_counted 89 = .ok (.invokevirtual 197, 3) := by decide +kernel
theorem dX3_counted_92 : decode cX3_counted 92 = .ok (.ireturn, 1) := by decide +kernel
theorem dX3_counted_93 : decode cX3_counted 93 = .ok (.aload_n 0, 1) := by decide +kernel
theorem dX3_counted_94 : decode cX3_counted 94 = .ok (.getfield 10, 3) := by decide +kernel
theorem dX3_counted_97 : decode cX3_counted 97 = .ok (.getfield 200, 3) := by decide +kernel
theorem dX3_counted_100 : decode cX3_counted 100 = .ok (.ireturn, 1) := by decide +kernel
theorem dX3_counted_101 : decode cX3_counted 101 = .ok (.aload_n 0, 1) := by decide +kernel
theorem dX3_counted_102 : decode cX3_counted 102 = .ok (.getfield 10, 3) := by decide +kernel
theorem dX3_counted_105 : decode cX3_counted 105 = .ok (.invokevirtual 203, 3) := by decide +kernel
theorem dX3_counted_108 : decode cX3_counted 108 = .ok (.ireturn, 1) := by decide +kernel
theorem dX3_counted_109 : decode cX3_counted 109 = .ok (.aload_n 0, 1) := by decide +kernel
theorem dX3_counted_110 : decode cX3_counted 110 = .ok (.getfield 10, 3) := by decide +kernel
theorem dX3_counted_113 : decode cX3_counted 113 = .ok (.getfield 206, 3) := by decide +kernel
theorem dX3_counted_116 : decode cX3_counted 116 = .ok (.ireturn, 1) := by decide +kernel
theorem dX3_counted_117 : decode cX3_counted 117 = .ok (.aload_n 0, 1) := by decide +kernel
theorem dX3_counted_118 : decode cX3_counted 118 = .ok (.getfield 117, 3) := by decide +kernel
theorem dX3_counted_121 : decode cX3_counted 121 = .ok (.ireturn, 1) := by decide +kernel
theorem dX3_save_0 : decode cX3_save 0 = .ok (.aload_n 0, 1) := by decide +kernel
theorem dX3_save_1 : decode cX3_save 1 = .ok (.getfield 117, 3) := by decide +kernel
theorem dX3_save_4 : decode cX3_save 4 = .ok (.bipush 6, 2) := by decide +kernel
theorem dX3_save_6 : decode cX3_save 6 = .ok (.if_icmp .lt 21, 3) := by decide +kernel
theorem dX3_save_9 : decode cX3_save 9 = .ok (.aload_n 0, 1) := by decide +kernel
theorem dX3_save_10 : decode cX3_save 10 = .ok (.aload_n 0, 1) := by decide +kernel
theorem dX3_save_11 : decode cX3_save 11 = .ok (.getfield 123, 3) := by decide +kernel
theorem dX3_save_14 : decode cX3_save 14 = .ok (.iconst 1, 1) := by decide +kernel
theorem dX3_save_15 : decode cX3_save 15 = .ok (.iadd, 1) := by decide +kernel
theorem dX3_save_16 : decode cX3_save 16 = .ok (.bipush 6, 2) := by decide +kernel
theorem dX3_save_18 : decode cX3_save 18 = .ok (.irem, 1) := by decide +kernel
theorem dX3_save_19 : decode cX3_save 19 = .ok (.putfield 123, 3) := by decide +kernel
theorem dX3_save_22 : decode cX3_save 22 = .ok (.aload_n 0, 1) := by decide +kernel
theorem dX3_save_23 : decode cX3_save 23 = .ok (.iconst 5, 1) := by decide +kernel
theorem dX3_save_24 : decode cX3_save 24 = .ok (.putfield 117, 3) := by decide +kernel
theorem dX3_save_27 : decode cX3_save 27 = .ok (.aload_n 0, 1) := by decide +kernel
theorem dX3_save_28 : decode cX3_save 28 = .ok (.getfield 19, 3) := by decide +kernel
theorem dX3_save_31 : decode cX3_save 31 = .ok (.aload_n 0, 1) := by decide +kernel
theorem dX3_save_32 : decode cX3_save 32 = .ok (.getfield 123, 3) := by decide +kernel
theorem dX3_save_35 : decode cX3_save 35 = .ok (.aload_n 0, 1) := by decide +kernel
theorem dX3_save_36 : decode cX3_save 36 = .ok (.getfield 117, 3) := by decide +kernel
theorem dX3_save_39 : decode cX3_save 39 = .ok (.iadd, 1) := by decide +kernel
theorem dX3_save_40 : decode cX3_save 40 = .ok (.bipush 6, 2) := by decide +kernel
theorem dX3_save_42 : decode cX3_save 42 = .ok (.irem, 1) := by decide +kernel
theorem dX3_save_43 : decode cX3_save 43 = .ok (.aaload, 1) := by decide +kernel
theorem dX3_save_44 : decode cX3_save 44 = .ok (.aload_n 0, 1) := by decide +kernel
theorem dX3_save_45 : decode cX3_save 45 = .ok (.getfield 10, 3) := by decide +kernel
theorem dX3_save_48 : decode cX3_save 48 = .ok (.invokevirtual 126, 3) := by decide +kernel
theorem dX3_save_51 : decode cX3_save 51 = .ok (.aload_n 0, 1) := by decide +kernel
theorem dX3_save_52 : decode cX3_save 52 = .ok (.dup, 1) := by decide +kernel
theorem dX3_save_53 : decode cX3_save 53 = .ok (.getfield 117, 3) := by decide +kernel
theorem dX3_save_56 : decode cX3_save 56 = .ok (.iconst 1, 1) := by decide +kernel
theorem dX3_save_57 : decode cX3_save 57 = .ok (.iadd, 1) := by decide +kernel
theorem dX3_save_58 : decode cX3_save 58 = .ok (.putfield 117, 3) := by decide +kernel
theorem dX3_save_61 : decode cX3_save 61 = .ok (.return_, 1) := by decide +kernel
theorem dX3_requireStore_0 : decode cX3_requireStore 0 = .ok (.iload_n 0, 1) := by decide +kernel
theorem dX3_requireStore_1 : decode cX3_requireStore 1 = .ok (.ifCond .lt 8, 3) := by decide +kernel
theorem dX3_requireStore_4 : decode cX3_requireStore 4 = .ok (.iload_n 0, 1) := by decide +kernel
theorem dX3_requireStore_5 : decode cX3_requireStore 5 = .ok (.iconst 4, 1) := by decide +kernel
theorem dX3_requireStore_6 : decode cX3_requireStore 6 = .ok (.if_icmp .lt 13, 3) := by decide +kernel
theorem dX3_requireStore_9 : decode cX3_requireStore 9 = .ok (.new 218, 3) := by decide +kernel
theorem dX3_requireStore_12 : decode cX3_requireStore 12 = .ok (.dup, 1) := by decide +kernel
theorem dX3_requireStore_13 : decode cX3_requireStore 13 = .ok (.ldc 220, 2) := by decide +kernel
theorem dX3_requireStore_15 : decode cX3_requireStore 15 = .ok (.invokespecial 222, 3) := by decide +kernel
theorem dX3_requireStore_18 : decode cX3_requireStore 18 = .ok (.athrow, 1) := by decide +kernel
theorem dX3_requireStore_19 : decode cX3_requireStore 19 = .ok (.return_, 1) := by decide +kernel
theorem dX3_requireSetting_0 : decode cX3_requireSetting 0 = .ok (.iload_n 0, 1) := by decide +kernel
theorem dX3_requireSetting_1 : decode cX3_requireSetting 1 = .ok (.ifCond .lt 8, 3) := by decide +kernel
theorem dX3_requireSetting_4 : decode cX3_requireSetting 4 = .ok (.iload_n 0, 1) := by decide +kernel
theorem dX3_requireSetting_5 : decode cX3_requireSetting 5 = .ok (.iconst 5, 1) := by decide +kernel
theorem dX3_requireSetting_6 : decode cX3_requireSetting 6 = .ok (.if_icmp .lt 13, 3) := by decide +kernel
theorem dX3_requireSetting_9 : decode cX3_requireSetting 9 = .ok (.new 218, 3) := by decide +kernel
theorem dX3_requireSetting_12 : decode cX3_requireSetting 12 = .ok (.dup, 1) := by decide +kernel
theorem dX3_requireSetting_13 : decode cX3_requireSetting 13 = .ok (.ldc 223, 2) := by decide +kernel
theorem dX3_requireSetting_15 : decode cX3_requireSetting 15 = .ok (.invokespecial 222, 3) := by decide +kernel
theorem dX3_requireSetting_18 : decode cX3_requireSetting 18 = .ok (.athrow, 1) := by decide +kernel
theorem dX3_requireSetting_19 : decode cX3_requireSetting 19 = .ok (.return_, 1) := by decide +kernel
theorem dX3_requireRange_0 : decode cX3_requireRange 0 = .ok (.iload_n 0, 1) := by decide +kernel
theorem dX3_requireRange_1 : decode cX3_requireRange 1 = .ok (.iload_n 1, 1) := by decide +kernel
theorem dX3_requireRange_2 : decode cX3_requireRange 2 = .ok (.if_icmp .lt 8, 3) := by decide +kernel
theorem dX3_requireRange_5 : decode cX3_requireRange 5 = .ok (.iload_n 0, 1) := by decide +kernel
theorem dX3_requireRange_6 : decode cX3_requireRange 6 = .ok (.iload_n 2, 1) := by decide +kernel
theorem dX3_requireRange_7 : decode cX3_requireRange 7 = .ok (.if_icmp .le 13, 3) := by decide +kernel
theorem dX3_requireRange_10 : decode cX3_requireRange 10 = .ok (.new 102, 3) := by decide +kernel
theorem dX3_requireRange_13 : decode cX3_requireRange 13 = .ok (.dup, 1) := by decide +kernel
theorem dX3_requireRange_14 : decode cX3_requireRange 14 = .ok (.ldc 225, 2) := by decide +kernel
theorem dX3_requireRange_16 : decode cX3_requireRange 16 = .ok (.invokespecial 106, 3) := by decide +kernel
theorem dX3_requireRange_19 : decode cX3_requireRange 19 = .ok (.athrow, 1) := by decide +kernel
theorem dX3_requireRange_20 : decode cX3_requireRange 20 = .ok (.return_, 1) := by decide +kernel
theorem dX3_requireNotNegative_0 : decode cX3_requireNotNegative 0 = .ok (.iload_n 0, 1) := by decide +kernel
theorem dX3_requireNotNegative_1 : decode cX3_requireNotNegative 1 = .ok (.ifCond .ge 13, 3) := by decide +kernel
theorem dX3_requireNotNegative_4 : decode cX3_requireNotNegative 4 = .ok (.new 102, 3) := by decide +kernel
theorem dX3_requireNotNegative_7 : decode cX3_requireNotNegative 7 = .ok (.dup, 1) := by decide +kernel
theorem dX3_requireNotNegative_8 : decode cX3_requireNotNegative 8 = .ok (.ldc 227, 2) := by decide +kernel
theorem dX3_requireNotNegative_10 : decode cX3_requireNotNegative 10 = .ok (.invokespecial 106, 3) := by decide +kernel
theorem dX3_requireNotNegative_13 : decode cX3_requireNotNegative 13 = .ok (.athrow, 1) := by decide +kernel
theorem dX3_requireNotNegative_14 : decode cX3_requireNotNegative 14 = .ok (.return_, 1) := by decide +kernel
