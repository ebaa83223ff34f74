/-! decode rows, by program -/
theorem dX3_init_0 : decode cX3_init 0 = .ok (.aload_n 0, 1) := by decide +kernel
theorem dX3_init_1 : decode cX3_init 1 = .ok (.invokespecial 1, 3) := by decide +kernel
theorem dX3_init_4 : decode cX3_init 4 = .ok (.aload_n 0, 1) := by decide +kernel
theorem dX3_init_5 : decode cX3_init 5 = .ok (.new 7, 3) := by decide +kernel
theorem dX3_init_8 : decode cX3_init 8 = .ok (.dup, 1) := by decide +kernel
theorem dX3_init_9 : decode cX3_init 9 = .ok (.invokespecial 9, 3) := by decide +kernel
theorem dX3_init_12 : decode cX3_init 12 = .ok (.putfield 10, 3) := by decide +kernel
theorem dX3_init_15 : decode cX3_init 15 = .ok (.aload_n 0, 1) := by decide +kernel
theorem dX3_init_16 : decode cX3_init 16 = .ok (.new 7, 3) := by decide +kernel
theorem dX3_init_19 : decode cX3_init 19 = .ok (.dup, 1) := by decide +kernel
theorem dX3_init_20 : decode cX3_init 20 = .ok (.invokespecial 9, 3) := by decide +kernel
theorem dX3_init_23 : decode cX3_init 23 = .ok (.putfield 16, 3) := by decide +kernel
theorem dX3_init_26 : decode cX3_init 26 = .ok (.aload_n 0, 1) := by decide +kernel
theorem dX3_init_27 : decode cX3_init 27 = .ok (.bipush 6, 2) := by decide +kernel
theorem dX3_init_29 : decode cX3_init 29 = .ok (.anewarray 7, 3) := by decide +kernel
theorem dX3_init_32 : decode cX3_init 32 = .ok (.putfield 19, 3) := by decide +kernel
theorem dX3_init_35 : decode cX3_init 35 = .ok (.aload_n 0, 1) := by decide +kernel
theorem dX3_init_36 : decode cX3_init 36 = .ok (.new 23, 3) := by decide +kernel
theorem dX3_init_39 : decode cX3_init 39 = .ok (.dup, 1) := by decide +kernel
theorem dX3_init_40 : decode cX3_init 40 = .ok (.invokespecial 25, 3) := by decide +kernel
theorem dX3_init_43 : decode cX3_init 43 = .ok (.putfield 26, 3) := by decide +kernel
theorem dX3_init_46 : decode cX3_init 46 = .ok (.iconst 0, 1) := by decide +kernel
theorem dX3_init_47 : decode cX3_init 47 = .ok (.istore_n 1, 1) := by decide +kernel
theorem dX3_init_48 : decode cX3_init 48 = .ok (.iload_n 1, 1) := by decide +kernel
theorem dX3_init_49 : decode cX3_init 49 = .ok (.bipush 6, 2) := by decide +kernel
theorem dX3_init_51 : decode cX3_init 51 = .ok (.if_icmp .ge 22, 3) := by decide +kernel
theorem dX3_init_54 : decode cX3_init 54 = .ok (.aload_n 0, 1) := by decide +kernel
theorem dX3_init_55 : decode cX3_init 55 = .ok (.getfield 19, 3) := by decide +kernel
theorem dX3_init_58 : decode cX3_init 58 = .ok (.iload_n 1, 1) := by decide +kernel
theorem dX3_init_59 : decode cX3_init 59 = .ok (.new 7, 3) := by decide +kernel
theorem dX3_init_62 : decode cX3_init 62 = .ok (.dup, 1) := by decide +kernel
theorem dX3_init_63 : decode cX3_init 63 = .ok (.invokespecial 9, 3) := by decide +kernel
theorem dX3_init_66 : decode cX3_init 66 = .ok (.aastore, 1) := by decide +kernel
theorem dX3_init_67 : decode cX3_init 67 = .ok (.iinc 1 1, 3) := by decide +kernel
theorem dX3_init_70 : decode cX3_init 70 = .ok (.goto (-22), 3) := by decide +kernel
theorem dX3_init_73 : decode cX3_init 73 = .ok (.return_, 1) := by decide +kernel
theorem dX3_call_0 : decode cX3_call 0 = .ok (.iload_n 1, 1) := by decide +kernel
theorem dX3_call_1 : decode cX3_call 1 = .ok (.invokestatic 30, 3) := by decide +kernel
theorem dX3_call_4 : decode cX3_call 4 = .ok (.aload_n 0, 1) := by decide +kernel
theorem dX3_call_5 : decode cX3_call 5 = .ok (.getfield 10, 3) := by decide +kernel
theorem dX3_call_8 : decode cX3_call 8 = .ok (.iload_n 1, 1) := by decide +kernel
theorem dX3_call_9 : decode cX3_call 9 = .ok (.invokevirtual 34, 3) := by decide +kernel
theorem dX3_call_12 : decode cX3_call 12 = .ok (.ifCond .eq 13, 3) := by decide +kernel
theorem dX3_call_15 : decode cX3_call 15 = .ok (.new 38, 3) := by decide +kernel
theorem dX3_call_18 : decode cX3_call 18 = .ok (.dup, 1) := by decide +kernel
theorem dX3_call_19 : decode cX3_call 19 = .ok (.ldc 40, 2) := by decide +kernel
theorem dX3_call_21 : decode cX3_call 21 = .ok (.invokespecial 42, 3) := by decide +kernel
theorem dX3_call_24 : decode cX3_call 24 = .ok (.athrow, 1) := by decide +kernel
theorem dX3_call_25 : decode cX3_call 25 = .ok (.aload_n 0, 1) := by decide +kernel
theorem dX3_call_26 : decode cX3_call 26 = .ok (.invokevirtual 45, 3) := by decide +kernel
theorem dX3_call_29 : decode cX3_call 29 = .ok (.aload_n 0, 1) := by decide +kernel
theorem dX3_call_30 : decode cX3_call 30 = .ok (.getfield 10, 3) := by decide +kernel
theorem dX3_call_33 : decode cX3_call 33 = .ok (.iload_n 1, 1) := by decide +kernel
theorem dX3_call_34 : decode cX3_call 34 = .ok (.invokevirtual 48, 3) := by decide +kernel
theorem dX3_call_37 : decode cX3_call 37 = .ok (.ireturn, 1) := by decide +kernel
theorem dX3_callOften_0 : decode cX3_callOften 0 = .ok (.iload_n 1, 1) := by decide +kernel
theorem dX3_callOften_1 : decode cX3_callOften 1 = .ok (.invokestatic 30, 3) := by decide +kernel
theorem dX3_callOften_4 : decode cX3_callOften 4 = .ok (.iload_n 2, 1) := by decide +kernel
theorem dX3_callOften_5 : decode cX3_callOften 5 = .ok (.iconst 1, 1) := by decide +kernel
theorem dX3_callOften_6 : decode cX3_callOften 6 = .ok (.bipush 50, 2) := by decide +kernel
theorem dX3_callOften_8 : decode cX3_callOften 8 = .ok (.invokestatic 52, 3) := by decide +kernel
theorem dX3_callOften_11 : decode cX3_callOften 11 = .ok (.iload_n 3, 1) := by decide +kernel
theorem dX3_callOften_12 : decode cX3_callOften 12 = .ok (.iconst 0, 1) := by decide +kernel
theorem dX3_callOften_13 : decode cX3_callOften 13 = .ok (.bipush 50, 2) := by decide +kernel
theorem dX3_callOften_15 : decode cX3_callOften 15 = .ok (.invokestatic 52, 3) := by decide +kernel
theorem dX3_callOften_18 : decode cX3_callOften 18 = .ok (.aload_n 0, 1) := by decide +kernel
theorem dX3_callOften_19 : decode cX3_callOften 19 = .ok (.invokevirtual 45, 3) := by decide +kernel
theorem dX3_callOften_22 : decode cX3_callOften 22 = .ok (.aload_n 0, 1) := by decide +kernel
theorem dX3_callOften_23 : decode cX3_callOften 23 = .ok (.getfield 10, 3) := by decide +kernel
theorem dX3_callOften_26 : decode cX3_callOften 26 = .ok (.iload_n 1, 1) := by decide +kernel
theorem dX3_callOften_27 : decode cX3_callOften 27 = .ok (.iload_n 2, 1) := by decide +kernel
theorem dX3_callOften_28 : decode cX3_callOften 28 = .ok (.iload_n 3, 1) := by decide +kernel
theorem dX3_callOften_29 : decode cX3_callOften 29 = .ok (.invokevirtual 56, 3) := by decide +kernel
theorem dX3_callOften_32 : decode cX3_callOften 32 = .ok (.ireturn, 1) := by decide +kernel
theorem dX3_callHealthiest_0 : decode cX3_callHealthiest 0 = .ok (.aload_n 0, 1) := by decide +kernel
theorem dX3_callHealthiest_1 : decode cX3_callHealthiest 1 = .ok (.getfield 10, 3) := by decide +kernel
theorem dX3_callHealthiest_4 : decode cX3_callHealthiest 4 = .ok (.invokevirtual 60, 3) := by decide +kernel
theorem dX3_callHealthiest_7 : decode cX3_callHealthiest 7 = .ok (.ifCond .eq 13, 3) := by decide +kernel
theorem dX3_callHealthiest_10 : decode cX3_callHealthiest 10 = .ok (.new 38, 3) := by decide +kernel
theorem dX3_callHealthiest_13 : decode cX3_callHealthiest 13 = .ok (.dup, 1) := by decide +kernel
theorem dX3_callHealthiest_14 : decode cX3_callHealthiest 14 = .ok (.ldc 40, 2) := by decide +kernel
theorem dX3_callHealthiest_16 : decode cX3_callHealthiest 16 = .ok (.invokespecial 42, 3) := by decide +kernel
theorem dX3_callHealthiest_19 : decode cX3_callHealthiest 19 = .ok (.athrow, 1) := by decide +kernel
theorem dX3_callHealthiest_20 : decode cX3_callHealthiest 20 = .ok (.aload_n 0, 1) := by decide +kernel
theorem dX3_callHealthiest_21 : decode cX3_callHealthiest 21 = .ok (.invokevirtual 45, 3) := by decide +kernel
theorem dX3_callHealthiest_24 : decode cX3_callHealthiest 24 = .ok (.aload_n 0, 1) := by decide +kernel
theorem dX3_callHealthiest_25 : decode cX3_callHealthiest 25 = .ok (.getfield 10, 3) := by decide +kernel
theorem dX3_callHealthiest_28 : decode cX3_callHealthiest 28 = .ok (.invokevirtual 64, 3) := by decide +kernel
theorem dX3_callHealthiest_31 : decode cX3_callHealthiest 31 = .ok (.istore_n 1, 1) := by decide +kernel
theorem dX3_callHealthiest_32 : decode cX3_callHealthiest 32 = .ok (.iload_n 1, 1) := by decide +kernel
theorem dX3_callHealthiest_33 : decode cX3_callHealthiest 33 = .ok (.iconst (-1), 1) := by decide +kernel
theorem dX3_callHealthiest_34 : decode cX3_callHealthiest 34 = .ok (.if_icmp .eq 12, 3) := by decide +kernel
theorem dX3_callHealthiest_37 : decode cX3_callHealthiest 37 = .ok (.aload_n 0, 1) := by decide +kernel
theorem dX3_callHealthiest_38 : decode cX3_callHealthiest 38 = .ok (.getfield 10, 3) := by decide +kernel
theorem dX3_callHealthiest_41 : decode cX3_callHealthiest 41 = .ok (.iload_n 1, 1) := by decide +kernel
theorem dX3_callHealthiest_42 : decode cX3_callHealthiest 42 = .ok (.invokevirtual 48, 3) := by decide +kernel
theorem dX3_callHealthiest_45 : decode cX3_callHealthiest 45 = .ok (.pop, 1) := by decide +kernel
theorem dX3_callHealthiest_46 : decode cX3_callHealthiest 46 = .ok (.iload_n 1, 1) := by decide +kernel
theorem dX3_callHealthiest_47 : decode cX3_callHealthiest 47 = .ok (.ireturn, 1) := by decide +kernel
theorem dX3_close_0 : decode cX3_close 0 = .ok (.iload_n 1, 1) := by decide +kernel
theorem dX3_close_1 : decode cX3_close 1 = .ok (.invokestatic 30, 3) := by decide +kernel
theorem dX3_close_4 : decode cX3_close 4 = .ok (.aload_n 0, 1) := by decide +kernel
theorem dX3_close_5 : decode cX3_close 5 = .ok (.invokevirtual 45, 3) := by decide +kernel
theorem dX3_close_8 : decode cX3_close 8 = .ok (.aload_n 0, 1) := by decide +kernel
theorem dX3_close_9 : decode cX3_close 9 = .ok (.getfield 10, 3) := by decide +kernel
theorem dX3_close_12 : decode cX3_close 12 = .ok (.iload_n 1, 1) := by decide +kernel
theorem dX3_close_13 : decode cX3_close 13 = .ok (.invokevirtual 68, 3) := by decide +kernel
theorem dX3_close_16 : decode cX3_close 16 = .ok (.ireturn, 1) := by decide +kernel
theorem dX3_set_0 : decode cX3_set 0 = .ok (.iload_n 1, 1) := by decide +kernel
theorem dX3_set_1 : decode cX3_set 1 = .ok (.invokestatic 71, 3) := by decide +kernel
theorem dX3_set_4 : decode cX3_set 4 = .ok (.iload_n 2, 1) := by decide +kernel
theorem dX3_set_5 : decode cX3_set 5 = .ok (.getstatic 74, 3) := by decide +kernel
theorem dX3_set_8 : decode cX3_set 8 = .ok (.iload_n 1, 1) := by decide +kernel
theorem dX3_set_9 : decode cX3_set 9 = .ok (.iaload, 1) := by decide +kernel
theorem dX3_set_10 : decode cX3_set 10 = .ok (.getstatic 78, 3) := by decide +kernel
theorem dX3_set_13 : decode cX3_set 13 = .ok (.iload_n 1, 1) := by decide +kernel
theorem dX3_set_14 : decode cX3_set 14 = .ok (.iaload, 1) := by decide +kernel
theorem dX3_set_15 : decode cX3_set 15 = .ok (.invokestatic 52, 3) := by decide +kernel
theorem dX3_set_18 : decode cX3_set 18 = .ok (.aload_n 0, 1) := by decide +kernel
theorem dX3_set_19 : decode cX3_set 19 = .ok (.invokevirtual 45, 3) := by decide +kernel
theorem dX3_set_22 : decode cX3_set 22 = .ok (.aload_n 0, 1) := by decide +kernel
theorem dX3_set_23 : decode cX3_set 23 = .ok (.getfield 10, 3) := by decide +kernel
theorem dX3_set_26 : decode cX3_set 26 = .ok (.getfield 81, 3) := by decide +kernel
theorem dX3_set_29 : decode cX3_set 29 = .ok (.iload_n 1, 1) := by decide +kernel
theorem dX3_set_30 : decode cX3_set 30 = .ok (.iaload, 1) := by decide +kernel
theorem dX3_set_31 : decode cX3_set 31 = .ok (.istore_n 3, 1) := by decide +kernel
theorem dX3_set_32 : decode cX3_set 32 = .ok (.aload_n 0, 1) := by decide +kernel
theorem dX3_set_33 : decode cX3_set 33 = .ok (.getfield 10, 3) := by decide +kernel
theorem dX3_set_36 : decode cX3_set 36 = .ok (.getfield 81, 3) := by decide +kernel
theorem dX3_set_39 : decode cX3_set 39 = .ok (.iload_n 1, 1) := by decide +kernel
theorem dX3_set_40 : decode cX3_set 40 = .ok (.iload_n 2, 1) := by decide +kernel
theorem dX3_set_41 : decode cX3_set 41 = .ok (.iastore, 1) := by decide +kernel
theorem dX3_set_42 : decode cX3_set 42 = .ok (.iload_n 3, 1) := by decide +kernel
theorem dX3_set_43 : decode cX3_set 43 = .ok (.ireturn, 1) := by decide +kernel
theorem dX3_pass_0 : decode cX3_pass 0 = .ok (.iload_n 1, 1) := by decide +kernel
theorem dX3_pass_1 : decode cX3_pass 1 = .ok (.iconst 1, 1) := by decide +kernel
theorem dX3_pass_2 : decode cX3_pass 2 = .ok (.sipush 200, 3) := by decide +kernel
theorem dX3_pass_5 : decode cX3_pass 5 = .ok (.invokestatic 52, 3) := by decide +kernel
theorem dX3_pass_8 : decode cX3_pass 8 = .ok (.aload_n 0, 1) := by decide +kernel
theorem dX3_pass_9 : decode cX3_pass 9 = .ok (.invokevirtual 45, 3) := by decide +kernel
theorem dX3_pass_12 : decode cX3_pass 12 = .ok (.aload_n 0, 1) := by decide +kernel
theorem dX3_pass_13 : decode cX3_pass 13 = .ok (.getfield 10, 3) := by decide +kernel
theorem dX3_pass_16 : decode cX3_pass 16 = .ok (.iload_n 1, 1) := by decide +kernel
theorem dX3_pass_17 : decode cX3_pass 17 = .ok (.invokevirtual 84, 3) := by decide +kernel
theorem dX3_pass_20 : decode cX3_pass 20 = .ok (.ireturn, 1) := by decide +kernel
theorem dX3_append_0 : decode cX3_append 0 = .ok (.iload_n 1, 1) := by decide +kernel
theorem dX3_append_1 : decode cX3_append 1 = .ok (.bipush 33, 2) := by decide +kernel
theorem dX3_append_3 : decode cX3_append 3 = .ok (.bipush 126, 2) := by decide +kernel
theorem dX3_append_5 : decode cX3_append 5 = .ok (.invokestatic 52, 3) := by decide +kernel
theorem dX3_append_8 : decode cX3_append 8 = .ok (.aload_n 0, 1) := by decide +kernel
theorem dX3_append_9 : decode cX3_append 9 = .ok (.getfield 26, 3) := by decide +kernel
theorem dX3_append_12 : decode cX3_append 12 = .ok (.invokevirtual 87, 3) := by decide +kernel
theorem dX3_append_15 : decode cX3_append 15 = .ok (.ifCond .eq 13, 3) := by decide +kernel
theorem dX3_append_18 : decode cX3_append 18 = .ok (.new 38, 3) := by decide +kernel
theorem dX3_append_21 : decode cX3_append 21 = .ok (.dup, 1) := by decide +kernel
theorem dX3_append_22 : decode cX3_append 22 = .ok (.ldc 88, 2) := by decide +kernel
theorem dX3_append_24 : decode cX3_append 24 = .ok (.invokespecial 42, 3) := by decide +kernel
theorem dX3_append_27 : decode cX3_append 27 = .ok (.athrow, 1) := by decide +kernel
theorem dX3_append_28 : decode cX3_append 28 = .ok (.aload_n 0, 1) := by decide +kernel
theorem dX3_append_29 : decode cX3_append 29 = .ok (.getfield 26, 3) := by decide +kernel
theorem dX3_append_32 : decode cX3_append 32 = .ok (.iload_n 1, 1) := by decide +kernel
theorem dX3_append_33 : decode cX3_append 33 = .ok (.invokevirtual 90, 3) := by decide +kernel
theorem dX3_append_36 : decode cX3_append 36 = .ok (.ireturn, 1) := by decide +kernel
theorem dX3_clearBuffer_0 : decode cX3_clearBuffer 0 = .ok (.aload_n 0, 1) := by decide +kernel
theorem dX3_clearBuffer_1 : decode cX3_clearBuffer 1 = .ok (.getfield 26, 3) := by decide +kernel
theorem dX3_clearBuffer_4 : decode cX3_clearBuffer 4 = .ok (.invokevirtual 93, 3) := by decide +kernel
theorem dX3_clearBuffer_7 : decode cX3_clearBuffer 7 = .ok (.ireturn, 1) := by decide +kernel
theorem dX3_firstError_0 : decode cX3_firstError 0 = .ok (.aload_n 0, 1) := by decide +kernel
theorem dX3_firstError_1 : decode cX3_firstError 1 = .ok (.getfield 26, 3) := by decide +kernel
theorem dX3_firstError_4 : decode cX3_firstError 4 = .ok (.invokevirtual 96, 3) := by decide +kernel
theorem dX3_firstError_7 : decode cX3_firstError 7 = .ok (.ireturn, 1) := by decide +kernel
theorem dX3_delays_0 : decode cX3_delays 0 = .ok (.iload_n 1, 1) := by decide +kernel
theorem dX3_delays_1 : decode cX3_delays 1 = .ok (.invokestatic 30, 3) := by decide +kernel
theorem dX3_delays_4 : decode cX3_delays 4 = .ok (.aload_n 0, 1) := by decide +kernel
theorem dX3_delays_5 : decode cX3_delays 5 = .ok (.getfield 26, 3) := by decide +kernel
theorem dX3_delays_8 : decode cX3_delays 8 = .ok (.invokevirtual 99, 3) := by decide +kernel
theorem dX3_delays_11 : decode cX3_delays 11 = .ok (.ifCond .ne 13, 3) := by decide +kernel
theorem dX3_delays_14 : decode cX3_delays 14 = .ok (.new 102, 3) := by decide +kernel
theorem dX3_delays_17 : decode cX3_delays 17 = .ok (.dup, 1) := by decide +kernel
theorem dX3_delays_18 : decode cX3_delays 18 = .ok (.ldc 104, 2) := by decide +kernel
theorem dX3_delays_20 : decode cX3_delays 20 = .ok (.invokespecial 106, 3) := by decide +kernel
theorem dX3_delays_23 : decode cX3_delays 23 = .ok (.athrow, 1) := by decide +kernel
theorem dX3_delays_24 : decode cX3_delays 24 = .ok (.aload_n 0, 1) := by decide +kernel
theorem dX3_delays_25 : decode cX3_delays 25 = .ok (.invokevirtual 45, 3) := by decide +kernel
theorem dX3_delays_28 : decode cX3_delays 28 = .ok (.aload_n 0, 1) := by decide +kernel
theorem dX3_delays_29 : decode cX3_delays 29 = .ok (.getfield 10, 3) := by decide +kernel
theorem dX3_delays_32 : decode cX3_delays 32 = .ok (.getfield 107, 3) := by decide +kernel
theorem dX3_delays_35 : decode cX3_delays 35 = .ok (.iload_n 1, 1) := by decide +kernel
theorem dX3_delays_36 : decode cX3_delays 36 = .ok (.aaload, 1) := by decide +kernel
theorem dX3_delays_37 : decode cX3_delays 37 = .ok (.aload_n 0, 1) := by decide +kernel
theorem dX3_delays_38 : decode cX3_delays 38 = .ok (.getfield 26, 3) := by decide +kernel
theorem dX3_delays_41 : decode cX3_delays 41 = .ok (.invokevirtual 111, 3) := by decide +kernel
theorem dX3_delays_44 : decode cX3_delays 44 = .ok (.istore_n 2, 1) := by decide +kernel
theorem dX3_delays_45 : decode cX3_delays 45 = .ok (.aload_n 0, 1) := by decide +kernel
theorem dX3_delays_46 : decode cX3_delays 46 = .ok (.getfield 26, 3) := by decide +kernel
theorem dX3_delays_49 : decode cX3_delays 49 = .ok (.invokevirtual 93, 3) := by decide +kernel
theorem dX3_delays_52 : decode cX3_delays 52 = .ok (.pop, 1) := by decide +kernel
theorem dX3_delays_53 : decode cX3_delays 53 = .ok (.iload_n 2, 1) := by decide +kernel
theorem dX3_delays_54 : decode cX3_delays 54 = .ok (.ireturn, 1) := by decide +kernel
theorem dX3_undo_0 : decode cX3_undo 0 = .ok (.aload_n 0, 1) := by decide +kernel
theorem dX3_undo_1 : decode cX3_undo 1 = .ok (.getfield 117, 3) := by decide +kernel
theorem dX3_undo_4 : decode cX3_undo 4 = .ok (.ifCond .gt 13, 3) := by decide +kernel
theorem dX3_undo_7 : decode cX3_undo 7 = .ok (.new 38, 3) := by decide +kernel
theorem dX3_undo_10 : decode cX3_undo 10 = .ok (.dup, 1) := by decide +kernel
theorem dX3_undo_11 : decode cX3_undo 11 = .ok (.ldc 121, 2) := by decide +kernel
theorem dX3_undo_13 : decode cX3_undo 13 = .ok (.invokespecial 42, 3) := by decide +kernel
theorem dX3_undo_16 : decode cX3_undo 16 = .ok (.athrow, 1) := by decide +kernel
theorem dX3_undo_17 : decode cX3_undo 17 = .ok (.aload_n 0, 1) := by decide +kernel
theorem dX3_undo_18 : decode cX3_undo 18 = .ok (.dup, 1) := by decide +kernel
theorem dX3_undo_19 : decode cX3_undo 19 = .ok (.getfield 117, 3) := by decide +kernel
theorem dX3_undo_22 : decode cX3_undo 22 = .ok (.iconst 1, 1) := by decide +kernel
theorem dX3_undo_23 : decode cX3_undo 23 = .ok (.isub, 1) := by decide +kernel
theorem dX3_undo_24 : decode cX3_undo 24 = .ok (.putfield 117, 3) := by decide +kernel
theorem dX3_undo_27 : decode cX3_undo 27 = .ok (.aload_n 0, 1) := by decide +kernel
theorem dX3_undo_28 : decode cX3_undo 28 = .ok (.getfield 10, 3) := by decide +kernel
theorem dX3_undo_31 : decode cX3_undo 31 = .ok (.aload_n 0, 1) := by decide +kernel
theorem dX3_undo_32 : decode cX3_undo 32 = .ok (.getfield 19, 3) := by decide +kernel
theorem dX3_undo_35 : decode cX3_undo 35 = .ok (.aload_n 0, 1) := by decide +kernel
theorem dX3_undo_36 : decode cX3_undo 36 = .ok (.getfield 123, 3) := by decide +kernel
theorem dX3_undo_39 : decode cX3_undo 39 = .ok (.aload_n 0, 1) := by decide +kernel
theorem dX3_undo_40 : decode cX3_undo 40 = .ok (.getfield 117, 3) := by decide +kernel
theorem dX3_undo_43 : decode cX3_undo 43 = .ok (.iadd, 1) := by decide +kernel
theorem dX3_undo_44 : decode cX3_undo 44 = .ok (.bipush 6, 2) := by decide +kernel
theorem dX3_undo_46 : decode cX3_undo 46 = .ok (.irem, 1) := by decide +kernel
theorem dX3_undo_47 : decode cX3_undo 47 = .ok (.aaload, 1) := by decide +kernel
theorem dX3_undo_48 : decode cX3_undo 48 = .ok (.invokevirtual 126, 3) := by decide +kernel
theorem dX3_undo_51 : decode cX3_undo 51 = .ok (.aload_n 0, 1) := by decide +kernel
theorem dX3_undo_52 : decode cX3_undo 52 = .ok (.getfield 117, 3) := by decide +kernel
theorem dX3_undo_55 : decode cX3_undo 55 = .ok (.ireturn, 1) := by decide +kernel
theorem dX3_store_0 : decode cX3_store 0 = .ok (.iload_n 1, 1) := by decide +kernel
theorem dX3_store_1 : decode cX3_store 1 = .ok (.invokestatic 30, 3) := by decide +kernel
theorem dX3_store_4 : decode cX3_store 4 = .ok (.iload_n 2, 1) := by decide +kernel
theorem dX3_store_5 : decode cX3_store 5 = .ok (.iconst 0, 1) := by decide +kernel
theorem dX3_store_6 : decode cX3_store 6 = .ok (.bipush 10, 2) := by decide +kernel
theorem dX3_store_8 : decode cX3_store 8 = .ok (.invokestatic 52, 3) := by decide +kernel
theorem dX3_store_11 : decode cX3_store 11 = .ok (.aload_n 0, 1) := by decide +kernel
theorem dX3_store_12 : decode cX3_store 12 = .ok (.getfield 10, 3) := by decide +kernel
theorem dX3_store_15 : decode cX3_store 15 = .ok (.iload_n 1, 1) := by decide +kernel
theorem dX3_store_16 : decode cX3_store 16 = .ok (.iload_n 2, 1) := by decide +kernel
theorem dX3_store_17 : decode cX3_store 17 = .ok (.invokevirtual 130, 3) := by decide +kernel
theorem dX3_store_20 : decode cX3_store 20 = .ok (.ireturn, 1) := by decide +kernel
theorem dX3_delay_0 : decode cX3_delay 0 = .ok (.iload_n 1, 1) := by decide +kernel
theorem dX3_delay_1 : decode cX3_delay 1 = .ok (.invokestatic 30, 3) := by decide +kernel
theorem dX3_delay_4 : decode cX3_delay 4 = .ok (.iload_n 2, 1) := by decide +kernel
theorem dX3_delay_5 : decode cX3_delay 5 = .ok (.invokestatic 134, 3) := by decide +kernel
theorem dX3_delay_8 : decode cX3_delay 8 = .ok (.aload_n 0, 1) := by decide +kernel
theorem dX3_delay_9 : decode cX3_delay 9 = .ok (.getfield 10, 3) := by decide +kernel
theorem dX3_delay_12 : decode cX3_delay 12 = .ok (.getfield 107, 3) := by decide +kernel
theorem dX3_delay_15 : decode cX3_delay 15 = .ok (.iload_n 1, 1) := by decide +kernel
theorem dX3_delay_16 : decode cX3_delay 16 = .ok (.aaload, 1) := by decide +kernel
theorem dX3_delay_17 : decode cX3_delay 17 = .ok (.astore_n 3, 1) := by decide +kernel
theorem dX3_delay_18 : decode cX3_delay 18 = .ok (.iload_n 2, 1) := by decide +kernel
theorem dX3_delay_19 : decode cX3_delay 19 = .ok (.aload_n 3, 1) := by decide +kernel
theorem dX3_delay_20 : decode cX3_delay 20 = .ok (.getfield 137, 3) := by decide +kernel
theorem dX3_delay_23 : decode cX3_delay 23 = .ok (.if_icmp .ge 12, 3) := by decide +kernel
theorem dX3_delay_26 : decode cX3_delay 26 = .ok (.aload_n 3, 1) := by decide +kernel
theorem dX3_delay_27 : decode cX3_delay 27 = .ok (.getfield 140, 3) := by decide +kernel
theorem dX3_delay_30 : decode cX3_delay 30 = .ok (.iload_n 2, 1) := by decide +kernel
theorem dX3_delay_31 : decode cX3_delay 31 = .ok (.iaload, 1) := by decide +kernel
theorem dX3_delay_32 : decode cX3_delay 32 = .ok (.goto 4, 3) := by decide +kernel
theorem dX3_delay_35 : decode cX3_delay 35 = .ok (.iconst (-1), 1) := by decide +kernel
theorem dX3_delay_36 : decode cX3_delay 36 = .ok (.ireturn, 1) := by decide +kernel
theorem dX3_onWay_0 : decode cX3_onWay 0 = .ok (.iload_n 1, 1) := by decide +kernel
theorem dX3_onWay_1 : decode cX3_onWay 1 = .ok (.invokestatic 134, 3) := by decide +kernel
theorem dX3_onWay_4 : decode cX3_onWay 4 = .ok (.iload_n 2, 1) := by decide +kernel
theorem dX3_onWay_5 : decode cX3_onWay 5 = .ok (.iconst 0, 1) := by decide +kernel
theorem dX3_onWay_6 : decode cX3_onWay 6 = .ok (.iconst 3, 1) := by decide +kernel
theorem dX3_onWay_7 : decode cX3_onWay 7 = .ok (.invokestatic 52, 3) := by decide +kernel
theorem dX3_onWay_10 : decode cX3_onWay 10 = .ok (.iload_n 1, 1) := by decide +kernel
theorem dX3_onWay_11 : decode cX3_onWay 11 = .ok (.aload_n 0, 1) := by decide +kernel
theorem dX3_onWay_12 : decode cX3_onWay 12 = .ok (.getfield 10, 3) := by decide +kernel
theorem dX3_onWay_15 : decode cX3_onWay 15 = .ok (.getfield 143, 3) := by decide +kernel
theorem dX3_onWay_18 : decode cX3_onWay 18 = .ok (.if_icmp .ge 17, 3) := by decide +kernel
theorem dX3_onWay_21 : decode cX3_onWay 21 = .ok (.aload_n 0, 1) := by decide +kernel
theorem dX3_onWay_22 : decode cX3_onWay 22 = .ok (.getfield 10, 3) := by decide +kernel
theorem dX3_onWay_25 : decode cX3_onWay 25 = .ok (.getfield 146, 3) := by decide +kernel
theorem dX3_onWay_28 : decode cX3_onWay 28 = .ok (.iload_n 2, 1) := by decide +kernel
theorem dX3_onWay_29 : decode cX3_onWay 29 = .ok (.aaload, 1) := by decide +kernel
theorem dX3_onWay_30 : decode cX3_onWay 30 = .ok (.iload_n 1, 1) := by decide +kernel
theorem dX3_onWay_31 : decode cX3_onWay 31 = .ok (.iaload, 1) := by decide +kernel
theorem dX3_onWay_32 : decode cX3_onWay 32 = .ok (.goto 4, 3) := by decide +kernel
theorem dX3_onWay_35 : decode cX3_onWay 35 = .ok (.iconst (-1), 1) := by decide +kernel
theorem dX3_onWay_36 : decode cX3_onWay 36 = .ok (.ireturn, 1) := by decide +kernel
theorem dX3_count_0 : decode cX3_count 0 = .ok (.iload_n 1, 1) := by decide +kernel
theorem dX3_count_1 : decode cX3_count 1 = .ok (.iconst 0, 1) := by decide +kernel
theorem dX3_count_2 : decode cX3_count 2 = .ok (.bipush 8, 2) := by decide +kernel
theorem dX3_count_4 : decode cX3_count 4 = .ok (.invokestatic 52, 3) := by decide +kernel
theorem dX3_count_7 : decode cX3_count 7 = .ok (.aload_n 0, 1) := by decide +kernel
theorem dX3_count_8 : decode cX3_count 8 = .ok (.iload_n 1, 1) := by decide +kernel
theorem dX3_count_9 : decode cX3_count 9 = .ok (.invokevirtual 150, 3) := by decide +kernel
theorem dX3_count_12 : decode cX3_count 12 = .ok (.ireturn, 1) := by decide +kernel
theorem dX3_setting_0 : decode cX3_setting 0 = .ok (.iload_n 1, 1) := by decide +kernel
theorem dX3_setting_1 : decode cX3_setting 1 = .ok (.invokestatic 71, 3) := by decide +kernel
theorem dX3_setting_4 : decode cX3_setting 4 = .ok (.aload_n 0, 1) := by decide +kernel
theorem dX3_setting_5 : decode cX3_setting 5 = .ok (.getfield 10, 3) := by decide +kernel
theorem dX3_setting_8 : decode cX3_setting 8 = .ok (.getfield 81, 3) := by decide +kernel
theorem dX3_setting_11 : decode cX3_setting 11 = .ok (.iload_n 1, 1) := by decide +kernel
theorem dX3_setting_12 : decode cX3_setting 12 = .ok (.iaload, 1) := by decide +kernel
theorem dX3_setting_13 : decode cX3_setting 13 = .ok (.ireturn, 1) := by decide +kernel
theorem dX3_ifCalled_0 : decode cX3_ifCalled 0 = .ok (.iload_n 1, 1) := by decide +kernel
theorem dX3_ifCalled_1 : decode cX3_ifCalled 1 = .ok (.invokestatic 30, 3) := by decide +kernel
theorem dX3_ifCalled_4 : decode cX3_ifCalled 4 = .ok (.iload_n 2, 1) := by decide +kernel
theorem dX3_ifCalled_5 : decode cX3_ifCalled 5 = .ok (.iconst 1, 1) := by decide +kernel
theorem dX3_ifCalled_6 : decode cX3_ifCalled 6 = .ok (.bipush 50, 2) := by decide +kernel
theorem dX3_ifCalled_8 : decode cX3_ifCalled 8 = .ok (.invokestatic 52, 3) := by decide +kernel
theorem dX3_ifCalled_11 : decode cX3_ifCalled 11 = .ok (.iload_n 3, 1) := by decide +kernel
theorem dX3_ifCalled_12 : decode cX3_ifCalled 12 = .ok (.iconst 0, 1) := by decide +kernel
theorem dX3_ifCalled_13 : decode cX3_ifCalled 13 = .ok (.bipush 50, 2) := by decide +kernel
theorem dX3_ifCalled_15 : decode cX3_ifCalled 15 = .ok (.invokestatic 52, 3) := by decide +kernel
theorem dX3_ifCalled_18 : decode cX3_ifCalled 18 = .ok (.iload 4, 2) := by decide +kernel
theorem dX3_ifCalled_20 : decode cX3_ifCalled 20 = .ok (.iconst 0, 1) := by decide +kernel
theorem dX3_ifCalled_21 : decode cX3_ifCalled 21 = .ok (.iconst 3, 1) := by decide +kernel
theorem dX3_ifCalled_22 : decode cX3_ifCalled 22 = .ok (.invokestatic 52, 3) := by decide +kernel
theorem dX3_ifCalled_25 : decode cX3_ifCalled 25 = .ok (.aload_n 0, 1) := by decide +kernel
theorem dX3_ifCalled_26 : decode cX3_ifCalled 26 = .ok (.iload_n 1, 1) := by decide +kernel
theorem dX3_ifCalled_27 : decode cX3_ifCalled 27 = .ok (.iload_n 2, 1) := by decide +kernel
theorem dX3_ifCalled_28 : decode cX3_ifCalled 28 = .ok (.iload_n 3, 1) := by decide +kernel
theorem dX3_ifCalled_29 : decode cX3_ifCalled 29 = .ok (.invokevirtual 153, 3) := by decide +kernel
theorem dX3_ifCalled_32 : decode cX3_ifCalled 32 = .ok (.aload_n 0, 1) := by decide +kernel
theorem dX3_ifCalled_33 : decode cX3_ifCalled 33 = .ok (.iload_n 1, 1) := by decide +kernel
theorem dX3_ifCalled_34 : decode cX3_ifCalled 34 = .ok (.iload 4, 2) := by decide +kernel
theorem dX3_ifCalled_36 : decode cX3_ifCalled 36 = .ok (.invokevirtual 156, 3) := by decide +kernel
theorem dX3_ifCalled_39 : decode cX3_ifCalled 39 = .ok (.ireturn, 1) := by decide +kernel
theorem dX3_freeIn_0 : decode cX3_freeIn 0 = .ok (.iload_n 1, 1) := by decide +kernel
theorem dX3_freeIn_1 : decode cX3_freeIn 1 = .ok (.invokestatic 30, 3) := by decide +kernel
theorem dX3_freeIn_4 : decode cX3_freeIn 4 = .ok (.aload_n 0, 1) := by decide +kernel
theorem dX3_freeIn_5 : decode cX3_freeIn 5 = .ok (.getfield 10, 3) := by decide +kernel
theorem dX3_freeIn_8 : decode cX3_freeIn 8 = .ok (.iload_n 1, 1) := by decide +kernel
theorem dX3_freeIn_9 : decode cX3_freeIn 9 = .ok (.invokevirtual 159, 3) := by decide +kernel
theorem dX3_freeIn_12 : decode cX3_freeIn 12 = .ok (.ireturn, 1) := by decide +kernel
theorem dX3_healthiest_0 : decode cX3_healthiest 0 = .ok (.aload_n 0, 1) := by decide +kernel
theorem dX3_healthiest_1 : decode cX3_healthiest 1 = .ok (.getfield 10, 3) := by decide +kernel
theorem dX3_healthiest_4 : decode cX3_healthiest 4 = .ok (.invokevirtual 64, 3) := by decide +kernel
theorem dX3_healthiest_7 : decode cX3_healthiest 7 = .ok (.ireturn, 1) := by decide +kernel
theorem dX3_health_0 : decode cX3_health 0 = .ok (.aload_n 0, 1) := by decide +kernel
theorem dX3_health_1 : decode cX3_health 1 = .ok (.getfield 10, 3) := by decide +kernel
theorem dX3_health_4 : decode cX3_health 4 = .ok (.invokevirtual 162, 3) := by decide +kernel
theorem dX3_health_7 : decode cX3_health 7 = .ok (.dreturn, 1) := by decide +kernel
theorem dX3_digest_0 : decode cX3_digest 0 = .ok (.ldc2_w 166, 3) := by decide +kernel
theorem dX3_digest_3 : decode cX3_digest 3 = .ok (.lstore_n 1, 1) := by decide +kernel
theorem dX3_digest_4 : decode cX3_digest 4 = .ok (.iconst 0, 1) := by decide +kernel
theorem dX3_digest_5 : decode cX3_digest 5 = .ok (.istore_n 3, 1) := by decide +kernel
theorem dX3_digest_6 : decode cX3_digest 6 = .ok (.iload_n 3, 1) := by decide +kernel
theorem dX3_digest_7 : decode cX3_digest 7 = .ok (.bipush 9, 2) := by decide +kernel
theorem dX3_digest_9 : decode cX3_digest 9 = .ok (.if_icmp .ge 20, 3) := by decide +kernel
theorem dX3_digest_12 : decode cX3_digest 12 = .ok (.lload_n 1, 1) := by decide +kernel
theorem dX3_digest_13 : decode cX3_digest 13 = .ok (.aload_n 0, 1) := by decide +kernel
theorem dX3_digest_14 : decode cX3_digest 14 = .ok (.iload_n 3, 1) := by decide +kernel
theorem dX3_digest_15 : decode cX3_digest 15 = .ok (.invokevirtual 150, 3) := by decide +kernel
theorem dX3_digest_18 : decode cX3_digest 18 = .ok (.i2l, 1) := by decide +kernel
theorem dX3_digest_19 : decode cX3_digest 19 = .ok (.invokestatic 168, 3) := by decide +kernel
theorem dX3_digest_22 : decode cX3_digest 22 = .ok (.lstore_n 1, 1) := by decide +kernel
theorem dX3_digest_23 : decode cX3_digest 23 = .ok (.iinc 3 1, 3) := by decide +kernel
theorem dX3_digest_26 : decode cX3_digest 26 = .ok (.goto (-20), 3) := by decide +kernel
theorem dX3_digest_29 : decode cX3_digest 29 = .ok (.iconst 0, 1) := by decide +kernel
theorem dX3_digest_30 : decode cX3_digest 30 = .ok (.istore_n 3, 1) := by decide +kernel
theorem dX3_digest_31 : decode cX3_digest 31 = .ok (.iload_n 3, 1) := by decide +kernel
theorem dX3_digest_32 : decode cX3_digest 32 = .ok (.iconst 5, 1) := by decide +kernel
theorem dX3_digest_33 : decode cX3_digest 33 = .ok (.if_icmp .ge 24, 3) := by decide +kernel
theorem dX3_digest_36 : decode cX3_digest 36 = .ok (.lload_n 1, 1) := by decide +kernel
theorem dX3_digest_37 : decode cX3_digest 37 = .ok (.aload_n 0, 1) := by decide +kernel
theorem dX3_digest_38 : decode cX3_digest 38 = .ok (.getfield 10, 3) := by decide +kernel
theorem dX3_digest_41 : decode cX3_digest 41 = .ok (.getfield 81, 3) := by decide +kernel
theorem dX3_digest_44 : decode cX3_digest 44 = .ok (.iload_n 3, 1) := by decide +kernel
theorem dX3_digest_45 : decode cX3_digest 45 = .ok (.iaload, 1) := by decide +kernel
theorem dX3_digest_46 : decode cX3_digest 46 = .ok (.i2l, 1) := by decide +kernel
theorem dX3_digest_47 : decode cX3_digest 47 = .ok (.invokestatic 168, 3) := by decide +kernel
theorem dX3_digest_50 : decode cX3_digest 50 = .ok (.lstore_n 1, 1) := by decide +kernel
theorem dX3_digest_51 : decode cX3_digest 51 = .ok (.iinc 3 1, 3) := by decide +kernel
theorem dX3_digest_54 : decode cX3_digest 54 = .ok (.goto (-23), 3) := by decide +kernel
theorem dX3_digest_57 : decode cX3_digest 57 = .ok (.iconst 0, 1) := by decide +kernel
theorem dX3_digest_58 : decode cX3_digest 58 = .ok (.istore_n 3, 1) := by decide +kernel
theorem dX3_digest_59 : decode cX3_digest 59 = .ok (.iload_n 3, 1) := by decide +kernel
theorem dX3_digest_60 : decode cX3_digest 60 = .ok (.iconst 4, 1) := by decide +kernel
theorem dX3_digest_61 : decode cX3_digest 61 = .ok (.if_icmp .ge 24, 3) := by decide +kernel
theorem dX3_digest_64 : decode cX3_digest 64 = .ok (.aload_n 0, 1) := by decide +kernel
theorem dX3_digest_65 : decode cX3_digest 65 = .ok (.iload_n 3, 1) := by decide +kernel
theorem dX3_digest_66 : decode cX3_digest 66 = .ok (.bipush 6, 2) := by decide +kernel
theorem dX3_digest_68 : decode cX3_digest 68 = .ok (.iconst 3, 1) := by decide +kernel
theorem dX3_digest_69 : decode cX3_digest 69 = .ok (.invokevirtual 153, 3) := by decide +kernel
theorem dX3_digest_72 : decode cX3_digest 72 = .ok (.aload_n 0, 1) := by decide +kernel
theorem dX3_digest_73 : decode cX3_digest 73 = .ok (.lload_n 1, 1) := by decide +kernel
theorem dX3_digest_74 : decode cX3_digest 74 = .ok (.iload_n 3, 1) := by decide +kernel
theorem dX3_digest_75 : decode cX3_digest 75 = .ok (.invokevirtual 172, 3) := by decide +kernel
theorem dX3_digest_78 : decode cX3_digest 78 = .ok (.lstore_n 1, 1) := by decide +kernel
theorem dX3_digest_79 : decode cX3_digest 79 = .ok (.iinc 3 1, 3) := by decide +kernel
theorem dX3_digest_82 : decode cX3_digest 82 = .ok (.goto (-23), 3) := by decide +kernel
theorem dX3_digest_85 : decode cX3_digest 85 = .ok (.iconst 0, 1) := by decide +kernel
theorem dX3_digest_86 : decode cX3_digest 86 = .ok (.istore_n 3, 1) := by decide +kernel
theorem dX3_digest_87 : decode cX3_digest 87 = .ok (.iload_n 3, 1) := by decide +kernel
theorem dX3_digest_88 : decode cX3_digest 88 = .ok (.aload_n 0, 1) := by decide +kernel
theorem dX3_digest_89 : decode cX3_digest 89 = .ok (.getfield 10, 3) := by decide +kernel
theorem dX3_digest_92 : decode cX3_digest 92 = .ok (.getfield 143, 3) := by decide +kernel
theorem dX3_digest_95 : decode cX3_digest 95 = .ok (.if_icmp .ge 42, 3) := by decide +kernel
theorem dX3_digest_98 : decode cX3_digest 98 = .ok (.iconst 0, 1) := by decide +kernel
theorem dX3_digest_99 : decode cX3_digest 99 = .ok (.istore 4, 2) := by decide +kernel
theorem dX3_digest_101 : decode cX3_digest 101 = .ok (.iload 4, 2) := by decide +kernel
theorem dX3_digest_103 : decode cX3_digest 103 = .ok (.iconst 4, 1) := by decide +kernel
theorem dX3_digest_104 : decode cX3_digest 104 = .ok (.if_icmp .ge 27, 3) := by decide +kernel
theorem dX3_digest_107 : decode cX3_digest 107 = .ok (.lload_n 1, 1) := by decide +kernel
theorem dX3_digest_108 : decode cX3_digest 108 = .ok (.aload_n 0, 1) := by decide +kernel
theorem dX3_digest_109 : decode cX3_digest 109 = .ok (.getfield 10, 3) := by decide +kernel
theorem dX3_digest_112 : decode cX3_digest 112 = .ok (.getfield 146, 3) := by decide +kernel
theorem dX3_digest_115 : decode cX3_digest 115 = .ok (.iload 4, 2) := by decide +kernel
theorem dX3_digest_117 : decode cX3_digest 117 = .ok (.aaload, 1) := by decide +kernel
theorem dX3_digest_118 : decode cX3_digest 118 = .ok (.iload_n 3, 1) := by decide +kernel
theorem dX3_digest_119 : decode cX3_digest 119 = .ok (.iaload, 1) := by decide +kernel
theorem dX3_digest_120 : decode cX3_digest 120 = .ok (.i2l, 1) := by decide +kernel
theorem dX3_digest_121 : decode cX3_digest 121 = .ok (.invokestatic 168, 3) := by decide +kernel
theorem dX3_digest_124 : decode cX3_digest 124 = .ok (.lstore_n 1, 1) := by decide +kernel
theorem dX3_digest_125 : decode cX3_digest 125 = .ok (.iinc 4 1, 3) := by decide +kernel
theorem dX3_digest_128 : decode cX3_digest 128 = .ok (.goto (-27), 3) := by decide +kernel
theorem dX3_digest_131 : decode cX3_digest 131 = .ok (.iinc 3 1, 3) := by decide +kernel
theorem dX3_digest_134 : decode cX3_digest 134 = .ok (.goto (-47), 3) := by decide +kernel
theorem dX3_digest_137 : decode cX3_digest 137 = .ok (.lload_n 1, 1) := by decide +kernel
theorem dX3_digest_138 : decode cX3_digest 138 = .ok (.aload_n 0, 1) := by decide +kernel
theorem dX3_digest_139 : decode cX3_digest 139 = .ok (.getfield 10, 3) := by decide +kernel
theorem dX3_digest_142 : decode cX3_digest 142 = .ok (.invokevirtual 64, 3) := by decide +kernel
theorem dX3_digest_145 : decode cX3_digest 145 = .ok (.i2l, 1) := by decide +kernel
theorem dX3_digest_146 : decode cX3_digest 146 = .ok (.invokestatic 168, 3) := by decide +kernel
theorem dX3_digest_149 : decode cX3_digest 149 = .ok (.lstore_n 1, 1) := by decide +kernel
theorem dX3_digest_150 : decode cX3_digest 150 = .ok (.lload_n 1, 1) := by decide +kernel
theorem dX3_digest_151 : decode cX3_digest 151 = .ok (.aload_n 0, 1) := by decide +kernel
theorem dX3_digest_152 : decode cX3_digest 152 = .ok (.getfield 10, 3) := by decide +kernel
theorem dX3_digest_155 : decode cX3_digest 155 = .ok (.invokevirtual 162, 3) := by decide +kernel
theorem dX3_digest_158 : decode cX3_digest 158 = .ok (.invokestatic 176, 3) := by decide +kernel
theorem dX3_digest_161 : decode cX3_digest 161 = .ok (.invokestatic 168, 3) := by decide +kernel
theorem dX3_digest_164 : decode cX3_digest 164 = .ok (.lstore_n 1, 1) := by decide +kernel
theorem dX3_digest_165 : decode cX3_digest 165 = .ok (.lload_n 1, 1) := by decide +kernel
theorem dX3_digest_166 : decode cX3_digest 166 = .ok (.aload_n 0, 1) := by decide +kernel
theorem dX3_digest_167 : decode cX3_digest 167 = .ok (.getfield 26, 3) := by decide +kernel
theorem dX3_digest_170 : decode cX3_digest 170 = .ok (.getfield 180, 3) := by decide +kernel
theorem dX3_digest_173 : decode cX3_digest 173 = .ok (.i2l, 1) := by decide +kernel
theorem dX3_digest_174 : decode cX3_digest 174 = .ok (.invokestatic 168, 3) := by decide +kernel
theorem dX3_digest_177 : decode cX3_digest 177 = .ok (.lstore_n 1, 1) := by decide +kernel
theorem dX3_digest_178 : decode cX3_digest 178 = .ok (.iconst 0, 1) := by decide +kernel
theorem dX3_digest_179 : decode cX3_digest 179 = .ok (.istore_n 3, 1) := by decide +kernel
theorem dX3_digest_180 : decode cX3_digest 180 = .ok (.iload_n 3, 1) := by decide +kernel
theorem dX3_digest_181 : decode cX3_digest 181 = .ok (.aload_n 0, 1) := by decide +kernel
theorem dX3_digest_182 : decode cX3_digest 182 = .ok (.getfield 26, 3) := by decide +kernel
theorem dX3_digest_185 : decode cX3_digest 185 = .ok (.getfield 180, 3) := by decide +kernel
theorem dX3_digest_188 : decode cX3_digest 188 = .ok (.if_icmp .ge 24, 3) := by decide +kernel
theorem dX3_digest_191 : decode cX3_digest 191 = .ok (.lload_n 1, 1) := by decide +kernel
theorem dX3_digest_192 : decode cX3_digest 192 = .ok (.aload_n 0, 1) := by decide +kernel
theorem dX3_digest_193 : decode cX3_digest 193 = .ok (.getfield 26, 3) := by decide +kernel
theorem dX3_digest_196 : decode cX3_digest 196 = .ok (.getfield 183, 3) := by decide +kernel
theorem dX3_digest_199 : decode cX3_digest 199 = .ok (.iload_n 3, 1) := by decide +kernel
theorem dX3_digest_200 : decode cX3_digest 200 = .ok (.iaload, 1) := by decide +kernel
theorem dX3_digest_201 : decode cX3_digest 201 = .ok (.i2l, 1) := by decide +kernel
theorem dX3_digest_202 : decode cX3_digest 202 = .ok (.invokestatic 168, 3) := by decide +kernel
theorem dX3_digest_205 : decode cX3_digest 205 = .ok (.lstore_n 1, 1) := by decide +kernel
theorem dX3_digest_206 : decode cX3_digest 206 = .ok (.iinc 3 1, 3) := by decide +kernel
theorem dX3_digest_209 : decode cX3_digest 209 = .ok (.goto (-29), 3) := by decide +kernel
theorem dX3_digest_212 : decode cX3_digest 212 = .ok (.lload_n 1, 1) := by decide +kernel
theorem dX3_digest_213 : decode cX3_digest 213 = .ok (.lreturn, 1) := by decide +kernel
theorem dX3_mixStore_0 : decode cX3_mixStore 0 = .ok (.lload_n 1, 1) := by decide +kernel
theorem dX3_mixStore_1 : decode cX3_mixStore 1 = .ok (.lstore 4, 2) := by decide +kernel
theorem dX3_mixStore_3 : decode cX3_mixStore 3 = .ok (.iconst 0, 1) := by decide +kernel
theorem dX3_mixStore_4 : decode cX3_mixStore 4 = .ok (.istore 6, 2) := by decide +kernel
theorem dX3_mixStore_6 : decode cX3_mixStore 6 = .ok (.iload 6, 2) := by decide +kernel
theorem dX3_mixStore_8 : decode cX3_mixStore 8 = .ok (.bipush 11, 2) := by decide +kernel
theorem dX3_mixStore_10 : decode cX3_mixStore 10 = .ok (.if_icmp .ge 27, 3) := by decide +kernel
theorem dX3_mixStore_13 : decode cX3_mixStore 13 = .ok (.lload 4, 2) := by decide +kernel
theorem dX3_mixStore_15 : decode cX3_mixStore 15 = .ok (.aload_n 0, 1) := by decide +kernel
theorem dX3_mixStore_16 : decode cX3_mixStore 16 = .ok (.getfield 10, 3) := by decide +kernel
theorem dX3_mixStore_19 : decode cX3_mixStore 19 = .ok (.iload_n 3, 1) := by decide +kernel
theorem dX3_mixStore_20 : decode cX3_mixStore 20 = .ok (.iload 6, 2) := by decide +kernel
theorem dX3_mixStore_22 : decode cX3_mixStore 22 = .ok (.invokevirtual 130, 3) := by decide +kernel
theorem dX3_mixStore_25 : decode cX3_mixStore 25 = .ok (.i2l, 1) := by decide +kernel
theorem dX3_mixStore_26 : decode cX3_mixStore 26 = .ok (.invokestatic 168, 3) := by decide +kernel
theorem dX3_mixStore_29 : decode cX3_mixStore 29 = .ok (.lstore 4, 2) := by decide +kernel
theorem dX3_mixStore_31 : decode cX3_mixStore 31 = .ok (.iinc 6 1, 3) := by decide +kernel
theorem dX3_mixStore_34 : decode cX3_mixStore 34 = .ok (.goto (-28), 3) := by decide +kernel
theorem dX3_mixStore_37 : decode cX3_mixStore 37 = .ok (.aload_n 0, 1) := by decide +kernel
theorem dX3_mixStore_38 : decode cX3_mixStore 38 = .ok (.getfield 10, 3) := by decide +kernel
theorem dX3_mixStore_41 : decode cX3_mixStore 41 = .ok (.getfield 107, 3) := by decide +kernel
theorem dX3_mixStore_44 : decode cX3_mixStore 44 = .ok (.iload_n 3, 1) := by decide +kernel
theorem dX3_mixStore_45 : decode cX3_mixStore 45 = .ok (.aaload, 1) := by decide +kernel
theorem dX3_mixStore_46 : decode cX3_mixStore 46 = .ok (.astore 6, 2) := by decide +kernel
theorem dX3_mixStore_48 : decode cX3_mixStore 48 = .ok (.iconst 0, 1) := by decide +kernel
theorem dX3_mixStore_49 : decode cX3_mixStore 49 = .ok (.istore 7, 2) := by decide +kernel
theorem dX3_mixStore_51 : decode cX3_mixStore 51 = .ok (.iload 7, 2) := by decide +kernel
theorem dX3_mixStore_53 : decode cX3_mixStore 53 = .ok (.aload 6, 2) := by decide +kernel
theorem dX3_mixStore_55 : decode cX3_mixStore 55 = .ok (.getfield 137, 3) := by decide +kernel
theorem dX3_mixStore_58 : decode cX3_mixStore 58 = .ok (.if_icmp .ge 25, 3) := by decide +kernel
theorem dX3_mixStore_61 : decode cX3_mixStore 61 = .ok (.lload 4, 2) := by decide +kernel
theorem dX3_mixStore_63 : decode cX3_mixStore 63 = .ok (.aload 6, 2) := by decide +kernel
theorem dX3_mixStore_65 : decode cX3_mixStore 65 = .ok (.getfield 140, 3) := by decide +kernel
theorem dX3_mixStore_68 : decode cX3_mixStore 68 = .ok (.iload 7, 2) := by decide +kernel
theorem dX3_mixStore_70 : decode cX3_mixStore 70 = .ok (.iaload, 1) := by decide +kernel
theorem dX3_mixStore_71 : decode cX3_mixStore 71 = .ok (.i2l, 1) := by decide +kernel
theorem dX3_mixStore_72 : decode cX3_mixStore 72 = .ok (.invokestatic 168, 3) := by decide +kernel
theorem dX3_mixStore_75 : decode cX3_mixStore 75 = .ok (.lstore 4, 2) := by decide +kernel
theorem dX3_mixStore_77 : decode cX3_mixStore 77 = .ok (.iinc 7 1, 3) := by decide +kernel
theorem dX3_mixStore_80 : decode cX3_mixStore 80 = .ok (.goto (-29), 3) := by decide +kernel
theorem dX3_mixStore_83 : decode cX3_mixStore 83 = .ok (.lload 4, 2) := by decide +kernel
theorem dX3_mixStore_85 : decode cX3_mixStore 85 = .ok (.aload_n 0, 1) := by decide +kernel
theorem dX3_mixStore_86 : decode cX3_mixStore 86 = .ok (.getfield 10, 3) := by decide +kernel
theorem dX3_mixStore_89 : decode cX3_mixStore 89 = .ok (.iload_n 3, 1) := by decide +kernel
theorem dX3_mixStore_90 : decode cX3_mixStore 90 = .ok (.invokevirtual 159, 3) := by decide +kernel
theorem dX3_mixStore_93 : decode cX3_mixStore 93 = .ok (.i2l, 1) := by decide +kernel
theorem dX3_mixStore_94 : decode cX3_mixStore 94 = .ok (.invokestatic 168, 3) := by decide +kernel
theorem dX3_mixStore_97 : decode cX3_mixStore 97 = .ok (.lstore 4, 2) := by decide +kernel
theorem dX3_mixStore_99 : decode cX3_mixStore 99 = .ok (.iconst 0, 1) := by decide +kernel
theorem dX3_mixStore_100 : decode cX3_mixStore 100 = .ok (.istore 7, 2) := by decide +kernel
theorem dX3_mixStore_102 : decode cX3_mixStore 102 = .ok (.iload 7, 2) := by decide +kernel
theorem dX3_mixStore_104 : decode cX3_mixStore 104 = .ok (.iconst 4, 1) := by decide +kernel
theorem dX3_mixStore_105 : decode cX3_mixStore 105 = .ok (.if_icmp .ge 24, 3) := by decide +kernel
theorem dX3_mixStore_108 : decode cX3_mixStore 108 = .ok (.lload 4, 2) := by decide +kernel
theorem dX3_mixStore_110 : decode cX3_mixStore 110 = .ok (.aload_n 0, 1) := by decide +kernel
theorem dX3_mixStore_111 : decode cX3_mixStore 111 = .ok (.iload_n 3, 1) := by decide +kernel
theorem dX3_mixStore_112 : decode cX3_mixStore 112 = .ok (.iload 7, 2) := by decide +kernel
theorem dX3_mixStore_114 : decode cX3_mixStore 114 = .ok (.invokevirtual 156, 3) := by decide +kernel
theorem dX3_mixStore_117 : decode cX3_mixStore 117 = .ok (.i2l, 1) := by decide +kernel
theorem dX3_mixStore_118 : decode cX3_mixStore 118 = .ok (.invokestatic 168, 3) := by decide +kernel
theorem dX3_mixStore_121 : decode cX3_mixStore 121 = .ok (.lstore 4, 2) := by decide +kernel
theorem dX3_mixStore_123 : decode cX3_mixStore 123 = .ok (.iinc 7 1, 3) := by decide +kernel
theorem dX3_mixStore_126 : decode cX3_mixStore 126 = .ok (.goto (-24), 3) := by decide +kernel
theorem dX3_mixStore_129 : decode cX3_mixStore 129 = .ok (.lload 4, 2) := by decide +kernel
theorem dX3_mixStore_131 : decode cX3_mixStore 131 = .ok (.lreturn, 1) := by decide +kernel
theorem dX3_mix_0 : decode cX3_mix 0 = .ok (.ldc2_w 186, 3) := by decide +kernel
theorem dX3_mix_3 : decode cX3_mix 3 = .ok (.lload_n 0, 1) := by decide +kernel
theorem dX3_mix_4 : decode cX3_mix 4 = .ok (.lmul, 1) := by decide +kernel
theorem dX3_mix_5 : decode cX3_mix 5 = .ok (.lload_n 2, 1) := by decide +kernel
theorem dX3_mix_6 : decode cX3_mix 6 = .ok (.ladd, 1) := by decide +kernel
theorem dX3_mix_7 : decode cX3_mix 7 = .ok (.lreturn, 1) := by decide +kernel
theorem dX3_bitsOfShare_0 : decode cX3_bitsOfShare 0 = .ok (.dload_n 0, 1) := by decide +kernel
theorem dX3_bitsOfShare_1 : decode cX3_bitsOfShare 1 = .ok (.dconst 0, 1) := by decide +kernel
theorem dX3_bitsOfShare_2 : decode cX3_bitsOfShare 2 = .ok (.dcmp .g, 1) := by decide +kernel
theorem dX3_bitsOfShare_3 : decode cX3_bitsOfShare 3 = .ok (.ifCond .gt 5, 3) := by decide +kernel
theorem dX3_bitsOfShare_6 : decode cX3_bitsOfShare 6 = .ok (.lconst 0, 1) := by decide +kernel
theorem dX3_bitsOfShare_7 : decode cX3_bitsOfShare 7 = .ok (.lreturn, 1) := by decide +kernel
theorem dX3_bitsOfShare_8 : decode cX3_bitsOfShare 8 = .ok (.dload_n 0, 1) := by decide +kernel
theorem dX3_bitsOfShare_9 : decode cX3_bitsOfShare 9 = .ok (.dstore_n 2, 1) := by decide +kernel
theorem dX3_bitsOfShare_10 : decode cX3_bitsOfShare 10 = .ok (.ldc2_w 188, 3) := by decide +kernel
theorem dX3_bitsOfShare_13 : decode cX3_bitsOfShare 13 = .ok (.lstore 4, 2) := by decide +kernel
theorem dX3_bitsOfShare_15 : decode cX3_bitsOfShare 15 = .ok (.iconst 0, 1) := by decide +kernel
theorem dX3_bitsOfShare_16 : decode cX3_bitsOfShare 16 = .ok (.istore 6, 2) := by decide +kernel
theorem dX3_bitsOfShare_18 : decode cX3_bitsOfShare 18 = .ok (.iload 6, 2) := by decide +kernel
theorem dX3_bitsOfShare_20 : decode cX3_bitsOfShare 20 = .ok (.sipush 1023, 3) := by decide +kernel
theorem dX3_bitsOfShare_23 : decode cX3_bitsOfShare 23 = .ok (.if_icmp .ge 27, 3) := by decide +kernel
theorem dX3_bitsOfShare_26 : decode cX3_bitsOfShare 26 = .ok (.dload_n 2, 1) := by decide +kernel
theorem dX3_bitsOfShare_27 : decode cX3_bitsOfShare 27 = .ok (.dconst 1, 1) := by decide +kernel
theorem dX3_bitsOfShare_28 : decode cX3_bitsOfShare 28 = .ok (.dcmp .g, 1) := by decide +kernel
theorem dX3_bitsOfShare_29 : decode cX3_bitsOfShare 29 = .ok (.ifCond .ge 21, 3) := by decide +kernel
theorem dX3_bitsOfShare_32 : decode cX3_bitsOfShare 32 = .ok (.dload_n 2, 1) := by decide +kernel
theorem dX3_bitsOfShare_33 : decode cX3_bitsOfShare 33 = .ok (.ldc2_w 190, 3) := by decide +kernel
theorem dX3_bitsOfShare_36 : decode cX3_bitsOfShare 36 = .ok (.dmul, 1) := by decide +kernel
theorem dX3_bitsOfShare_37 : decode cX3_bitsOfShare 37 = .ok (.dstore_n 2, 1) := by decide +kernel
theorem dX3_bitsOfShare_38 : decode cX3_bitsOfShare 38 = .ok (.lload 4, 2) := by decide +kernel
theorem dX3_bitsOfShare_40 : decode cX3_bitsOfShare 40 = .ok (.lconst 1, 1) := by decide +kernel
theorem dX3_bitsOfShare_41 : decode cX3_bitsOfShare 41 = .ok (.lsub, 1) := by decide +kernel
theorem dX3_bitsOfShare_42 : decode cX3_bitsOfShare 42 = .ok (.lstore 4, 2) := by decide +kernel
theorem dX3_bitsOfShare_44 : decode cX3_bitsOfShare 44 = .ok (.iinc 6 1, 3) := by decide +kernel
theorem dX3_bitsOfShare_47 : decode cX3_bitsOfShare 47 = .ok (.goto (-29), 3) := by decide +kernel
theorem dX3_bitsOfShare_50 : decode cX3_bitsOfShare 50 = .ok (.dload_n 2, 1) := by decide +kernel
theorem dX3_bitsOfShare_51 : decode cX3_bitsOfShare 51 = .ok (.dconst 1, 1) := by decide +kernel
theorem dX3_bitsOfShare_52 : decode cX3_bitsOfShare 52 = .ok (.dsub, 1) := by decide +kernel
theorem dX3_bitsOfShare_53 : decode cX3_bitsOfShare 53 = .ok (.ldc2_w 192, 3) := by decide +kernel
theorem dX3_bitsOfShare_56 : decode cX3_bitsOfShare 56 = .ok (.dmul, 1) := by decide +kernel
theorem dX3_bitsOfShare_57 : decode cX3_bitsOfShare 57 = .ok (.dstore 6, 2) := by decide +kernel
theorem dX3_bitsOfShare_59 : decode cX3_bitsOfShare 59 = .ok (.lload 4, 2) := by decide +kernel
theorem dX3_bitsOfShare_61 : decode cX3_bitsOfShare 61 = .ok (.bipush 52, 2) := by decide +kernel
theorem dX3_bitsOfShare_63 : decode cX3_bitsOfShare 63 = .ok (.lshl, 1) := by decide +kernel
theorem dX3_bitsOfShare_64 : decode cX3_bitsOfShare 64 = .ok (.dload 6, 2) := by decide +kernel
theorem dX3_bitsOfShare_66 : decode cX3_bitsOfShare 66 = .ok (.d2l, 1) := by decide +kernel
theorem dX3_bitsOfShare_67 : decode cX3_bitsOfShare 67 = .ok (.ladd, 1) := by decide +kernel
theorem dX3_bitsOfShare_68 : decode cX3_bitsOfShare 68 = .ok (.lreturn, 1) := by decide +kernel
theorem dX3_counted_0 : decode cX3_counted 0 = .ok (.iload_n 1, 1) := by decide +kernel
theorem dX3_counted_1 : decode cX3_counted 1 = .ok (.tableswitch 116 0 7 #[47, 55, 63, 72, 82, 92, 100, 108], 47) := by decide +kernel
theorem dX3_counted_48 : decode cX3_counted 48 = .ok (.aload_n 0, 1) := by decide +kernel
theorem dX3_counted_49 : decode cX3_counted 49 = .ok (.getfield 10, 3) := by decide +kernel
theorem dX3_counted_52 : decode cX3_counted 52 = .ok (.getfield 194, 3) := by decide +kernel
theorem dX3_counted_55 : decode cX3_counted 55 = .ok (.ireturn, 1) := by decide +kernel
theorem dX3_counted_56 : decode cX3_counted 56 = .ok (.aload_n 0, 1) := by decide +kernel
theorem dX3_counted_57 : decode cX3_counted 57 = .ok (.getfield 10, 3) := by decide +kernel
theorem dX3_counted_60 : decode cX3_counted 60 = .ok (.getfield 143, 3) := by decide +kernel
theorem dX3_counted_63 : decode cX3_counted 63 = .ok (.ireturn, 1) := by decide +kernel
theorem dX3_counted_64 : decode cX3_counted 64 = .ok (.aload_n 0, 1) := by decide +kernel
theorem dX3_counted_65 : decode cX3_counted 65 = .ok (.getfield 10, 3) := by decide +kernel
theorem dX3_counted_68 : decode cX3_counted 68 = .ok (.iconst 5, 1) := by decide +kernel
theorem dX3_counted_69 : decode cX3_counted 69 = .ok (.invokevirtual 197, 3) := by decide +kernel
theorem dX3_counted_72 : decode cX3_counted 72 = .ok (.ireturn, 1) := by decide +kernel
theorem dX3_counted_73 : decode cX3_counted 73 = .ok (.aload_n 0, 1) := by decide +kernel
theorem dX3_counted_74 : decode cX3_counted 74 = .ok (.getfield 10, 3) := by decide +kernel
theorem dX3_counted_77 : decode cX3_counted 77 = .ok (.bipush 6, 2) := by decide +kernel
theorem dX3_counted_79 : decode cX3_counted 79 = .ok (.invokevirtual 197, 3) := by decide +kernel
theorem dX3_counted_82 : decode cX3_counted 82 = .ok (.ireturn, 1) := by decide +kernel
theorem dX3_counted_83 : decode cX3_counted 83 = .ok (.aload_n 0, 1) := by decide +kernel
theorem dX3_counted_84 : decode cX3_counted 84 = .ok (.getfield 10, 3) := by decide +kernel
theorem dX3_counted_87 : decode cX3_counted 87 = .ok (.bipush 7, 2) := by decide +kernel
theorem dX3_counted_89 : decode cX3_counted 89 = .ok (.invokevirtual 197, 3) := by decide +kernel
theorem dX3_counted_92 : decode cX3_counted 92 = .ok (.ireturn, 1) := by decide +kernel
theorem dX3_counted_93 : decode cX3_counted 93 = .ok (.aload_n 0, 1) := by decide +kernel
theorem dX3_counted_94 : decode cX3_counted 94 = .ok (.getfield 10, 3) := by decide +kernel
theorem dX3_counted_97 : decode cX3_counted 97 = .ok (.getfield 200, 3) := by decide +kernel
theorem dX3_counted_100 : decode cX3_counted 100 = .ok (.ireturn, 1) := by decide +kernel
theorem dX3_counted_101 : decode cX3_counted 101 = .ok (.aload_n 0, 1) := by decide +kernel
theorem dX3_counted_102 : decode cX3_counted 102 = .ok (.getfield 10, 3) := by decide +kernel
theorem dX3_counted_105 : decode cX3_counted 105 = .ok (.invokevirtual 203, 3) := by decide +kernel
theorem dX3_counted_108 : decode cX3_counted 108 = .ok (.ireturn, 1) := by decide +kernel
theorem dX3_counted_109 : decode cX3_counted 109 = .ok (.aload_n 0, 1) := by decide +kernel
theorem dX3_counted_110 : decode cX3_counted 110 = .ok (.getfield 10, 3) := by decide +kernel
theorem dX3_counted_113 : decode cX3_counted 113 = .ok (.getfield 206, 3) := by decide +kernel
theorem dX3_counted_116 : decode cX3_counted 116 = .ok (.ireturn, 1) := by decide +kernel
theorem dX3_counted_117 : decode cX3_counted 117 = .ok (.aload_n 0, 1) := by decide +kernel
theorem dX3_counted_118 : decode cX3_counted 118 = .ok (.getfield 117, 3) := by decide +kernel
theorem dX3_counted_121 : decode cX3_counted 121 = .ok (.ireturn, 1) := by decide +kernel
theorem dX3_foresee_0 : decode cX3_foresee 0 = .ok (.aload_n 0, 1) := by decide +kernel
theorem dX3_foresee_1 : decode cX3_foresee 1 = .ok (.getfield 16, 3) := by decide +kernel
theorem dX3_foresee_4 : decode cX3_foresee 4 = .ok (.aload_n 0, 1) := by decide +kernel
theorem dX3_foresee_5 : decode cX3_foresee 5 = .ok (.getfield 10, 3) := by decide +kernel
theorem dX3_foresee_8 : decode cX3_foresee 8 = .ok (.invokevirtual 126, 3) := by decide +kernel
theorem dX3_foresee_11 : decode cX3_foresee 11 = .ok (.aload_n 0, 1) := by decide +kernel
theorem dX3_foresee_12 : decode cX3_foresee 12 = .ok (.getfield 16, 3) := by decide +kernel
theorem dX3_foresee_15 : decode cX3_foresee 15 = .ok (.iload_n 1, 1) := by decide +kernel
theorem dX3_foresee_16 : decode cX3_foresee 16 = .ok (.iload_n 2, 1) := by decide +kernel
theorem dX3_foresee_17 : decode cX3_foresee 17 = .ok (.iload_n 3, 1) := by decide +kernel
theorem dX3_foresee_18 : decode cX3_foresee 18 = .ok (.invokevirtual 56, 3) := by decide +kernel
theorem dX3_foresee_21 : decode cX3_foresee 21 = .ok (.pop, 1) := by decide +kernel
theorem dX3_foresee_22 : decode cX3_foresee 22 = .ok (.return_, 1) := by decide +kernel
theorem dX3_foreseen_0 : decode cX3_foreseen 0 = .ok (.aload_n 0, 1) := by decide +kernel
theorem dX3_foreseen_1 : decode cX3_foreseen 1 = .ok (.getfield 10, 3) := by decide +kernel
theorem dX3_foreseen_4 : decode cX3_foreseen 4 = .ok (.getfield 107, 3) := by decide +kernel
theorem dX3_foreseen_7 : decode cX3_foreseen 7 = .ok (.iload_n 1, 1) := by decide +kernel
theorem dX3_foreseen_8 : decode cX3_foreseen 8 = .ok (.aaload, 1) := by decide +kernel
theorem dX3_foreseen_9 : decode cX3_foreseen 9 = .ok (.astore_n 3, 1) := by decide +kernel
theorem dX3_foreseen_10 : decode cX3_foreseen 10 = .ok (.aload_n 0, 1) := by decide +kernel
theorem dX3_foreseen_11 : decode cX3_foreseen 11 = .ok (.getfield 16, 3) := by decide +kernel
theorem dX3_foreseen_14 : decode cX3_foreseen 14 = .ok (.getfield 107, 3) := by decide +kernel
theorem dX3_foreseen_17 : decode cX3_foreseen 17 = .ok (.iload_n 1, 1) := by decide +kernel
theorem dX3_foreseen_18 : decode cX3_foreseen 18 = .ok (.aaload, 1) := by decide +kernel
theorem dX3_foreseen_19 : decode cX3_foreseen 19 = .ok (.astore 4, 2) := by decide +kernel
theorem dX3_foreseen_21 : decode cX3_foreseen 21 = .ok (.iload_n 2, 1) := by decide +kernel
theorem dX3_foreseen_22 : decode cX3_foreseen 22 = .ok (.tableswitch 68 0 2 #[26, 37, 48], 26) := by decide +kernel
theorem dX3_foreseen_48 : decode cX3_foreseen 48 = .ok (.aload 4, 2) := by decide +kernel
theorem dX3_foreseen_50 : decode cX3_foreseen 50 = .ok (.getfield 209, 3) := by decide +kernel
theorem dX3_foreseen_53 : decode cX3_foreseen 53 = .ok (.aload_n 3, 1) := by decide +kernel
theorem dX3_foreseen_54 : decode cX3_foreseen 54 = .ok (.getfield 209, 3) := by decide +kernel
theorem dX3_foreseen_57 : decode cX3_foreseen 57 = .ok (.isub, 1) := by decide +kernel
theorem dX3_foreseen_58 : decode cX3_foreseen 58 = .ok (.ireturn, 1) := by decide +kernel
theorem dX3_foreseen_59 : decode cX3_foreseen 59 = .ok (.aload 4, 2) := by decide +kernel
theorem dX3_foreseen_61 : decode cX3_foreseen 61 = .ok (.getfield 212, 3) := by decide +kernel
theorem dX3_foreseen_64 : decode cX3_foreseen 64 = .ok (.aload_n 3, 1) := by decide +kernel
theorem dX3_foreseen_65 : decode cX3_foreseen 65 = .ok (.getfield 212, 3) := by decide +kernel
theorem dX3_foreseen_68 : decode cX3_foreseen 68 = .ok (.isub, 1) := by decide +kernel
theorem dX3_foreseen_69 : decode cX3_foreseen 69 = .ok (.ireturn, 1) := by decide +kernel
theorem dX3_foreseen_70 : decode cX3_foreseen 70 = .ok (.aload_n 0, 1) := by decide +kernel
theorem dX3_foreseen_71 : decode cX3_foreseen 71 = .ok (.getfield 16, 3) := by decide +kernel
theorem dX3_foreseen_74 : decode cX3_foreseen 74 = .ok (.bipush 7, 2) := by decide +kernel
theorem dX3_foreseen_76 : decode cX3_foreseen 76 = .ok (.invokevirtual 197, 3) := by decide +kernel
theorem dX3_foreseen_79 : decode cX3_foreseen 79 = .ok (.aload_n 0, 1) := by decide +kernel
theorem dX3_foreseen_80 : decode cX3_foreseen 80 = .ok (.getfield 10, 3) := by decide +kernel
theorem dX3_foreseen_83 : decode cX3_foreseen 83 = .ok (.bipush 7, 2) := by decide +kernel
theorem dX3_foreseen_85 : decode cX3_foreseen 85 = .ok (.invokevirtual 197, 3) := by decide +kernel
theorem dX3_foreseen_88 : decode cX3_foreseen 88 = .ok (.isub, 1) := by decide +kernel
theorem dX3_foreseen_89 : decode cX3_foreseen 89 = .ok (.ireturn, 1) := by decide +kernel
theorem dX3_foreseen_90 : decode cX3_foreseen 90 = .ok (.aload 4, 2) := by decide +kernel
theorem dX3_foreseen_92 : decode cX3_foreseen 92 = .ok (.getfield 215, 3) := by decide +kernel
theorem dX3_foreseen_95 : decode cX3_foreseen 95 = .ok (.ireturn, 1) := by decide +kernel
theorem dX3_save_0 : decode cX3_save 0 = .ok (.aload_n 0, 1) := by decide +kernel
theorem dX3_save_1 : decode cX3_save 1 = .ok (.getfield 117, 3) := by decide +kernel
theorem dX3_save_4 : decode cX3_save 4 = .ok (.bipush 6, 2) := by decide +kernel
theorem dX3_save_6 : decode cX3_save 6 = .ok (.if_icmp .lt 21, 3) := by decide +kernel
theorem dX3_save_9 : decode cX3_save 9 = .ok (.aload_n 0, 1) := by decide +kernel
theorem dX3_save_10 : decode cX3_save 10 = .ok (.aload_n 0, 1) := by decide +kernel
theorem dX3_save_11 : decode cX3_save 11 = .ok (.getfield 123, 3) := by decide +kernel
theorem dX3_save_14 : decode cX3_save 14 = .ok (.iconst 1, 1) := by decide +kernel
theorem dX3_save_15 : decode cX3_save 15 = .ok (.iadd, 1) := by decide +kernel
theorem dX3_save_16 : decode cX3_save 16 = .ok (.bipush 6, 2) := by decide +kernel
theorem dX3_save_18 : decode cX3_save 18 = .ok (.irem, 1) := by decide +kernel
theorem dX3_save_19 : decode cX3_save 19 = .ok (.putfield 123, 3) := by decide +kernel
theorem dX3_save_22 : decode cX3_save 22 = .ok (.aload_n 0, 1) := by decide +kernel
theorem dX3_save_23 : decode cX3_save 23 = .ok (.iconst 5, 1) := by decide +kernel
theorem dX3_save_24 : decode cX3_save 24 = .ok (.putfield 117, 3) := by decide +kernel
theorem dX3_save_27 : decode cX3_save 27 = .ok (.aload_n 0, 1) := by decide +kernel
theorem dX3_save_28 : decode cX3_save 28 = .ok (.getfield 19, 3) := by decide +kernel
theorem dX3_save_31 : decode cX3_save 31 = .ok (.aload_n 0, 1) := by decide +kernel
theorem dX3_save_32 : decode cX3_save 32 = .ok (.getfield 123, 3) := by decide +kernel
theorem dX3_save_35 : decode cX3_save 35 = .ok (.aload_n 0, 1) := by decide +kernel
theorem dX3_save_36 : decode cX3_save 36 = .ok (.getfield 117, 3) := by decide +kernel
theorem dX3_save_39 : decode cX3_save 39 = .ok (.iadd, 1) := by decide +kernel
theorem dX3_save_40 : decode cX3_save 40 = .ok (.bipush 6, 2) := by decide +kernel
theorem dX3_save_42 : decode cX3_save 42 = .ok (.irem, 1) := by decide +kernel
theorem dX3_save_43 : decode cX3_save 43 = .ok (.aaload, 1) := by decide +kernel
theorem dX3_save_44 : decode cX3_save 44 = .ok (.aload_n 0, 1) := by decide +kernel
theorem dX3_save_45 : decode cX3_save 45 = .ok (.getfield 10, 3) := by decide +kernel
theorem dX3_save_48 : decode cX3_save 48 = .ok (.invokevirtual 126, 3) := by decide +kernel
theorem dX3_save_51 : decode cX3_save 51 = .ok (.aload_n 0, 1) := by decide +kernel
theorem dX3_save_52 : decode cX3_save 52 = .ok (.dup, 1) := by decide +kernel
theorem dX3_save_53 : decode cX3_save 53 = .ok (.getfield 117, 3) := by decide +kernel
theorem dX3_save_56 : decode cX3_save 56 = .ok (.iconst 1, 1) := by decide +kernel
theorem dX3_save_57 : decode cX3_save 57 = .ok (.iadd, 1) := by decide +kernel
theorem dX3_save_58 : decode cX3_save 58 = .ok (.putfield 117, 3) := by decide +kernel
theorem dX3_save_61 : decode cX3_save 61 = .ok (.return_, 1) := by decide +kernel
theorem dX3_requireStore_0 : decode cX3_requireStore 0 = .ok (.iload_n 0, 1) := by decide +kernel
theorem dX3_requireStore_1 : decode cX3_requireStore 1 = .ok (.ifCond .lt 8, 3) := by decide +kernel
theorem dX3_requireStore_4 : decode cX3_requireStore 4 = .ok (.iload_n 0, 1) := by decide +kernel
theorem dX3_requireStore_5 : decode cX3_requireStore 5 = .ok (.iconst 4, 1) := by decide +kernel
theorem dX3_requireStore_6 : decode cX3_requireStore 6 = .ok (.if_icmp .lt 13, 3) := by decide +kernel
theorem dX3_requireStore_9 : decode cX3_requireStore 9 = .ok (.new 218, 3) := by decide +kernel
theorem dX3_requireStore_12 : decode cX3_requireStore 12 = .ok (.dup, 1) := by decide +kernel
theorem dX3_requireStore_13 : decode cX3_requireStore 13 = .ok (.ldc 220, 2) := by decide +kernel
theorem dX3_requireStore_15 : decode cX3_requireStore 15 = .ok (.invokespecial 222, 3) := by decide +kernel
theorem dX3_requireStore_18 : decode cX3_requireStore 18 = .ok (.athrow, 1) := by decide +kernel
theorem dX3_requireStore_19 : decode cX3_requireStore 19 = .ok (.return_, 1) := by decide +kernel
theorem dX3_requireSetting_0 : decode cX3_requireSetting 0 = .ok (.iload_n 0, 1) := by decide +kernel
theorem dX3_requireSetting_1 : decode cX3_requireSetting 1 = .ok (.ifCond .lt 8, 3) := by decide +kernel
theorem dX3_requireSetting_4 : decode cX3_requireSetting 4 = .ok (.iload_n 0, 1) := by decide +kernel
theorem dX3_requireSetting_5 : decode cX3_requireSetting 5 = .ok (.iconst 5, 1) := by decide +kernel
theorem dX3_requireSetting_6 : decode cX3_requireSetting 6 = .ok (.if_icmp .lt 13, 3) := by decide +kernel
theorem dX3_requireSetting_9 : decode cX3_requireSetting 9 = .ok (.new 218, 3) := by decide +kernel
theorem dX3_requireSetting_12 : decode cX3_requireSetting 12 = .ok (.dup, 1) := by decide +kernel
theorem dX3_requireSetting_13 : decode cX3_requireSetting 13 = .ok (.ldc 223, 2) := by decide +kernel
theorem dX3_requireSetting_15 : decode cX3_requireSetting 15 = .ok (.invokespecial 222, 3) := by decide +kernel
theorem dX3_requireSetting_18 : decode cX3_requireSetting 18 = .ok (.athrow, 1) := by decide +kernel
theorem dX3_requireSetting_19 : decode cX3_requireSetting 19 = .ok (.return_, 1) := by decide +kernel
theorem dX3_requireRange_0 : decode cX3_requireRange 0 = .ok (.iload_n 0, 1) := by decide +kernel
theorem dX3_requireRange_1 : decode cX3_requireRange 1 = .ok (.iload_n 1, 1) := by decide +kernel
theorem dX3_requireRange_2 : decode cX3_requireRange 2 = .ok (.if_icmp .lt 8, 3) := by decide +kernel
theorem dX3_requireRange_5 : decode cX3_requireRange 5 = .ok (.iload_n 0, 1) := by decide +kernel
theorem dX3_requireRange_6 : decode cX3_requireRange 6 = .ok (.iload_n 2, 1) := by decide +kernel
theorem dX3_requireRange_7 : decode cX3_requireRange 7 = .ok (.if_icmp .le 13, 3) := by decide +kernel
theorem dX3_requireRange_10 : decode cX3_requireRange 10 = .ok (.new 102, 3) := by decide +kernel
theorem dX3_requireRange_13 : decode cX3_requireRange 13 = .ok (.dup, 1) := by decide +kernel
theorem dX3_requireRange_14 : decode cX3_requireRange 14 = .ok (.ldc 225, 2) := by decide +kernel
theorem dX3_requireRange_16 : decode cX3_requireRange 16 = .ok (.invokespecial 106, 3) := by decide +kernel
theorem dX3_requireRange_19 : decode cX3_requireRange 19 = .ok (.athrow, 1) := by decide +kernel
theorem dX3_requireRange_20 : decode cX3_requireRange 20 = .ok (.return_, 1) := by decide +kernel
theorem dX3_requireNotNegative_0 : decode cX3_requireNotNegative 0 = .ok (.iload_n 0, 1) := by decide +kernel
theorem dX3_requireNotNegative_1 : decode cX3_requireNotNegative 1 = .ok (.ifCond .ge 13, 3) := by decide +kernel
theorem dX3_requireNotNegative_4 : decode cX3_requireNotNegative 4 = .ok (.new 102, 3) := by decide +kernel
theorem dX3_requireNotNegative_7 : decode cX3_requireNotNegative 7 = .ok (.dup, 1) := by decide +kernel
theorem dX3_requireNotNegative_8 : decode cX3_requireNotNegative 8 = .ok (.ldc 227, 2) := by decide +kernel
theorem dX3_requireNotNegative_10 : decode cX3_requireNotNegative 10 = .ok (.invokespecial 106, 3) := by decide +kernel
theorem dX3_requireNotNegative_13 : decode cX3_requireNotNegative 13 = .ok (.athrow, 1) := by decide +kernel
theorem dX3_requireNotNegative_14 : decode cX3_requireNotNegative 14 = .ok (.return_, 1) := by decide +kernel
