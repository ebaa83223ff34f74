/-! decode rows, by program: State -/
theorem dX1_init_0 : decode cX1_init 0 = .ok (.aload_n 0, 1) := by decide +kernel
theorem dX1_init_1 : decode cX1_init 1 = .ok (.invokespecial 3, 3) := by decide +kernel
theorem dX1_init_4 : decode cX1_init 4 = .ok (.aload_n 0, 1) := by decide +kernel
theorem dX1_init_5 : decode cX1_init 5 = .ok (.iconst 4, 1) := by decide +kernel
theorem dX1_init_6 : decode cX1_init 6 = .ok (.anewarray 9, 3) := by decide +kernel
theorem dX1_init_9 : decode cX1_init 9 = .ok (.putfield 11, 3) := by decide +kernel
theorem dX1_init_12 : decode cX1_init 12 = .ok (.aload_n 0, 1) := by decide +kernel
theorem dX1_init_13 : decode cX1_init 13 = .ok (.iconst 5, 1) := by decide +kernel
theorem dX1_init_14 : decode cX1_init 14 = .ok (.newarray .int, 2) := by decide +kernel
theorem dX1_init_16 : decode cX1_init 16 = .ok (.putfield 17, 3) := by decide +kernel
theorem dX1_init_19 : decode cX1_init 19 = .ok (.aload_n 0, 1) := by decide +kernel
theorem dX1_init_20 : decode cX1_init 20 = .ok (.iconst 5, 1) := by decide +kernel
theorem dX1_init_21 : decode cX1_init 21 = .ok (.bipush 16, 2) := by decide +kernel
theorem dX1_init_23 : decode cX1_init 23 = .ok (.multianewarray 21 2, 4) := by decide +kernel
theorem dX1_init_27 : decode cX1_init 27 = .ok (.putfield 23, 3) := by decide +kernel
theorem dX1_init_30 : decode cX1_init 30 = .ok (.iconst 0, 1) := by decide +kernel
theorem dX1_init_31 : decode cX1_init 31 = .ok (.istore_n 1, 1) := by decide +kernel
theorem dX1_init_32 : decode cX1_init 32 = .ok (.iload_n 1, 1) := by decide +kernel
theorem dX1_init_33 : decode cX1_init 33 = .ok (.iconst 4, 1) := by decide +kernel
theorem dX1_init_34 : decode cX1_init 34 = .ok (.if_icmp .ge 22, 3) := by decide +kernel
theorem dX1_init_37 : decode cX1_init 37 = .ok (.aload_n 0, 1) := by decide +kernel
theorem dX1_init_38 : decode cX1_init 38 = .ok (.getfield 11, 3) := by decide +kernel
theorem dX1_init_41 : decode cX1_init 41 = .ok (.iload_n 1, 1) := by decide +kernel
theorem dX1_init_42 : decode cX1_init 42 = .ok (.new 9, 3) := by decide +kernel
theorem dX1_init_45 : decode cX1_init 45 = .ok (.dup, 1) := by decide +kernel
theorem dX1_init_46 : decode cX1_init 46 = .ok (.invokespecial 26, 3) := by decide +kernel
theorem dX1_init_49 : decode cX1_init 49 = .ok (.aastore, 1) := by decide +kernel
theorem dX1_init_50 : decode cX1_init 50 = .ok (.iinc 1 1, 3) := by decide +kernel
theorem dX1_init_53 : decode cX1_init 53 = .ok (.goto (-21), 3) := by decide +kernel
theorem dX1_init_56 : decode cX1_init 56 = .ok (.getstatic 27, 3) := by decide +kernel
theorem dX1_init_59 : decode cX1_init 59 = .ok (.iconst 0, 1) := by decide +kernel
theorem dX1_init_60 : decode cX1_init 60 = .ok (.aload_n 0, 1) := by decide +kernel
theorem dX1_init_61 : decode cX1_init 61 = .ok (.getfield 17, 3) := by decide +kernel
theorem dX1_init_64 : decode cX1_init 64 = .ok (.iconst 0, 1) := by decide +kernel
theorem dX1_init_65 : decode cX1_init 65 = .ok (.iconst 5, 1) := by decide +kernel
theorem dX1_init_66 : decode cX1_init 66 = .ok (.invokestatic 30, 3) := by decide +kernel
theorem dX1_init_69 : decode cX1_init 69 = .ok (.return_, 1) := by decide +kernel
theorem dX1_copyFrom_0 : decode cX1_copyFrom 0 = .ok (.iconst 0, 1) := by decide +kernel
theorem dX1_copyFrom_1 : decode cX1_copyFrom 1 = .ok (.istore_n 2, 1) := by decide +kernel
theorem dX1_copyFrom_2 : decode cX1_copyFrom 2 = .ok (.iload_n 2, 1) := by decide +kernel
theorem dX1_copyFrom_3 : decode cX1_copyFrom 3 = .ok (.iconst 4, 1) := by decide +kernel
theorem dX1_copyFrom_4 : decode cX1_copyFrom 4 = .ok (.if_icmp .ge 24, 3) := by decide +kernel
theorem dX1_copyFrom_7 : decode cX1_copyFrom 7 = .ok (.aload_n 0, 1) := by decide +kernel
theorem dX1_copyFrom_8 : decode cX1_copyFrom 8 = .ok (.getfield 11, 3) := by decide +kernel
theorem dX1_copyFrom_11 : decode cX1_copyFrom 11 = .ok (.iload_n 2, 1) := by decide +kernel
theorem dX1_copyFrom_12 : decode cX1_copyFrom 12 = .ok (.aaload, 1) := by decide +kernel
theorem dX1_copyFrom_13 : decode cX1_copyFrom 13 = .ok (.aload_n 1, 1) := by decide +kernel
theorem dX1_copyFrom_14 : decode cX1_copyFrom 14 = .ok (.getfield 11, 3) := by decide +kernel
theorem dX1_copyFrom_17 : decode cX1_copyFrom 17 = .ok (.iload_n 2, 1) := by decide +kernel
theorem dX1_copyFrom_18 : decode cX1_copyFrom 18 = .ok (.aaload, 1) := by decide +kernel
theorem dX1_copyFrom_19 : decode cX1_copyFrom 19 = .ok (.invokevirtual 36, 3) := by decide +kernel
theorem dX1_copyFrom_22 : decode cX1_copyFrom 22 = .ok (.iinc 2 1, 3) := by decide +kernel
theorem dX1_copyFrom_25 : decode cX1_copyFrom 25 = .ok (.goto (-23), 3) := by decide +kernel
theorem dX1_copyFrom_28 : decode cX1_copyFrom 28 = .ok (.aload_n 1, 1) := by decide +kernel
theorem dX1_copyFrom_29 : decode cX1_copyFrom 29 = .ok (.getfield 17, 3) := by decide +kernel
theorem dX1_copyFrom_32 : decode cX1_copyFrom 32 = .ok (.iconst 0, 1) := by decide +kernel
theorem dX1_copyFrom_33 : decode cX1_copyFrom 33 = .ok (.aload_n 0, 1) := by decide +kernel
theorem dX1_copyFrom_34 : decode cX1_copyFrom 34 = .ok (.getfield 17, 3) := by decide +kernel
theorem dX1_copyFrom_37 : decode cX1_copyFrom 37 = .ok (.iconst 0, 1) := by decide +kernel
theorem dX1_copyFrom_38 : decode cX1_copyFrom 38 = .ok (.iconst 5, 1) := by decide +kernel
theorem dX1_copyFrom_39 : decode cX1_copyFrom 39 = .ok (.invokestatic 30, 3) := by decide +kernel
theorem dX1_copyFrom_42 : decode cX1_copyFrom 42 = .ok (.iconst 0, 1) := by decide +kernel
theorem dX1_copyFrom_43 : decode cX1_copyFrom 43 = .ok (.istore_n 2, 1) := by decide +kernel
theorem dX1_copyFrom_44 : decode cX1_copyFrom 44 = .ok (.iload_n 2, 1) := by decide +kernel
theorem dX1_copyFrom_45 : decode cX1_copyFrom 45 = .ok (.iconst 5, 1) := by decide +kernel
theorem dX1_copyFrom_46 : decode cX1_copyFrom 46 = .ok (.if_icmp .ge 28, 3) := by decide +kernel
theorem dX1_copyFrom_49 : decode cX1_copyFrom 49 = .ok (.aload_n 1, 1) := by decide +kernel
theorem dX1_copyFrom_50 : decode cX1_copyFrom 50 = .ok (.getfield 23, 3) := by decide +kernel
theorem dX1_copyFrom_53 : decode cX1_copyFrom 53 = .ok (.iload_n 2, 1) := by decide +kernel
theorem dX1_copyFrom_54 : decode cX1_copyFrom 54 = .ok (.aaload, 1) := by decide +kernel
theorem dX1_copyFrom_55 : decode cX1_copyFrom 55 = .ok (.iconst 0, 1) := by decide +kernel
theorem dX1_copyFrom_56 : decode cX1_copyFrom 56 = .ok (.aload_n 0, 1) := by decide +kernel
theorem dX1_copyFrom_57 : decode cX1_copyFrom 57 = .ok (.getfield 23, 3) := by decide +kernel
theorem dX1_copyFrom_60 : decode cX1_copyFrom 60 = .ok (.iload_n 2, 1) := by decide +kernel
theorem dX1_copyFrom_61 : decode cX1_copyFrom 61 = .ok (.aaload, 1) := by decide +kernel
theorem dX1_copyFrom_62 : decode cX1_copyFrom 62 = .ok (.iconst 0, 1) := by decide +kernel
theorem dX1_copyFrom_63 : decode cX1_copyFrom 63 = .ok (.bipush 16, 2) := by decide +kernel
theorem dX1_copyFrom_65 : decode cX1_copyFrom 65 = .ok (.invokestatic 30, 3) := by decide +kernel
theorem dX1_copyFrom_68 : decode cX1_copyFrom 68 = .ok (.iinc 2 1, 3) := by decide +kernel
theorem dX1_copyFrom_71 : decode cX1_copyFrom 71 = .ok (.goto (-27), 3) := by decide +kernel
theorem dX1_copyFrom_74 : decode cX1_copyFrom 74 = .ok (.aload_n 0, 1) := by decide +kernel
theorem dX1_copyFrom_75 : decode cX1_copyFrom 75 = .ok (.aload_n 1, 1) := by decide +kernel
theorem dX1_copyFrom_76 : decode cX1_copyFrom 76 = .ok (.getfield 40, 3) := by decide +kernel
theorem dX1_copyFrom_79 : decode cX1_copyFrom 79 = .ok (.putfield 40, 3) := by decide +kernel
theorem dX1_copyFrom_82 : decode cX1_copyFrom 82 = .ok (.aload_n 0, 1) := by decide +kernel
theorem dX1_copyFrom_83 : decode cX1_copyFrom 83 = .ok (.aload_n 1, 1) := by decide +kernel
theorem dX1_copyFrom_84 : decode cX1_copyFrom 84 = .ok (.getfield 44, 3) := by decide +kernel
theorem dX1_copyFrom_87 : decode cX1_copyFrom 87 = .ok (.putfield 44, 3) := by decide +kernel
theorem dX1_copyFrom_90 : decode cX1_copyFrom 90 = .ok (.aload_n 0, 1) := by decide +kernel
theorem dX1_copyFrom_91 : decode cX1_copyFrom 91 = .ok (.aload_n 1, 1) := by decide +kernel
theorem dX1_copyFrom_92 : decode cX1_copyFrom 92 = .ok (.getfield 47, 3) := by decide +kernel
theorem dX1_copyFrom_95 : decode cX1_copyFrom 95 = .ok (.putfield 47, 3) := by decide +kernel
theorem dX1_copyFrom_98 : decode cX1_copyFrom 98 = .ok (.aload_n 0, 1) := by decide +kernel
theorem dX1_copyFrom_99 : decode cX1_copyFrom 99 = .ok (.aload_n 1, 1) := by decide +kernel
theorem dX1_copyFrom_100 : decode cX1_copyFrom 100 = .ok (.getfield 50, 3) := by decide +kernel
theorem dX1_copyFrom_103 : decode cX1_copyFrom 103 = .ok (.putfield 50, 3) := by decide +kernel
theorem dX1_copyFrom_106 : decode cX1_copyFrom 106 = .ok (.return_, 1) := by decide +kernel
theorem dX1_isFull_0 : decode cX1_isFull 0 = .ok (.aload_n 0, 1) := by decide +kernel
theorem dX1_isFull_1 : decode cX1_isFull 1 = .ok (.getfield 40, 3) := by decide +kernel
theorem dX1_isFull_4 : decode cX1_isFull 4 = .ok (.bipush 16, 2) := by decide +kernel
theorem dX1_isFull_6 : decode cX1_isFull 6 = .ok (.if_icmp .lt 7, 3) := by decide +kernel
theorem dX1_isFull_9 : decode cX1_isFull 9 = .ok (.iconst 1, 1) := by decide +kernel
theorem dX1_isFull_10 : decode cX1_isFull 10 = .ok (.goto 4, 3) := by decide +kernel
theorem dX1_isFull_13 : decode cX1_isFull 13 = .ok (.iconst 0, 1) := by decide +kernel
theorem dX1_isFull_14 : decode cX1_isFull 14 = .ok (.ireturn, 1) := by decide +kernel
theorem dX1_blocks_0 : decode cX1_blocks 0 = .ok (.aload_n 0, 1) := by decide +kernel
theorem dX1_blocks_1 : decode cX1_blocks 1 = .ok (.invokevirtual 53, 3) := by decide +kernel
theorem dX1_blocks_4 : decode cX1_blocks 4 = .ok (.ifCond .eq 15, 3) := by decide +kernel
theorem dX1_blocks_7 : decode cX1_blocks 7 = .ok (.aload_n 0, 1) := by decide +kernel
theorem dX1_blocks_8 : decode cX1_blocks 8 = .ok (.iload_n 1, 1) := by decide +kernel
theorem dX1_blocks_9 : decode cX1_blocks 9 = .ok (.invokevirtual 57, 3) := by decide +kernel
theorem dX1_blocks_12 : decode cX1_blocks 12 = .ok (.ifCond .eq 7, 3) := by decide +kernel
theorem dX1_blocks_15 : decode cX1_blocks 15 = .ok (.iconst 1, 1) := by decide +kernel
theorem dX1_blocks_16 : decode cX1_blocks 16 = .ok (.goto 4, 3) := by decide +kernel
theorem dX1_blocks_19 : decode cX1_blocks 19 = .ok (.iconst 0, 1) := by decide +kernel
theorem dX1_blocks_20 : decode cX1_blocks 20 = .ok (.ireturn, 1) := by decide +kernel
theorem dX1_answerFor_0 : decode cX1_answerFor 0 = .ok (.aload_n 0, 1) := by decide +kernel
theorem dX1_answerFor_1 : decode cX1_answerFor 1 = .ok (.getfield 11, 3) := by decide +kernel
theorem dX1_answerFor_4 : decode cX1_answerFor 4 = .ok (.iload_n 1, 1) := by decide +kernel
theorem dX1_answerFor_5 : decode cX1_answerFor 5 = .ok (.aaload, 1) := by decide +kernel
theorem dX1_answerFor_6 : decode cX1_answerFor 6 = .ok (.getfield 61, 3) := by decide +kernel
theorem dX1_answerFor_9 : decode cX1_answerFor 9 = .ok (.istore_n 2, 1) := by decide +kernel
theorem dX1_answerFor_10 : decode cX1_answerFor 10 = .ok (.iload_n 2, 1) := by decide +kernel
theorem dX1_answerFor_11 : decode cX1_answerFor 11 = .ok (.ifCond .ne 5, 3) := by decide +kernel
theorem dX1_answerFor_14 : decode cX1_answerFor 14 = .ok (.iconst 1, 1) := by decide +kernel
theorem dX1_answerFor_15 : decode cX1_answerFor 15 = .ok (.ireturn, 1) := by decide +kernel
theorem dX1_answerFor_16 : decode cX1_answerFor 16 = .ok (.iload_n 2, 1) := by decide +kernel
theorem dX1_answerFor_17 : decode cX1_answerFor 17 = .ok (.iconst 2, 1) := by decide +kernel
theorem dX1_answerFor_18 : decode cX1_answerFor 18 = .ok (.if_icmp .ne 16, 3) := by decide +kernel
theorem dX1_answerFor_21 : decode cX1_answerFor 21 = .ok (.aload_n 0, 1) := by decide +kernel
theorem dX1_answerFor_22 : decode cX1_answerFor 22 = .ok (.iload_n 1, 1) := by decide +kernel
theorem dX1_answerFor_23 : decode cX1_answerFor 23 = .ok (.invokevirtual 64, 3) := by decide +kernel
theorem dX1_answerFor_26 : decode cX1_answerFor 26 = .ok (.iconst (-1), 1) := by decide +kernel
theorem dX1_answerFor_27 : decode cX1_answerFor 27 = .ok (.if_icmp .ne 7, 3) := by decide +kernel
theorem dX1_answerFor_30 : decode cX1_answerFor 30 = .ok (.iconst 2, 1) := by decide +kernel
theorem dX1_answerFor_31 : decode cX1_answerFor 31 = .ok (.goto 4, 3) := by decide +kernel
theorem dX1_answerFor_34 : decode cX1_answerFor 34 = .ok (.iconst 0, 1) := by decide +kernel
theorem dX1_answerFor_35 : decode cX1_answerFor 35 = .ok (.ireturn, 1) := by decide +kernel
theorem dX1_trialOf_0 : decode cX1_trialOf 0 = .ok (.iconst 0, 1) := by decide +kernel
theorem dX1_trialOf_1 : decode cX1_trialOf 1 = .ok (.istore_n 2, 1) := by decide +kernel
theorem dX1_trialOf_2 : decode cX1_trialOf 2 = .ok (.iload_n 2, 1) := by decide +kernel
theorem dX1_trialOf_3 : decode cX1_trialOf 3 = .ok (.aload_n 0, 1) := by decide +kernel
theorem dX1_trialOf_4 : decode cX1_trialOf 4 = .ok (.getfield 40, 3) := by decide +kernel
theorem dX1_trialOf_7 : decode cX1_trialOf 7 = .ok (.if_icmp .ge 35, 3) := by decide +kernel
theorem dX1_trialOf_10 : decode cX1_trialOf 10 = .ok (.aload_n 0, 1) := by decide +kernel
theorem dX1_trialOf_11 : decode cX1_trialOf 11 = .ok (.getfield 23, 3) := by decide +kernel
theorem dX1_trialOf_14 : decode cX1_trialOf 14 = .ok (.iconst 0, 1) := by decide +kernel
theorem dX1_trialOf_15 : decode cX1_trialOf 15 = .ok (.aaload, 1) := by decide +kernel
theorem dX1_trialOf_16 : decode cX1_trialOf 16 = .ok (.iload_n 2, 1) := by decide +kernel
theorem dX1_trialOf_17 : decode cX1_trialOf 17 = .ok (.iaload, 1) := by decide +kernel
theorem dX1_trialOf_18 : decode cX1_trialOf 18 = .ok (.iload_n 1, 1) := by decide +kernel
theorem dX1_trialOf_19 : decode cX1_trialOf 19 = .ok (.if_icmp .ne 17, 3) := by decide +kernel
theorem dX1_trialOf_22 : decode cX1_trialOf 22 = .ok (.aload_n 0, 1) := by decide +kernel
theorem dX1_trialOf_23 : decode cX1_trialOf 23 = .ok (.getfield 23, 3) := by decide +kernel
theorem dX1_trialOf_26 : decode cX1_trialOf 26 = .ok (.iconst 3, 1) := by decide +kernel
theorem dX1_trialOf_27 : decode cX1_trialOf 27 = .ok (.aaload, 1) := by decide +kernel
theorem dX1_trialOf_28 : decode cX1_trialOf 28 = .ok (.iload_n 2, 1) := by decide +kernel
theorem dX1_trialOf_29 : decode cX1_trialOf 29 = .ok (.iaload, 1) := by decide +kernel
theorem dX1_trialOf_30 : decode cX1_trialOf 30 = .ok (.iconst 1, 1) := by decide +kernel
theorem dX1_trialOf_31 : decode cX1_trialOf 31 = .ok (.if_icmp .ne 5, 3) := by decide +kernel
theorem dX1_trialOf_34 : decode cX1_trialOf 34 = .ok (.iload_n 2, 1) := by decide +kernel
theorem dX1_trialOf_35 : decode cX1_trialOf 35 = .ok (.ireturn, 1) := by decide +kernel
theorem dX1_trialOf_36 : decode cX1_trialOf 36 = .ok (.iinc 2 1, 3) := by decide +kernel
theorem dX1_trialOf_39 : decode cX1_trialOf 39 = .ok (.goto (-37), 3) := by decide +kernel
theorem dX1_trialOf_42 : decode cX1_trialOf 42 = .ok (.iconst (-1), 1) := by decide +kernel
theorem dX1_trialOf_43 : decode cX1_trialOf 43 = .ok (.ireturn, 1) := by decide +kernel
theorem dX1_ring_0 : decode cX1_ring 0 = .ok (.aload_n 0, 1) := by decide +kernel
theorem dX1_ring_1 : decode cX1_ring 1 = .ok (.getfield 11, 3) := by decide +kernel
theorem dX1_ring_4 : decode cX1_ring 4 = .ok (.iload_n 1, 1) := by decide +kernel
theorem dX1_ring_5 : decode cX1_ring 5 = .ok (.aaload, 1) := by decide +kernel
theorem dX1_ring_6 : decode cX1_ring 6 = .ok (.astore_n 2, 1) := by decide +kernel
theorem dX1_ring_7 : decode cX1_ring 7 = .ok (.aload_n 0, 1) := by decide +kernel
theorem dX1_ring_8 : decode cX1_ring 8 = .ok (.iload_n 1, 1) := by decide +kernel
theorem dX1_ring_9 : decode cX1_ring 9 = .ok (.invokevirtual 57, 3) := by decide +kernel
theorem dX1_ring_12 : decode cX1_ring 12 = .ok (.istore_n 3, 1) := by decide +kernel
theorem dX1_ring_13 : decode cX1_ring 13 = .ok (.iload_n 3, 1) := by decide +kernel
theorem dX1_ring_14 : decode cX1_ring 14 = .ok (.ifCond .ne 15, 3) := by decide +kernel
theorem dX1_ring_17 : decode cX1_ring 17 = .ok (.aload_n 2, 1) := by decide +kernel
theorem dX1_ring_18 : decode cX1_ring 18 = .ok (.dup, 1) := by decide +kernel
theorem dX1_ring_19 : decode cX1_ring 19 = .ok (.getfield 67, 3) := by decide +kernel
theorem dX1_ring_22 : decode cX1_ring 22 = .ok (.iconst 1, 1) := by decide +kernel
theorem dX1_ring_23 : decode cX1_ring 23 = .ok (.iadd, 1) := by decide +kernel
theorem dX1_ring_24 : decode cX1_ring 24 = .ok (.putfield 67, 3) := by decide +kernel
theorem dX1_ring_27 : decode cX1_ring 27 = .ok (.iload_n 3, 1) := by decide +kernel
theorem dX1_ring_28 : decode cX1_ring 28 = .ok (.ireturn, 1) := by decide +kernel
theorem dX1_ring_29 : decode cX1_ring 29 = .ok (.aload_n 2, 1) := by decide +kernel
theorem dX1_ring_30 : decode cX1_ring 30 = .ok (.dup, 1) := by decide +kernel
theorem dX1_ring_31 : decode cX1_ring 31 = .ok (.getfield 70, 3) := by decide +kernel
theorem dX1_ring_34 : decode cX1_ring 34 = .ok (.iconst 1, 1) := by decide +kernel
theorem dX1_ring_35 : decode cX1_ring 35 = .ok (.iadd, 1) := by decide +kernel
theorem dX1_ring_36 : decode cX1_ring 36 = .ok (.putfield 70, 3) := by decide +kernel
theorem dX1_ring_39 : decode cX1_ring 39 = .ok (.iload_n 3, 1) := by decide +kernel
theorem dX1_ring_40 : decode cX1_ring 40 = .ok (.iconst 2, 1) := by decide +kernel
theorem dX1_ring_41 : decode cX1_ring 41 = .ok (.if_icmp .ne 7, 3) := by decide +kernel
theorem dX1_ring_44 : decode cX1_ring 44 = .ok (.iconst 1, 1) := by decide +kernel
theorem dX1_ring_45 : decode cX1_ring 45 = .ok (.goto 4, 3) := by decide +kernel
theorem dX1_ring_48 : decode cX1_ring 48 = .ok (.iconst 0, 1) := by decide +kernel
theorem dX1_ring_49 : decode cX1_ring 49 = .ok (.istore 4, 2) := by decide +kernel
theorem dX1_ring_51 : decode cX1_ring 51 = .ok (.aload_n 0, 1) := by decide +kernel
theorem dX1_ring_52 : decode cX1_ring 52 = .ok (.dup, 1) := by decide +kernel
theorem dX1_ring_53 : decode cX1_ring 53 = .ok (.getfield 50, 3) := by decide +kernel
theorem dX1_ring_56 : decode cX1_ring 56 = .ok (.iload 4, 2) := by decide +kernel
theorem dX1_ring_58 : decode cX1_ring 58 = .ok (.iadd, 1) := by decide +kernel
theorem dX1_ring_59 : decode cX1_ring 59 = .ok (.putfield 50, 3) := by decide +kernel
theorem dX1_ring_62 : decode cX1_ring 62 = .ok (.aload_n 2, 1) := by decide +kernel
theorem dX1_ring_63 : decode cX1_ring 63 = .ok (.invokevirtual 73, 3) := by decide +kernel
theorem dX1_ring_66 : decode cX1_ring 66 = .ok (.istore 5, 2) := by decide +kernel
theorem dX1_ring_68 : decode cX1_ring 68 = .ok (.iload 5, 2) := by decide +kernel
theorem dX1_ring_70 : decode cX1_ring 70 = .ok (.ifCond .ne 19, 3) := by decide +kernel
theorem dX1_ring_73 : decode cX1_ring 73 = .ok (.aload_n 0, 1) := by decide +kernel
theorem dX1_ring_74 : decode cX1_ring 74 = .ok (.aload_n 2, 1) := by decide +kernel
theorem dX1_ring_75 : decode cX1_ring 75 = .ok (.iload 5, 2) := by decide +kernel
theorem dX1_ring_77 : decode cX1_ring 77 = .ok (.iload 4, 2) := by decide +kernel
theorem dX1_ring_79 : decode cX1_ring 79 = .ok (.aload_n 2, 1) := by decide +kernel
theorem dX1_ring_80 : decode cX1_ring 80 = .ok (.getfield 77, 3) := by decide +kernel
theorem dX1_ring_83 : decode cX1_ring 83 = .ok (.invokevirtual 80, 3) := by decide +kernel
theorem dX1_ring_86 : decode cX1_ring 86 = .ok (.goto 12, 3) := by decide +kernel
theorem dX1_ring_89 : decode cX1_ring 89 = .ok (.aload_n 0, 1) := by decide +kernel
theorem dX1_ring_90 : decode cX1_ring 90 = .ok (.iload_n 1, 1) := by decide +kernel
theorem dX1_ring_91 : decode cX1_ring 91 = .ok (.iload 5, 2) := by decide +kernel
theorem dX1_ring_93 : decode cX1_ring 93 = .ok (.iload 4, 2) := by decide +kernel
theorem dX1_ring_95 : decode cX1_ring 95 = .ok (.invokevirtual 84, 3) := by decide +kernel
theorem dX1_ring_98 : decode cX1_ring 98 = .ok (.iload_n 3, 1) := by decide +kernel
theorem dX1_ring_99 : decode cX1_ring 99 = .ok (.ireturn, 1) := by decide +kernel
theorem dX1_sendOff_0 : decode cX1_sendOff 0 = .ok (.aload_n 0, 1) := by decide +kernel
theorem dX1_sendOff_1 : decode cX1_sendOff 1 = .ok (.invokevirtual 53, 3) := by decide +kernel
theorem dX1_sendOff_4 : decode cX1_sendOff 4 = .ok (.ifCond .eq 4, 3) := by decide +kernel
theorem dX1_sendOff_7 : decode cX1_sendOff 7 = .ok (.return_, 1) := by decide +kernel
theorem dX1_sendOff_8 : decode cX1_sendOff 8 = .ok (.aload_n 0, 1) := by decide +kernel
theorem dX1_sendOff_9 : decode cX1_sendOff 9 = .ok (.getfield 23, 3) := by decide +kernel
theorem dX1_sendOff_12 : decode cX1_sendOff 12 = .ok (.iconst 0, 1) := by decide +kernel
theorem dX1_sendOff_13 : decode cX1_sendOff 13 = .ok (.aaload, 1) := by decide +kernel
theorem dX1_sendOff_14 : decode cX1_sendOff 14 = .ok (.aload_n 0, 1) := by decide +kernel
theorem dX1_sendOff_15 : decode cX1_sendOff 15 = .ok (.getfield 40, 3) := by decide +kernel
theorem dX1_sendOff_18 : decode cX1_sendOff 18 = .ok (.iload_n 1, 1) := by decide +kernel
theorem dX1_sendOff_19 : decode cX1_sendOff 19 = .ok (.iastore, 1) := by decide +kernel
theorem dX1_sendOff_20 : decode cX1_sendOff 20 = .ok (.aload_n 0, 1) := by decide +kernel
theorem dX1_sendOff_21 : decode cX1_sendOff 21 = .ok (.getfield 23, 3) := by decide +kernel
theorem dX1_sendOff_24 : decode cX1_sendOff 24 = .ok (.iconst 1, 1) := by decide +kernel
theorem dX1_sendOff_25 : decode cX1_sendOff 25 = .ok (.aaload, 1) := by decide +kernel
theorem dX1_sendOff_26 : decode cX1_sendOff 26 = .ok (.aload_n 0, 1) := by decide +kernel
theorem dX1_sendOff_27 : decode cX1_sendOff 27 = .ok (.getfield 40, 3) := by decide +kernel
theorem dX1_sendOff_30 : decode cX1_sendOff 30 = .ok (.iload_n 2, 1) := by decide +kernel
theorem dX1_sendOff_31 : decode cX1_sendOff 31 = .ok (.iastore, 1) := by decide +kernel
theorem dX1_sendOff_32 : decode cX1_sendOff 32 = .ok (.aload_n 0, 1) := by decide +kernel
theorem dX1_sendOff_33 : decode cX1_sendOff 33 = .ok (.getfield 23, 3) := by decide +kernel
theorem dX1_sendOff_36 : decode cX1_sendOff 36 = .ok (.iconst 2, 1) := by decide +kernel
theorem dX1_sendOff_37 : decode cX1_sendOff 37 = .ok (.aaload, 1) := by decide +kernel
theorem dX1_sendOff_38 : decode cX1_sendOff 38 = .ok (.aload_n 0, 1) := by decide +kernel
theorem dX1_sendOff_39 : decode cX1_sendOff 39 = .ok (.getfield 40, 3) := by decide +kernel
theorem dX1_sendOff_42 : decode cX1_sendOff 42 = .ok (.iload_n 2, 1) := by decide +kernel
theorem dX1_sendOff_43 : decode cX1_sendOff 43 = .ok (.iastore, 1) := by decide +kernel
theorem dX1_sendOff_44 : decode cX1_sendOff 44 = .ok (.aload_n 0, 1) := by decide +kernel
theorem dX1_sendOff_45 : decode cX1_sendOff 45 = .ok (.getfield 23, 3) := by decide +kernel
theorem dX1_sendOff_48 : decode cX1_sendOff 48 = .ok (.iconst 3, 1) := by decide +kernel
theorem dX1_sendOff_49 : decode cX1_sendOff 49 = .ok (.aaload, 1) := by decide +kernel
theorem dX1_sendOff_50 : decode cX1_sendOff 50 = .ok (.aload_n 0, 1) := by decide +kernel
theorem dX1_sendOff_51 : decode cX1_sendOff 51 = .ok (.getfield 40, 3) := by decide +kernel
theorem dX1_sendOff_54 : decode cX1_sendOff 54 = .ok (.iload_n 3, 1) := by decide +kernel
theorem dX1_sendOff_55 : decode cX1_sendOff 55 = .ok (.iastore, 1) := by decide +kernel
theorem dX1_sendOff_56 : decode cX1_sendOff 56 = .ok (.aload_n 0, 1) := by decide +kernel
theorem dX1_sendOff_57 : decode cX1_sendOff 57 = .ok (.getfield 23, 3) := by decide +kernel
theorem dX1_sendOff_60 : decode cX1_sendOff 60 = .ok (.iconst 4, 1) := by decide +kernel
theorem dX1_sendOff_61 : decode cX1_sendOff 61 = .ok (.aaload, 1) := by decide +kernel
theorem dX1_sendOff_62 : decode cX1_sendOff 62 = .ok (.aload_n 0, 1) := by decide +kernel
theorem dX1_sendOff_63 : decode cX1_sendOff 63 = .ok (.getfield 40, 3) := by decide +kernel
theorem dX1_sendOff_66 : decode cX1_sendOff 66 = .ok (.aload_n 0, 1) := by decide +kernel
theorem dX1_sendOff_67 : decode cX1_sendOff 67 = .ok (.getfield 11, 3) := by decide +kernel
theorem dX1_sendOff_70 : decode cX1_sendOff 70 = .ok (.iload_n 1, 1) := by decide +kernel
theorem dX1_sendOff_71 : decode cX1_sendOff 71 = .ok (.aaload, 1) := by decide +kernel
theorem dX1_sendOff_72 : decode cX1_sendOff 72 = .ok (.getfield 77, 3) := by decide +kernel
theorem dX1_sendOff_75 : decode cX1_sendOff 75 = .ok (.iastore, 1) := by decide +kernel
theorem dX1_sendOff_76 : decode cX1_sendOff 76 = .ok (.aload_n 0, 1) := by decide +kernel
theorem dX1_sendOff_77 : decode cX1_sendOff 77 = .ok (.dup, 1) := by decide +kernel
theorem dX1_sendOff_78 : decode cX1_sendOff 78 = .ok (.getfield 40, 3) := by decide +kernel
theorem dX1_sendOff_81 : decode cX1_sendOff 81 = .ok (.iconst 1, 1) := by decide +kernel
theorem dX1_sendOff_82 : decode cX1_sendOff 82 = .ok (.iadd, 1) := by decide +kernel
theorem dX1_sendOff_83 : decode cX1_sendOff 83 = .ok (.putfield 40, 3) := by decide +kernel
theorem dX1_sendOff_86 : decode cX1_sendOff 86 = .ok (.aload_n 0, 1) := by decide +kernel
theorem dX1_sendOff_87 : decode cX1_sendOff 87 = .ok (.getfield 11, 3) := by decide +kernel
theorem dX1_sendOff_90 : decode cX1_sendOff 90 = .ok (.iload_n 1, 1) := by decide +kernel
theorem dX1_sendOff_91 : decode cX1_sendOff 91 = .ok (.aaload, 1) := by decide +kernel
theorem dX1_sendOff_92 : decode cX1_sendOff 92 = .ok (.dup, 1) := by decide +kernel
theorem dX1_sendOff_93 : decode cX1_sendOff 93 = .ok (.getfield 88, 3) := by decide +kernel
theorem dX1_sendOff_96 : decode cX1_sendOff 96 = .ok (.iconst 1, 1) := by decide +kernel
theorem dX1_sendOff_97 : decode cX1_sendOff 97 = .ok (.iadd, 1) := by decide +kernel
theorem dX1_sendOff_98 : decode cX1_sendOff 98 = .ok (.putfield 88, 3) := by decide +kernel
theorem dX1_sendOff_101 : decode cX1_sendOff 101 = .ok (.return_, 1) := by decide +kernel
theorem dX1_ringOften_0 : decode cX1_ringOften 0 = .ok (.iconst 0, 1) := by decide +kernel
theorem dX1_ringOften_1 : decode cX1_ringOften 1 = .ok (.istore 4, 2) := by decide +kernel
theorem dX1_ringOften_3 : decode cX1_ringOften 3 = .ok (.iconst 0, 1) := by decide +kernel
theorem dX1_ringOften_4 : decode cX1_ringOften 4 = .ok (.istore 5, 2) := by decide +kernel
theorem dX1_ringOften_6 : decode cX1_ringOften 6 = .ok (.iload 5, 2) := by decide +kernel
theorem dX1_ringOften_8 : decode cX1_ringOften 8 = .ok (.iload_n 2, 1) := by decide +kernel
theorem dX1_ringOften_9 : decode cX1_ringOften 9 = .ok (.if_icmp .ge 48, 3) := by decide +kernel
theorem dX1_ringOften_12 : decode cX1_ringOften 12 = .ok (.aload_n 0, 1) := by decide +kernel
theorem dX1_ringOften_13 : decode cX1_ringOften 13 = .ok (.iload_n 1, 1) := by decide +kernel
theorem dX1_ringOften_14 : decode cX1_ringOften 14 = .ok (.invokevirtual 91, 3) := by decide +kernel
theorem dX1_ringOften_17 : decode cX1_ringOften 17 = .ok (.ifCond .ne 40, 3) := by decide +kernel
theorem dX1_ringOften_20 : decode cX1_ringOften 20 = .ok (.aload_n 0, 1) := by decide +kernel
theorem dX1_ringOften_21 : decode cX1_ringOften 21 = .ok (.iload_n 1, 1) := by decide +kernel
theorem dX1_ringOften_22 : decode cX1_ringOften 22 = .ok (.invokevirtual 95, 3) := by decide +kernel
theorem dX1_ringOften_25 : decode cX1_ringOften 25 = .ok (.ifCond .eq 6, 3) := by decide +kernel
theorem dX1_ringOften_28 : decode cX1_ringOften 28 = .ok (.iinc 4 1, 3) := by decide +kernel
theorem dX1_ringOften_31 : decode cX1_ringOften 31 = .ok (.iconst 0, 1) := by decide +kernel
theorem dX1_ringOften_32 : decode cX1_ringOften 32 = .ok (.istore 6, 2) := by decide +kernel
theorem dX1_ringOften_34 : decode cX1_ringOften 34 = .ok (.iload 6, 2) := by decide +kernel
theorem dX1_ringOften_36 : decode cX1_ringOften 36 = .ok (.iload_n 3, 1) := by decide +kernel
theorem dX1_ringOften_37 : decode cX1_ringOften 37 = .ok (.if_icmp .ge 14, 3) := by decide +kernel
theorem dX1_ringOften_40 : decode cX1_ringOften 40 = .ok (.aload_n 0, 1) := by decide +kernel
theorem dX1_ringOften_41 : decode cX1_ringOften 41 = .ok (.invokevirtual 98, 3) := by decide +kernel
theorem dX1_ringOften_44 : decode cX1_ringOften 44 = .ok (.pop, 1) := by decide +kernel
theorem dX1_ringOften_45 : decode cX1_ringOften 45 = .ok (.iinc 6 1, 3) := by decide +kernel
theorem dX1_ringOften_48 : decode cX1_ringOften 48 = .ok (.goto (-14), 3) := by decide +kernel
theorem dX1_ringOften_51 : decode cX1_ringOften 51 = .ok (.iinc 5 1, 3) := by decide +kernel
theorem dX1_ringOften_54 : decode cX1_ringOften 54 = .ok (.goto (-48), 3) := by decide +kernel
theorem dX1_ringOften_57 : decode cX1_ringOften 57 = .ok (.iload 4, 2) := by decide +kernel
theorem dX1_ringOften_59 : decode cX1_ringOften 59 = .ok (.ireturn, 1) := by decide +kernel
theorem dX1_letPass_0 : decode cX1_letPass 0 = .ok (.iconst 0, 1) := by decide +kernel
theorem dX1_letPass_1 : decode cX1_letPass 1 = .ok (.istore_n 2, 1) := by decide +kernel
theorem dX1_letPass_2 : decode cX1_letPass 2 = .ok (.iconst 0, 1) := by decide +kernel
theorem dX1_letPass_3 : decode cX1_letPass 3 = .ok (.istore_n 3, 1) := by decide +kernel
theorem dX1_letPass_4 : decode cX1_letPass 4 = .ok (.iload_n 3, 1) := by decide +kernel
theorem dX1_letPass_5 : decode cX1_letPass 5 = .ok (.iload_n 1, 1) := by decide +kernel
theorem dX1_letPass_6 : decode cX1_letPass 6 = .ok (.if_icmp .ge 16, 3) := by decide +kernel
theorem dX1_letPass_9 : decode cX1_letPass 9 = .ok (.iload_n 2, 1) := by decide +kernel
theorem dX1_letPass_10 : decode cX1_letPass 10 = .ok (.aload_n 0, 1) := by decide +kernel
theorem dX1_letPass_11 : decode cX1_letPass 11 = .ok (.invokevirtual 98, 3) := by decide +kernel
theorem dX1_letPass_14 : decode cX1_letPass 14 = .ok (.iadd, 1) := by decide +kernel
theorem dX1_letPass_15 : decode cX1_letPass 15 = .ok (.istore_n 2, 1) := by decide +kernel
theorem dX1_letPass_16 : decode cX1_letPass 16 = .ok (.iinc 3 1, 3) := by decide +kernel
theorem dX1_letPass_19 : decode cX1_letPass 19 = .ok (.goto (-15), 3) := by decide +kernel
theorem dX1_letPass_22 : decode cX1_letPass 22 = .ok (.iload_n 2, 1) := by decide +kernel
theorem dX1_letPass_23 : decode cX1_letPass 23 = .ok (.ireturn, 1) := by decide +kernel
theorem dX1_tick_0 : decode cX1_tick 0 = .ok (.aload_n 0, 1) := by decide +kernel
theorem dX1_tick_1 : decode cX1_tick 1 = .ok (.getfield 40, 3) := by decide +kernel
theorem dX1_tick_4 : decode cX1_tick 4 = .ok (.istore_n 1, 1) := by decide +kernel
theorem dX1_tick_5 : decode cX1_tick 5 = .ok (.iconst 0, 1) := by decide +kernel
theorem dX1_tick_6 : decode cX1_tick 6 = .ok (.istore_n 2, 1) := by decide +kernel
theorem dX1_tick_7 : decode cX1_tick 7 = .ok (.iconst 0, 1) := by decide +kernel
theorem dX1_tick_8 : decode cX1_tick 8 = .ok (.istore_n 3, 1) := by decide +kernel
theorem dX1_tick_9 : decode cX1_tick 9 = .ok (.iload_n 3, 1) := by decide +kernel
theorem dX1_tick_10 : decode cX1_tick 10 = .ok (.iload_n 1, 1) := by decide +kernel
theorem dX1_tick_11 : decode cX1_tick 11 = .ok (.if_icmp .ge 105, 3) := by decide +kernel
theorem dX1_tick_14 : decode cX1_tick 14 = .ok (.aload_n 0, 1) := by decide +kernel
theorem dX1_tick_15 : decode cX1_tick 15 = .ok (.getfield 23, 3) := by decide +kernel
theorem dX1_tick_18 : decode cX1_tick 18 = .ok (.iconst 1, 1) := by decide +kernel
theorem dX1_tick_19 : decode cX1_tick 19 = .ok (.aaload, 1) := by decide +kernel
theorem dX1_tick_20 : decode cX1_tick 20 = .ok (.iload_n 3, 1) := by decide +kernel
theorem dX1_tick_21 : decode cX1_tick 21 = .ok (.dup2, 1) := by decide +kernel
theorem dX1_tick_22 : decode cX1_tick 22 = .ok (.iaload, 1) := by decide +kernel
theorem dX1_tick_23 : decode cX1_tick 23 = .ok (.iconst 1, 1) := by decide +kernel
theorem dX1_tick_24 : decode cX1_tick 24 = .ok (.isub, 1) := by decide +kernel
theorem dX1_tick_25 : decode cX1_tick 25 = .ok (.iastore, 1) := by decide +kernel
theorem dX1_tick_26 : decode cX1_tick 26 = .ok (.aload_n 0, 1) := by decide +kernel
theorem dX1_tick_27 : decode cX1_tick 27 = .ok (.getfield 23, 3) := by decide +kernel
theorem dX1_tick_30 : decode cX1_tick 30 = .ok (.iconst 1, 1) := by decide +kernel
theorem dX1_tick_31 : decode cX1_tick 31 = .ok (.aaload, 1) := by decide +kernel
theorem dX1_tick_32 : decode cX1_tick 32 = .ok (.iload_n 3, 1) := by decide +kernel
theorem dX1_tick_33 : decode cX1_tick 33 = .ok (.iaload, 1) := by decide +kernel
theorem dX1_tick_34 : decode cX1_tick 34 = .ok (.ifCond .le 20, 3) := by decide +kernel
theorem dX1_tick_37 : decode cX1_tick 37 = .ok (.iload_n 2, 1) := by decide +kernel
theorem dX1_tick_38 : decode cX1_tick 38 = .ok (.iload_n 3, 1) := by decide +kernel
theorem dX1_tick_39 : decode cX1_tick 39 = .ok (.if_icmp .ge 9, 3) := by decide +kernel
theorem dX1_tick_42 : decode cX1_tick 42 = .ok (.aload_n 0, 1) := by decide +kernel
theorem dX1_tick_43 : decode cX1_tick 43 = .ok (.iload_n 3, 1) := by decide +kernel
theorem dX1_tick_44 : decode cX1_tick 44 = .ok (.iload_n 2, 1) := by decide +kernel
theorem dX1_tick_45 : decode cX1_tick 45 = .ok (.invokevirtual 101, 3) := by decide +kernel
theorem dX1_tick_48 : decode cX1_tick 48 = .ok (.iinc 2 1, 3) := by decide +kernel
theorem dX1_tick_51 : decode cX1_tick 51 = .ok (.goto 59, 3) := by decide +kernel
theorem dX1_tick_54 : decode cX1_tick 54 = .ok (.aload_n 0, 1) := by decide +kernel
theorem dX1_tick_55 : decode cX1_tick 55 = .ok (.getfield 11, 3) := by decide +kernel
theorem dX1_tick_58 : decode cX1_tick 58 = .ok (.aload_n 0, 1) := by decide +kernel
theorem dX1_tick_59 : decode cX1_tick 59 = .ok (.getfield 23, 3) := by decide +kernel
theorem dX1_tick_62 : decode cX1_tick 62 = .ok (.iconst 0, 1) := by decide +kernel
theorem dX1_tick_63 : decode cX1_tick 63 = .ok (.aaload, 1) := by decide +kernel
theorem dX1_tick_64 : decode cX1_tick 64 = .ok (.iload_n 3, 1) := by decide +kernel
theorem dX1_tick_65 : decode cX1_tick 65 = .ok (.iaload, 1) := by decide +kernel
theorem dX1_tick_66 : decode cX1_tick 66 = .ok (.aaload, 1) := by decide +kernel
theorem dX1_tick_67 : decode cX1_tick 67 = .ok (.astore 4, 2) := by decide +kernel
theorem dX1_tick_69 : decode cX1_tick 69 = .ok (.aload 4, 2) := by decide +kernel
theorem dX1_tick_71 : decode cX1_tick 71 = .ok (.dup, 1) := by decide +kernel
theorem dX1_tick_72 : decode cX1_tick 72 = .ok (.getfield 88, 3) := by decide +kernel
theorem dX1_tick_75 : decode cX1_tick 75 = .ok (.iconst 1, 1) := by decide +kernel
theorem dX1_tick_76 : decode cX1_tick 76 = .ok (.isub, 1) := by decide +kernel
theorem dX1_tick_77 : decode cX1_tick 77 = .ok (.putfield 88, 3) := by decide +kernel
theorem dX1_tick_80 : decode cX1_tick 80 = .ok (.aload_n 0, 1) := by decide +kernel
theorem dX1_tick_81 : decode cX1_tick 81 = .ok (.aload 4, 2) := by decide +kernel
theorem dX1_tick_83 : decode cX1_tick 83 = .ok (.aload_n 0, 1) := by decide +kernel
theorem dX1_tick_84 : decode cX1_tick 84 = .ok (.getfield 23, 3) := by decide +kernel
theorem dX1_tick_87 : decode cX1_tick 87 = .ok (.iconst 2, 1) := by decide +kernel
theorem dX1_tick_88 : decode cX1_tick 88 = .ok (.aaload, 1) := by decide +kernel
theorem dX1_tick_89 : decode cX1_tick 89 = .ok (.iload_n 3, 1) := by decide +kernel
theorem dX1_tick_90 : decode cX1_tick 90 = .ok (.iaload, 1) := by decide +kernel
theorem dX1_tick_91 : decode cX1_tick 91 = .ok (.aload_n 0, 1) := by decide +kernel
theorem dX1_tick_92 : decode cX1_tick 92 = .ok (.getfield 23, 3) := by decide +kernel
theorem dX1_tick_95 : decode cX1_tick 95 = .ok (.iconst 3, 1) := by decide +kernel
theorem dX1_tick_96 : decode cX1_tick 96 = .ok (.aaload, 1) := by decide +kernel
theorem dX1_tick_97 : decode cX1_tick 97 = .ok (.iload_n 3, 1) := by decide +kernel
theorem dX1_tick_98 : decode cX1_tick 98 = .ok (.iaload, 1) := by decide +kernel
theorem dX1_tick_99 : decode cX1_tick 99 = .ok (.aload_n 0, 1) := by decide +kernel
theorem dX1_tick_100 : decode cX1_tick 100 = .ok (.getfield 23, 3) := by decide +kernel
theorem dX1_tick_103 : decode cX1_tick 103 = .ok (.iconst 4, 1) := by decide +kernel
theorem dX1_tick_104 : decode cX1_tick 104 = .ok (.aaload, 1) := by decide +kernel
theorem dX1_tick_105 : decode cX1_tick 105 = .ok (.iload_n 3, 1) := by decide +kernel
theorem dX1_tick_106 : decode cX1_tick 106 = .ok (.iaload, 1) := by decide +kernel
theorem dX1_tick_107 : decode cX1_tick 107 = .ok (.invokevirtual 80, 3) := by decide +kernel
theorem dX1_tick_110 : decode cX1_tick 110 = .ok (.iinc 3 1, 3) := by decide +kernel
theorem dX1_tick_113 : decode cX1_tick 113 = .ok (.goto (-104), 3) := by decide +kernel
theorem dX1_tick_116 : decode cX1_tick 116 = .ok (.aload_n 0, 1) := by decide +kernel
theorem dX1_tick_117 : decode cX1_tick 117 = .ok (.iload_n 2, 1) := by decide +kernel
theorem dX1_tick_118 : decode cX1_tick 118 = .ok (.putfield 40, 3) := by decide +kernel
theorem dX1_tick_121 : decode cX1_tick 121 = .ok (.iconst 0, 1) := by decide +kernel
theorem dX1_tick_122 : decode cX1_tick 122 = .ok (.istore_n 3, 1) := by decide +kernel
theorem dX1_tick_123 : decode cX1_tick 123 = .ok (.iload_n 3, 1) := by decide +kernel
theorem dX1_tick_124 : decode cX1_tick 124 = .ok (.iconst 4, 1) := by decide +kernel
theorem dX1_tick_125 : decode cX1_tick 125 = .ok (.if_icmp .ge 18, 3) := by decide +kernel
theorem dX1_tick_128 : decode cX1_tick 128 = .ok (.aload_n 0, 1) := by decide +kernel
theorem dX1_tick_129 : decode cX1_tick 129 = .ok (.getfield 11, 3) := by decide +kernel
theorem dX1_tick_132 : decode cX1_tick 132 = .ok (.iload_n 3, 1) := by decide +kernel
theorem dX1_tick_133 : decode cX1_tick 133 = .ok (.aaload, 1) := by decide +kernel
theorem dX1_tick_134 : decode cX1_tick 134 = .ok (.invokevirtual 105, 3) := by decide +kernel
theorem dX1_tick_137 : decode cX1_tick 137 = .ok (.iinc 3 1, 3) := by decide +kernel
theorem dX1_tick_140 : decode cX1_tick 140 = .ok (.goto (-17), 3) := by decide +kernel
theorem dX1_tick_143 : decode cX1_tick 143 = .ok (.aload_n 0, 1) := by decide +kernel
theorem dX1_tick_144 : decode cX1_tick 144 = .ok (.dup, 1) := by decide +kernel
theorem dX1_tick_145 : decode cX1_tick 145 = .ok (.getfield 44, 3) := by decide +kernel
theorem dX1_tick_148 : decode cX1_tick 148 = .ok (.iconst 1, 1) := by decide +kernel
theorem dX1_tick_149 : decode cX1_tick 149 = .ok (.iadd, 1) := by decide +kernel
theorem dX1_tick_150 : decode cX1_tick 150 = .ok (.putfield 44, 3) := by decide +kernel
theorem dX1_tick_153 : decode cX1_tick 153 = .ok (.iload_n 1, 1) := by decide +kernel
theorem dX1_tick_154 : decode cX1_tick 154 = .ok (.iload_n 2, 1) := by decide +kernel
theorem dX1_tick_155 : decode cX1_tick 155 = .ok (.isub, 1) := by decide +kernel
theorem dX1_tick_156 : decode cX1_tick 156 = .ok (.ireturn, 1) := by decide +kernel
theorem dX1_moveCall_0 : decode cX1_moveCall 0 = .ok (.iconst 0, 1) := by decide +kernel
theorem dX1_moveCall_1 : decode cX1_moveCall 1 = .ok (.istore_n 3, 1) := by decide +kernel
theorem dX1_moveCall_2 : decode cX1_moveCall 2 = .ok (.iload_n 3, 1) := by decide +kernel
theorem dX1_moveCall_3 : decode cX1_moveCall 3 = .ok (.iconst 5, 1) := by decide +kernel
theorem dX1_moveCall_4 : decode cX1_moveCall 4 = .ok (.if_icmp .ge 25, 3) := by decide +kernel
theorem dX1_moveCall_7 : decode cX1_moveCall 7 = .ok (.aload_n 0, 1) := by decide +kernel
theorem dX1_moveCall_8 : decode cX1_moveCall 8 = .ok (.getfield 23, 3) := by decide +kernel
theorem dX1_moveCall_11 : decode cX1_moveCall 11 = .ok (.iload_n 3, 1) := by decide +kernel
theorem dX1_moveCall_12 : decode cX1_moveCall 12 = .ok (.aaload, 1) := by decide +kernel
theorem dX1_moveCall_13 : decode cX1_moveCall 13 = .ok (.iload_n 2, 1) := by decide +kernel
theorem dX1_moveCall_14 : decode cX1_moveCall 14 = .ok (.aload_n 0, 1) := by decide +kernel
theorem dX1_moveCall_15 : decode cX1_moveCall 15 = .ok (.getfield 23, 3) := by decide +kernel
theorem dX1_moveCall_18 : decode cX1_moveCall 18 = .ok (.iload_n 3, 1) := by decide +kernel
theorem dX1_moveCall_19 : decode cX1_moveCall 19 = .ok (.aaload, 1) := by decide +kernel
theorem dX1_moveCall_20 : decode cX1_moveCall 20 = .ok (.iload_n 1, 1) := by decide +kernel
theorem dX1_moveCall_21 : decode cX1_moveCall 21 = .ok (.iaload, 1) := by decide +kernel
theorem dX1_moveCall_22 : decode cX1_moveCall 22 = .ok (.iastore, 1) := by decide +kernel
theorem dX1_moveCall_23 : decode cX1_moveCall 23 = .ok (.iinc 3 1, 3) := by decide +kernel
theorem dX1_moveCall_26 : decode cX1_moveCall 26 = .ok (.goto (-24), 3) := by decide +kernel
theorem dX1_moveCall_29 : decode cX1_moveCall 29 = .ok (.return_, 1) := by decide +kernel
theorem dX1_settle_0 : decode cX1_settle 0 = .ok (.aload_n 0, 1) := by decide +kernel
theorem dX1_settle_1 : decode cX1_settle 1 = .ok (.iload_n 2, 1) := by decide +kernel
theorem dX1_settle_2 : decode cX1_settle 2 = .ok (.invokevirtual 108, 3) := by decide +kernel
theorem dX1_settle_5 : decode cX1_settle 5 = .ok (.istore 5, 2) := by decide +kernel
theorem dX1_settle_7 : decode cX1_settle 7 = .ok (.iload 5, 2) := by decide +kernel
theorem dX1_settle_9 : decode cX1_settle 9 = .ok (.ifCond .eq 16, 3) := by decide +kernel
theorem dX1_settle_12 : decode cX1_settle 12 = .ok (.aload_n 1, 1) := by decide +kernel
theorem dX1_settle_13 : decode cX1_settle 13 = .ok (.dup, 1) := by decide +kernel
theorem dX1_settle_14 : decode cX1_settle 14 = .ok (.getfield 111, 3) := by decide +kernel
theorem dX1_settle_17 : decode cX1_settle 17 = .ok (.iconst 1, 1) := by decide +kernel
theorem dX1_settle_18 : decode cX1_settle 18 = .ok (.iadd, 1) := by decide +kernel
theorem dX1_settle_19 : decode cX1_settle 19 = .ok (.putfield 111, 3) := by decide +kernel
theorem dX1_settle_22 : decode cX1_settle 22 = .ok (.goto 13, 3) := by decide +kernel
theorem dX1_settle_25 : decode cX1_settle 25 = .ok (.aload_n 0, 1) := by decide +kernel
theorem dX1_settle_26 : decode cX1_settle 26 = .ok (.dup, 1) := by decide +kernel
theorem dX1_settle_27 : decode cX1_settle 27 = .ok (.getfield 47, 3) := by decide +kernel
theorem dX1_settle_30 : decode cX1_settle 30 = .ok (.iconst 1, 1) := by decide +kernel
theorem dX1_settle_31 : decode cX1_settle 31 = .ok (.iadd, 1) := by decide +kernel
theorem dX1_settle_32 : decode cX1_settle 32 = .ok (.putfield 47, 3) := by decide +kernel
theorem dX1_settle_35 : decode cX1_settle 35 = .ok (.iload_n 3, 1) := by decide +kernel
theorem dX1_settle_36 : decode cX1_settle 36 = .ok (.iconst 1, 1) := by decide +kernel
theorem dX1_settle_37 : decode cX1_settle 37 = .ok (.if_icmp .ne 13, 3) := by decide +kernel
theorem dX1_settle_40 : decode cX1_settle 40 = .ok (.aload_n 0, 1) := by decide +kernel
theorem dX1_settle_41 : decode cX1_settle 41 = .ok (.aload_n 1, 1) := by decide +kernel
theorem dX1_settle_42 : decode cX1_settle 42 = .ok (.iload 5, 2) := by decide +kernel
theorem dX1_settle_44 : decode cX1_settle 44 = .ok (.invokevirtual 114, 3) := by decide +kernel
theorem dX1_settle_47 : decode cX1_settle 47 = .ok (.goto 26, 3) := by decide +kernel
theorem dX1_settle_50 : decode cX1_settle 50 = .ok (.aload_n 1, 1) := by decide +kernel
theorem dX1_settle_51 : decode cX1_settle 51 = .ok (.getfield 61, 3) := by decide +kernel
theorem dX1_settle_54 : decode cX1_settle 54 = .ok (.ifCond .ne 19, 3) := by decide +kernel
theorem dX1_settle_57 : decode cX1_settle 57 = .ok (.aload_n 1, 1) := by decide +kernel
theorem dX1_settle_58 : decode cX1_settle 58 = .ok (.getfield 77, 3) := by decide +kernel
theorem dX1_settle_61 : decode cX1_settle 61 = .ok (.iload 4, 2) := by decide +kernel
theorem dX1_settle_63 : decode cX1_settle 63 = .ok (.if_icmp .ne 10, 3) := by decide +kernel
theorem dX1_settle_66 : decode cX1_settle 66 = .ok (.aload_n 0, 1) := by decide +kernel
theorem dX1_settle_67 : decode cX1_settle 67 = .ok (.aload_n 1, 1) := by decide +kernel
theorem dX1_settle_68 : decode cX1_settle 68 = .ok (.iload 5, 2) := by decide +kernel
theorem dX1_settle_70 : decode cX1_settle 70 = .ok (.invokevirtual 118, 3) := by decide +kernel
theorem dX1_settle_73 : decode cX1_settle 73 = .ok (.return_, 1) := by decide +kernel
theorem dX1_isBad_0 : decode cX1_isBad 0 = .ok (.iload_n 1, 1) := by decide +kernel
theorem dX1_isBad_1 : decode cX1_isBad 1 = .ok (.ifCond .eq 13, 3) := by decide +kernel
theorem dX1_isBad_4 : decode cX1_isBad 4 = .ok (.iload_n 1, 1) := by decide +kernel
theorem dX1_isBad_5 : decode cX1_isBad 5 = .ok (.aload_n 0, 1) := by decide +kernel
theorem dX1_isBad_6 : decode cX1_isBad 6 = .ok (.getfield 17, 3) := by decide +kernel
theorem dX1_isBad_9 : decode cX1_isBad 9 = .ok (.iconst 0, 1) := by decide +kernel
theorem dX1_isBad_10 : decode cX1_isBad 10 = .ok (.iaload, 1) := by decide +kernel
theorem dX1_isBad_11 : decode cX1_isBad 11 = .ok (.if_icmp .le 7, 3) := by decide +kernel
theorem dX1_isBad_14 : decode cX1_isBad 14 = .ok (.iconst 1, 1) := by decide +kernel
theorem dX1_isBad_15 : decode cX1_isBad 15 = .ok (.goto 4, 3) := by decide +kernel
theorem dX1_isBad_18 : decode cX1_isBad 18 = .ok (.iconst 0, 1) := by decide +kernel
theorem dX1_isBad_19 : decode cX1_isBad 19 = .ok (.ireturn, 1) := by decide +kernel
theorem dX1_settleTrial_0 : decode cX1_settleTrial 0 = .ok (.iload_n 2, 1) := by decide +kernel
theorem dX1_settleTrial_1 : decode cX1_settleTrial 1 = .ok (.ifCond .eq 15, 3) := by decide +kernel
theorem dX1_settleTrial_4 : decode cX1_settleTrial 4 = .ok (.aload_n 1, 1) := by decide +kernel
theorem dX1_settleTrial_5 : decode cX1_settleTrial 5 = .ok (.aload_n 0, 1) := by decide +kernel
theorem dX1_settleTrial_6 : decode cX1_settleTrial 6 = .ok (.aload_n 1, 1) := by decide +kernel
theorem dX1_settleTrial_7 : decode cX1_settleTrial 7 = .ok (.invokevirtual 121, 3) := by decide +kernel
theorem dX1_settleTrial_10 : decode cX1_settleTrial 10 = .ok (.invokevirtual 125, 3) := by decide +kernel
theorem dX1_settleTrial_13 : decode cX1_settleTrial 13 = .ok (.goto 7, 3) := by decide +kernel
theorem dX1_settleTrial_16 : decode cX1_settleTrial 16 = .ok (.aload_n 1, 1) := by decide +kernel
theorem dX1_settleTrial_17 : decode cX1_settleTrial 17 = .ok (.invokevirtual 129, 3) := by decide +kernel
theorem dX1_settleTrial_20 : decode cX1_settleTrial 20 = .ok (.return_, 1) := by decide +kernel
theorem dX1_nextCut_0 : decode cX1_nextCut 0 = .ok (.iconst 2, 1) := by decide +kernel
theorem dX1_nextCut_1 : decode cX1_nextCut 1 = .ok (.aload_n 1, 1) := by decide +kernel
theorem dX1_nextCut_2 : decode cX1_nextCut 2 = .ok (.getfield 132, 3) := by decide +kernel
theorem dX1_nextCut_5 : decode cX1_nextCut 5 = .ok (.imul, 1) := by decide +kernel
theorem dX1_nextCut_6 : decode cX1_nextCut 6 = .ok (.aload_n 0, 1) := by decide +kernel
theorem dX1_nextCut_7 : decode cX1_nextCut 7 = .ok (.getfield 17, 3) := by decide +kernel
theorem dX1_nextCut_10 : decode cX1_nextCut 10 = .ok (.iconst 4, 1) := by decide +kernel
theorem dX1_nextCut_11 : decode cX1_nextCut 11 = .ok (.iaload, 1) := by decide +kernel
theorem dX1_nextCut_12 : decode cX1_nextCut 12 = .ok (.invokestatic 135, 3) := by decide +kernel
theorem dX1_nextCut_15 : decode cX1_nextCut 15 = .ok (.ireturn, 1) := by decide +kernel
theorem dX1_settleInWindow_0 : decode cX1_settleInWindow 0 = .ok (.aload_n 1, 1) := by decide +kernel
theorem dX1_settleInWindow_1 : decode cX1_settleInWindow 1 = .ok (.iload_n 2, 1) := by decide +kernel
theorem dX1_settleInWindow_2 : decode cX1_settleInWindow 2 = .ok (.invokevirtual 141, 3) := by decide +kernel
theorem dX1_settleInWindow_5 : decode cX1_settleInWindow 5 = .ok (.aload_n 0, 1) := by decide +kernel
theorem dX1_settleInWindow_6 : decode cX1_settleInWindow 6 = .ok (.getfield 17, 3) := by decide +kernel
theorem dX1_settleInWindow_9 : decode cX1_settleInWindow 9 = .ok (.iconst 1, 1) := by decide +kernel
theorem dX1_settleInWindow_10 : decode cX1_settleInWindow 10 = .ok (.iaload, 1) := by decide +kernel
theorem dX1_settleInWindow_11 : decode cX1_settleInWindow 11 = .ok (.istore_n 3, 1) := by decide +kernel
theorem dX1_settleInWindow_12 : decode cX1_settleInWindow 12 = .ok (.aload_n 1, 1) := by decide +kernel
theorem dX1_settleInWindow_13 : decode cX1_settleInWindow 13 = .ok (.getfield 145, 3) := by decide +kernel
theorem dX1_settleInWindow_16 : decode cX1_settleInWindow 16 = .ok (.iload_n 3, 1) := by decide +kernel
theorem dX1_settleInWindow_17 : decode cX1_settleInWindow 17 = .ok (.if_icmp .lt 27, 3) := by decide +kernel
theorem dX1_settleInWindow_20 : decode cX1_settleInWindow 20 = .ok (.aload_n 1, 1) := by decide +kernel
theorem dX1_settleInWindow_21 : decode cX1_settleInWindow 21 = .ok (.iload_n 3, 1) := by decide +kernel
theorem dX1_settleInWindow_22 : decode cX1_settleInWindow 22 = .ok (.invokevirtual 148, 3) := by decide +kernel
theorem dX1_settleInWindow_25 : decode cX1_settleInWindow 25 = .ok (.aload_n 0, 1) := by decide +kernel
theorem dX1_settleInWindow_26 : decode cX1_settleInWindow 26 = .ok (.getfield 17, 3) := by decide +kernel
theorem dX1_settleInWindow_29 : decode cX1_settleInWindow 29 = .ok (.iconst 2, 1) := by decide +kernel
theorem dX1_settleInWindow_30 : decode cX1_settleInWindow 30 = .ok (.iaload, 1) := by decide +kernel
theorem dX1_settleInWindow_31 : decode cX1_settleInWindow 31 = .ok (.if_icmp .lt 13, 3) := by decide +kernel
theorem dX1_settleInWindow_34 : decode cX1_settleInWindow 34 = .ok (.aload_n 1, 1) := by decide +kernel
theorem dX1_settleInWindow_35 : decode cX1_settleInWindow 35 = .ok (.aload_n 0, 1) := by decide +kernel
theorem dX1_settleInWindow_36 : decode cX1_settleInWindow 36 = .ok (.getfield 17, 3) := by decide +kernel
theorem dX1_settleInWindow_39 : decode cX1_settleInWindow 39 = .ok (.iconst 3, 1) := by decide +kernel
theorem dX1_settleInWindow_40 : decode cX1_settleInWindow 40 = .ok (.iaload, 1) := by decide +kernel
theorem dX1_settleInWindow_41 : decode cX1_settleInWindow 41 = .ok (.invokevirtual 125, 3) := by decide +kernel
theorem dX1_settleInWindow_44 : decode cX1_settleInWindow 44 = .ok (.return_, 1) := by decide +kernel
theorem dX1_closeByHand_0 : decode cX1_closeByHand 0 = .ok (.aload_n 0, 1) := by decide +kernel
theorem dX1_closeByHand_1 : decode cX1_closeByHand 1 = .ok (.getfield 11, 3) := by decide +kernel
theorem dX1_closeByHand_4 : decode cX1_closeByHand 4 = .ok (.iload_n 1, 1) := by decide +kernel
theorem dX1_closeByHand_5 : decode cX1_closeByHand 5 = .ok (.aaload, 1) := by decide +kernel
theorem dX1_closeByHand_6 : decode cX1_closeByHand 6 = .ok (.getfield 61, 3) := by decide +kernel
theorem dX1_closeByHand_9 : decode cX1_closeByHand 9 = .ok (.istore_n 2, 1) := by decide +kernel
theorem dX1_closeByHand_10 : decode cX1_closeByHand 10 = .ok (.aload_n 0, 1) := by decide +kernel
theorem dX1_closeByHand_11 : decode cX1_closeByHand 11 = .ok (.iload_n 1, 1) := by decide +kernel
theorem dX1_closeByHand_12 : decode cX1_closeByHand 12 = .ok (.invokevirtual 64, 3) := by decide +kernel
theorem dX1_closeByHand_15 : decode cX1_closeByHand 15 = .ok (.istore_n 3, 1) := by decide +kernel
theorem dX1_closeByHand_16 : decode cX1_closeByHand 16 = .ok (.iload_n 3, 1) := by decide +kernel
theorem dX1_closeByHand_17 : decode cX1_closeByHand 17 = .ok (.iconst (-1), 1) := by decide +kernel
theorem dX1_closeByHand_18 : decode cX1_closeByHand 18 = .ok (.if_icmp .eq 12, 3) := by decide +kernel
theorem dX1_closeByHand_21 : decode cX1_closeByHand 21 = .ok (.aload_n 0, 1) := by decide +kernel
theorem dX1_closeByHand_22 : decode cX1_closeByHand 22 = .ok (.getfield 23, 3) := by decide +kernel
theorem dX1_closeByHand_25 : decode cX1_closeByHand 25 = .ok (.iconst 3, 1) := by decide +kernel
theorem dX1_closeByHand_26 : decode cX1_closeByHand 26 = .ok (.aaload, 1) := by decide +kernel
theorem dX1_closeByHand_27 : decode cX1_closeByHand 27 = .ok (.iload_n 3, 1) := by decide +kernel
theorem dX1_closeByHand_28 : decode cX1_closeByHand 28 = .ok (.iconst 0, 1) := by decide +kernel
theorem dX1_closeByHand_29 : decode cX1_closeByHand 29 = .ok (.iastore, 1) := by decide +kernel
theorem dX1_closeByHand_30 : decode cX1_closeByHand 30 = .ok (.aload_n 0, 1) := by decide +kernel
theorem dX1_closeByHand_31 : decode cX1_closeByHand 31 = .ok (.getfield 11, 3) := by decide +kernel
theorem dX1_closeByHand_34 : decode cX1_closeByHand 34 = .ok (.iload_n 1, 1) := by decide +kernel
theorem dX1_closeByHand_35 : decode cX1_closeByHand 35 = .ok (.aaload, 1) := by decide +kernel
theorem dX1_closeByHand_36 : decode cX1_closeByHand 36 = .ok (.invokevirtual 129, 3) := by decide +kernel
theorem dX1_closeByHand_39 : decode cX1_closeByHand 39 = .ok (.iload_n 2, 1) := by decide +kernel
theorem dX1_closeByHand_40 : decode cX1_closeByHand 40 = .ok (.ireturn, 1) := by decide +kernel
theorem dX1_ticksTillFree_0 : decode cX1_ticksTillFree 0 = .ok (.aload_n 0, 1) := by decide +kernel
theorem dX1_ticksTillFree_1 : decode cX1_ticksTillFree 1 = .ok (.getfield 11, 3) := by decide +kernel
theorem dX1_ticksTillFree_4 : decode cX1_ticksTillFree 4 = .ok (.iload_n 1, 1) := by decide +kernel
theorem dX1_ticksTillFree_5 : decode cX1_ticksTillFree 5 = .ok (.aaload, 1) := by decide +kernel
theorem dX1_ticksTillFree_6 : decode cX1_ticksTillFree 6 = .ok (.astore_n 2, 1) := by decide +kernel
theorem dX1_ticksTillFree_7 : decode cX1_ticksTillFree 7 = .ok (.aload_n 0, 1) := by decide +kernel
theorem dX1_ticksTillFree_8 : decode cX1_ticksTillFree 8 = .ok (.iload_n 1, 1) := by decide +kernel
theorem dX1_ticksTillFree_9 : decode cX1_ticksTillFree 9 = .ok (.invokevirtual 64, 3) := by decide +kernel
theorem dX1_ticksTillFree_12 : decode cX1_ticksTillFree 12 = .ok (.istore_n 3, 1) := by decide +kernel
theorem dX1_ticksTillFree_13 : decode cX1_ticksTillFree 13 = .ok (.aload_n 2, 1) := by decide +kernel
theorem dX1_ticksTillFree_14 : decode cX1_ticksTillFree 14 = .ok (.getfield 151, 3) := by decide +kernel
theorem dX1_ticksTillFree_17 : decode cX1_ticksTillFree 17 = .ok (.istore 4, 2) := by decide +kernel
theorem dX1_ticksTillFree_19 : decode cX1_ticksTillFree 19 = .ok (.iload_n 3, 1) := by decide +kernel
theorem dX1_ticksTillFree_20 : decode cX1_ticksTillFree 20 = .ok (.iconst (-1), 1) := by decide +kernel
theorem dX1_ticksTillFree_21 : decode cX1_ticksTillFree 21 = .ok (.if_icmp .eq 40, 3) := by decide +kernel
theorem dX1_ticksTillFree_24 : decode cX1_ticksTillFree 24 = .ok (.aload_n 0, 1) := by decide +kernel
theorem dX1_ticksTillFree_25 : decode cX1_ticksTillFree 25 = .ok (.getfield 23, 3) := by decide +kernel
theorem dX1_ticksTillFree_28 : decode cX1_ticksTillFree 28 = .ok (.iconst 1, 1) := by decide +kernel
theorem dX1_ticksTillFree_29 : decode cX1_ticksTillFree 29 = .ok (.aaload, 1) := by decide +kernel
theorem dX1_ticksTillFree_30 : decode cX1_ticksTillFree 30 = .ok (.iload_n 3, 1) := by decide +kernel
theorem dX1_ticksTillFree_31 : decode cX1_ticksTillFree 31 = .ok (.iaload, 1) := by decide +kernel
theorem dX1_ticksTillFree_32 : decode cX1_ticksTillFree 32 = .ok (.istore 4, 2) := by decide +kernel
theorem dX1_ticksTillFree_34 : decode cX1_ticksTillFree 34 = .ok (.aload_n 0, 1) := by decide +kernel
theorem dX1_ticksTillFree_35 : decode cX1_ticksTillFree 35 = .ok (.aload_n 0, 1) := by decide +kernel
theorem dX1_ticksTillFree_36 : decode cX1_ticksTillFree 36 = .ok (.getfield 23, 3) := by decide +kernel
theorem dX1_ticksTillFree_39 : decode cX1_ticksTillFree 39 = .ok (.iconst 2, 1) := by decide +kernel
theorem dX1_ticksTillFree_40 : decode cX1_ticksTillFree 40 = .ok (.aaload, 1) := by decide +kernel
theorem dX1_ticksTillFree_41 : decode cX1_ticksTillFree 41 = .ok (.iload_n 3, 1) := by decide +kernel
theorem dX1_ticksTillFree_42 : decode cX1_ticksTillFree 42 = .ok (.iaload, 1) := by decide +kernel
theorem dX1_ticksTillFree_43 : decode cX1_ticksTillFree 43 = .ok (.invokevirtual 108, 3) := by decide +kernel
theorem dX1_ticksTillFree_46 : decode cX1_ticksTillFree 46 = .ok (.ifCond .eq 15, 3) := by decide +kernel
theorem dX1_ticksTillFree_49 : decode cX1_ticksTillFree 49 = .ok (.iload 4, 2) := by decide +kernel
theorem dX1_ticksTillFree_51 : decode cX1_ticksTillFree 51 = .ok (.aload_n 0, 1) := by decide +kernel
theorem dX1_ticksTillFree_52 : decode cX1_ticksTillFree 52 = .ok (.aload_n 2, 1) := by decide +kernel
theorem dX1_ticksTillFree_53 : decode cX1_ticksTillFree 53 = .ok (.invokevirtual 121, 3) := by decide +kernel
theorem dX1_ticksTillFree_56 : decode cX1_ticksTillFree 56 = .ok (.iconst 1, 1) := by decide +kernel
theorem dX1_ticksTillFree_57 : decode cX1_ticksTillFree 57 = .ok (.isub, 1) := by decide +kernel
theorem dX1_ticksTillFree_58 : decode cX1_ticksTillFree 58 = .ok (.iadd, 1) := by decide +kernel
theorem dX1_ticksTillFree_59 : decode cX1_ticksTillFree 59 = .ok (.istore 4, 2) := by decide +kernel
theorem dX1_ticksTillFree_61 : decode cX1_ticksTillFree 61 = .ok (.iload 4, 2) := by decide +kernel
theorem dX1_ticksTillFree_63 : decode cX1_ticksTillFree 63 = .ok (.sipush 999, 3) := by decide +kernel
theorem dX1_ticksTillFree_66 : decode cX1_ticksTillFree 66 = .ok (.if_icmp .gt 8, 3) := by decide +kernel
theorem dX1_ticksTillFree_69 : decode cX1_ticksTillFree 69 = .ok (.iload 4, 2) := by decide +kernel
theorem dX1_ticksTillFree_71 : decode cX1_ticksTillFree 71 = .ok (.goto 4, 3) := by decide +kernel
theorem dX1_ticksTillFree_74 : decode cX1_ticksTillFree 74 = .ok (.iconst (-1), 1) := by decide +kernel
theorem dX1_ticksTillFree_75 : decode cX1_ticksTillFree 75 = .ok (.ireturn, 1) := by decide +kernel
theorem dX1_healthiestStore_0 : decode cX1_healthiestStore 0 = .ok (.iconst (-1), 1) := by decide +kernel
theorem dX1_healthiestStore_1 : decode cX1_healthiestStore 1 = .ok (.istore_n 1, 1) := by decide +kernel
theorem dX1_healthiestStore_2 : decode cX1_healthiestStore 2 = .ok (.iconst 0, 1) := by decide +kernel
theorem dX1_healthiestStore_3 : decode cX1_healthiestStore 3 = .ok (.istore_n 2, 1) := by decide +kernel
theorem dX1_healthiestStore_4 : decode cX1_healthiestStore 4 = .ok (.iload_n 2, 1) := by decide +kernel
theorem dX1_healthiestStore_5 : decode cX1_healthiestStore 5 = .ok (.iconst 4, 1) := by decide +kernel
theorem dX1_healthiestStore_6 : decode cX1_healthiestStore 6 = .ok (.if_icmp .ge 47, 3) := by decide +kernel
theorem dX1_healthiestStore_9 : decode cX1_healthiestStore 9 = .ok (.aload_n 0, 1) := by decide +kernel
theorem dX1_healthiestStore_10 : decode cX1_healthiestStore 10 = .ok (.getfield 11, 3) := by decide +kernel
theorem dX1_healthiestStore_13 : decode cX1_healthiestStore 13 = .ok (.iload_n 2, 1) := by decide +kernel
theorem dX1_healthiestStore_14 : decode cX1_healthiestStore 14 = .ok (.aaload, 1) := by decide +kernel
theorem dX1_healthiestStore_15 : decode cX1_healthiestStore 15 = .ok (.getfield 61, 3) := by decide +kernel
theorem dX1_healthiestStore_18 : decode cX1_healthiestStore 18 = .ok (.ifCond .ne 29, 3) := by decide +kernel
theorem dX1_healthiestStore_21 : decode cX1_healthiestStore 21 = .ok (.iload_n 1, 1) := by decide +kernel
theorem dX1_healthiestStore_22 : decode cX1_healthiestStore 22 = .ok (.iconst (-1), 1) := by decide +kernel
theorem dX1_healthiestStore_23 : decode cX1_healthiestStore 23 = .ok (.if_icmp .eq 22, 3) := by decide +kernel
theorem dX1_healthiestStore_26 : decode cX1_healthiestStore 26 = .ok (.aload_n 0, 1) := by decide +kernel
theorem dX1_healthiestStore_27 : decode cX1_healthiestStore 27 = .ok (.aload_n 0, 1) := by decide +kernel
theorem dX1_healthiestStore_28 : decode cX1_healthiestStore 28 = .ok (.getfield 11, 3) := by decide +kernel
theorem dX1_healthiestStore_31 : decode cX1_healthiestStore 31 = .ok (.iload_n 2, 1) := by decide +kernel
theorem dX1_healthiestStore_32 : decode cX1_healthiestStore 32 = .ok (.aaload, 1) := by decide +kernel
theorem dX1_healthiestStore_33 : decode cX1_healthiestStore 33 = .ok (.aload_n 0, 1) := by decide +kernel
theorem dX1_healthiestStore_34 : decode cX1_healthiestStore 34 = .ok (.getfield 11, 3) := by decide +kernel
theorem dX1_healthiestStore_37 : decode cX1_healthiestStore 37 = .ok (.iload_n 1, 1) := by decide +kernel
theorem dX1_healthiestStore_38 : decode cX1_healthiestStore 38 = .ok (.aaload, 1) := by decide +kernel
theorem dX1_healthiestStore_39 : decode cX1_healthiestStore 39 = .ok (.invokevirtual 154, 3) := by decide +kernel
theorem dX1_healthiestStore_42 : decode cX1_healthiestStore 42 = .ok (.ifCond .eq 5, 3) := by decide +kernel
theorem dX1_healthiestStore_45 : decode cX1_healthiestStore 45 = .ok (.iload_n 2, 1) := by decide +kernel
theorem dX1_healthiestStore_46 : decode cX1_healthiestStore 46 = .ok (.istore_n 1, 1) := by decide +kernel
theorem dX1_healthiestStore_47 : decode cX1_healthiestStore 47 = .ok (.iinc 2 1, 3) := by decide +kernel
theorem dX1_healthiestStore_50 : decode cX1_healthiestStore 50 = .ok (.goto (-46), 3) := by decide +kernel
theorem dX1_healthiestStore_53 : decode cX1_healthiestStore 53 = .ok (.iload_n 1, 1) := by decide +kernel
theorem dX1_healthiestStore_54 : decode cX1_healthiestStore 54 = .ok (.ireturn, 1) := by decide +kernel
theorem dX1_isHealthier_0 : decode cX1_isHealthier 0 = .ok (.aload_n 1, 1) := by decide +kernel
theorem dX1_isHealthier_1 : decode cX1_isHealthier 1 = .ok (.aload_n 0, 1) := by decide +kernel
theorem dX1_isHealthier_2 : decode cX1_isHealthier 2 = .ok (.getfield 17, 3) := by decide +kernel
theorem dX1_isHealthier_5 : decode cX1_isHealthier 5 = .ok (.iconst 1, 1) := by decide +kernel
theorem dX1_isHealthier_6 : decode cX1_isHealthier 6 = .ok (.iaload, 1) := by decide +kernel
theorem dX1_isHealthier_7 : decode cX1_isHealthier 7 = .ok (.invokevirtual 148, 3) := by decide +kernel
theorem dX1_isHealthier_10 : decode cX1_isHealthier 10 = .ok (.istore_n 3, 1) := by decide +kernel
theorem dX1_isHealthier_11 : decode cX1_isHealthier 11 = .ok (.aload_n 2, 1) := by decide +kernel
theorem dX1_isHealthier_12 : decode cX1_isHealthier 12 = .ok (.aload_n 0, 1) := by decide +kernel
theorem dX1_isHealthier_13 : decode cX1_isHealthier 13 = .ok (.getfield 17, 3) := by decide +kernel
theorem dX1_isHealthier_16 : decode cX1_isHealthier 16 = .ok (.iconst 1, 1) := by decide +kernel
theorem dX1_isHealthier_17 : decode cX1_isHealthier 17 = .ok (.iaload, 1) := by decide +kernel
theorem dX1_isHealthier_18 : decode cX1_isHealthier 18 = .ok (.invokevirtual 148, 3) := by decide +kernel
theorem dX1_isHealthier_21 : decode cX1_isHealthier 21 = .ok (.istore 4, 2) := by decide +kernel
theorem dX1_isHealthier_23 : decode cX1_isHealthier 23 = .ok (.iload_n 3, 1) := by decide +kernel
theorem dX1_isHealthier_24 : decode cX1_isHealthier 24 = .ok (.iload 4, 2) := by decide +kernel
theorem dX1_isHealthier_26 : decode cX1_isHealthier 26 = .ok (.if_icmp .lt 20, 3) := by decide +kernel
theorem dX1_isHealthier_29 : decode cX1_isHealthier 29 = .ok (.iload_n 3, 1) := by decide +kernel
theorem dX1_isHealthier_30 : decode cX1_isHealthier 30 = .ok (.iload 4, 2) := by decide +kernel
theorem dX1_isHealthier_32 : decode cX1_isHealthier 32 = .ok (.if_icmp .ne 18, 3) := by decide +kernel
theorem dX1_isHealthier_35 : decode cX1_isHealthier 35 = .ok (.aload_n 1, 1) := by decide +kernel
theorem dX1_isHealthier_36 : decode cX1_isHealthier 36 = .ok (.getfield 88, 3) := by decide +kernel
theorem dX1_isHealthier_39 : decode cX1_isHealthier 39 = .ok (.aload_n 2, 1) := by decide +kernel
theorem dX1_isHealthier_40 : decode cX1_isHealthier 40 = .ok (.getfield 88, 3) := by decide +kernel
theorem dX1_isHealthier_43 : decode cX1_isHealthier 43 = .ok (.if_icmp .ge 7, 3) := by decide +kernel
theorem dX1_isHealthier_46 : decode cX1_isHealthier 46 = .ok (.iconst 1, 1) := by decide +kernel
theorem dX1_isHealthier_47 : decode cX1_isHealthier 47 = .ok (.goto 4, 3) := by decide +kernel
theorem dX1_isHealthier_50 : decode cX1_isHealthier 50 = .ok (.iconst 0, 1) := by decide +kernel
theorem dX1_isHealthier_51 : decode cX1_isHealthier 51 = .ok (.ireturn, 1) := by decide +kernel
theorem dX1_closedBreakers_0 : decode cX1_closedBreakers 0 = .ok (.iconst 0, 1) := by decide +kernel
theorem dX1_closedBreakers_1 : decode cX1_closedBreakers 1 = .ok (.istore_n 1, 1) := by decide +kernel
theorem dX1_closedBreakers_2 : decode cX1_closedBreakers 2 = .ok (.iconst 0, 1) := by decide +kernel
theorem dX1_closedBreakers_3 : decode cX1_closedBreakers 3 = .ok (.istore_n 2, 1) := by decide +kernel
theorem dX1_closedBreakers_4 : decode cX1_closedBreakers 4 = .ok (.iload_n 2, 1) := by decide +kernel
theorem dX1_closedBreakers_5 : decode cX1_closedBreakers 5 = .ok (.iconst 4, 1) := by decide +kernel
theorem dX1_closedBreakers_6 : decode cX1_closedBreakers 6 = .ok (.if_icmp .ge 24, 3) := by decide +kernel
theorem dX1_closedBreakers_9 : decode cX1_closedBreakers 9 = .ok (.aload_n 0, 1) := by decide +kernel
theorem dX1_closedBreakers_10 : decode cX1_closedBreakers 10 = .ok (.getfield 11, 3) := by decide +kernel
theorem dX1_closedBreakers_13 : decode cX1_closedBreakers 13 = .ok (.iload_n 2, 1) := by decide +kernel
theorem dX1_closedBreakers_14 : decode cX1_closedBreakers 14 = .ok (.aaload, 1) := by decide +kernel
theorem dX1_closedBreakers_15 : decode cX1_closedBreakers 15 = .ok (.getfield 61, 3) := by decide +kernel
theorem dX1_closedBreakers_18 : decode cX1_closedBreakers 18 = .ok (.ifCond .ne 6, 3) := by decide +kernel
theorem dX1_closedBreakers_21 : decode cX1_closedBreakers 21 = .ok (.iinc 1 1, 3) := by decide +kernel
theorem dX1_closedBreakers_24 : decode cX1_closedBreakers 24 = .ok (.iinc 2 1, 3) := by decide +kernel
theorem dX1_closedBreakers_27 : decode cX1_closedBreakers 27 = .ok (.goto (-23), 3) := by decide +kernel
theorem dX1_closedBreakers_30 : decode cX1_closedBreakers 30 = .ok (.iload_n 1, 1) := by decide +kernel
theorem dX1_closedBreakers_31 : decode cX1_closedBreakers 31 = .ok (.ireturn, 1) := by decide +kernel
theorem dX1_numberOf_0 : decode cX1_numberOf 0 = .ok (.aload_n 0, 1) := by decide +kernel
theorem dX1_numberOf_1 : decode cX1_numberOf 1 = .ok (.getfield 11, 3) := by decide +kernel
theorem dX1_numberOf_4 : decode cX1_numberOf 4 = .ok (.iload_n 1, 1) := by decide +kernel
theorem dX1_numberOf_5 : decode cX1_numberOf 5 = .ok (.aaload, 1) := by decide +kernel
theorem dX1_numberOf_6 : decode cX1_numberOf 6 = .ok (.astore_n 3, 1) := by decide +kernel
theorem dX1_numberOf_7 : decode cX1_numberOf 7 = .ok (.iload_n 2, 1) := by decide +kernel
theorem dX1_numberOf_8 : decode cX1_numberOf 8 = .ok (.tableswitch 118 0 9 #[56, 61, 72, 83, 88, 93, 98, 103, 108, 113], 56) := by decide +kernel
theorem dX1_numberOf_64 : decode cX1_numberOf 64 = .ok (.aload_n 3, 1) := by decide +kernel
theorem dX1_numberOf_65 : decode cX1_numberOf 65 = .ok (.getfield 61, 3) := by decide +kernel
theorem dX1_numberOf_68 : decode cX1_numberOf 68 = .ok (.ireturn, 1) := by decide +kernel
theorem dX1_numberOf_69 : decode cX1_numberOf 69 = .ok (.aload_n 3, 1) := by decide +kernel
theorem dX1_numberOf_70 : decode cX1_numberOf 70 = .ok (.aload_n 0, 1) := by decide +kernel
theorem dX1_numberOf_71 : decode cX1_numberOf 71 = .ok (.getfield 17, 3) := by decide +kernel
theorem dX1_numberOf_74 : decode cX1_numberOf 74 = .ok (.iconst 1, 1) := by decide +kernel
theorem dX1_numberOf_75 : decode cX1_numberOf 75 = .ok (.iaload, 1) := by decide +kernel
theorem dX1_numberOf_76 : decode cX1_numberOf 76 = .ok (.invokevirtual 158, 3) := by decide +kernel
theorem dX1_numberOf_79 : decode cX1_numberOf 79 = .ok (.ireturn, 1) := by decide +kernel
theorem dX1_numberOf_80 : decode cX1_numberOf 80 = .ok (.aload_n 3, 1) := by decide +kernel
theorem dX1_numberOf_81 : decode cX1_numberOf 81 = .ok (.aload_n 0, 1) := by decide +kernel
theorem dX1_numberOf_82 : decode cX1_numberOf 82 = .ok (.getfield 17, 3) := by decide +kernel
theorem dX1_numberOf_85 : decode cX1_numberOf 85 = .ok (.iconst 1, 1) := by decide +kernel
theorem dX1_numberOf_86 : decode cX1_numberOf 86 = .ok (.iaload, 1) := by decide +kernel
theorem dX1_numberOf_87 : decode cX1_numberOf 87 = .ok (.invokevirtual 148, 3) := by decide +kernel
theorem dX1_numberOf_90 : decode cX1_numberOf 90 = .ok (.ireturn, 1) := by decide +kernel
theorem dX1_numberOf_91 : decode cX1_numberOf 91 = .ok (.aload_n 3, 1) := by decide +kernel
theorem dX1_numberOf_92 : decode cX1_numberOf 92 = .ok (.getfield 151, 3) := by decide +kernel
theorem dX1_numberOf_95 : decode cX1_numberOf 95 = .ok (.ireturn, 1) := by decide +kernel
theorem dX1_numberOf_96 : decode cX1_numberOf 96 = .ok (.aload_n 3, 1) := by decide +kernel
theorem dX1_numberOf_97 : decode cX1_numberOf 97 = .ok (.getfield 132, 3) := by decide +kernel
theorem dX1_numberOf_100 : decode cX1_numberOf 100 = .ok (.ireturn, 1) := by decide +kernel
theorem dX1_numberOf_101 : decode cX1_numberOf 101 = .ok (.aload_n 3, 1) := by decide +kernel
theorem dX1_numberOf_102 : decode cX1_numberOf 102 = .ok (.getfield 70, 3) := by decide +kernel
theorem dX1_numberOf_105 : decode cX1_numberOf 105 = .ok (.ireturn, 1) := by decide +kernel
theorem dX1_numberOf_106 : decode cX1_numberOf 106 = .ok (.aload_n 3, 1) := by decide +kernel
theorem dX1_numberOf_107 : decode cX1_numberOf 107 = .ok (.getfield 67, 3) := by decide +kernel
theorem dX1_numberOf_110 : decode cX1_numberOf 110 = .ok (.ireturn, 1) := by decide +kernel
theorem dX1_numberOf_111 : decode cX1_numberOf 111 = .ok (.aload_n 3, 1) := by decide +kernel
theorem dX1_numberOf_112 : decode cX1_numberOf 112 = .ok (.getfield 111, 3) := by decide +kernel
theorem dX1_numberOf_115 : decode cX1_numberOf 115 = .ok (.ireturn, 1) := by decide +kernel
theorem dX1_numberOf_116 : decode cX1_numberOf 116 = .ok (.aload_n 3, 1) := by decide +kernel
theorem dX1_numberOf_117 : decode cX1_numberOf 117 = .ok (.getfield 88, 3) := by decide +kernel
theorem dX1_numberOf_120 : decode cX1_numberOf 120 = .ok (.ireturn, 1) := by decide +kernel
theorem dX1_numberOf_121 : decode cX1_numberOf 121 = .ok (.aload_n 3, 1) := by decide +kernel
theorem dX1_numberOf_122 : decode cX1_numberOf 122 = .ok (.getfield 161, 3) := by decide +kernel
theorem dX1_numberOf_125 : decode cX1_numberOf 125 = .ok (.ireturn, 1) := by decide +kernel
theorem dX1_numberOf_126 : decode cX1_numberOf 126 = .ok (.aload_n 3, 1) := by decide +kernel
theorem dX1_numberOf_127 : decode cX1_numberOf 127 = .ok (.getfield 164, 3) := by decide +kernel
theorem dX1_numberOf_130 : decode cX1_numberOf 130 = .ok (.aload_n 3, 1) := by decide +kernel
theorem dX1_numberOf_131 : decode cX1_numberOf 131 = .ok (.invokevirtual 167, 3) := by decide +kernel
theorem dX1_numberOf_134 : decode cX1_numberOf 134 = .ok (.iaload, 1) := by decide +kernel
theorem dX1_numberOf_135 : decode cX1_numberOf 135 = .ok (.ireturn, 1) := by decide +kernel
theorem dX1_sumOf_0 : decode cX1_sumOf 0 = .ok (.iconst 0, 1) := by decide +kernel
theorem dX1_sumOf_1 : decode cX1_sumOf 1 = .ok (.istore_n 2, 1) := by decide +kernel
theorem dX1_sumOf_2 : decode cX1_sumOf 2 = .ok (.iconst 0, 1) := by decide +kernel
theorem dX1_sumOf_3 : decode cX1_sumOf 3 = .ok (.istore_n 3, 1) := by decide +kernel
theorem dX1_sumOf_4 : decode cX1_sumOf 4 = .ok (.iload_n 3, 1) := by decide +kernel
theorem dX1_sumOf_5 : decode cX1_sumOf 5 = .ok (.iconst 4, 1) := by decide +kernel
theorem dX1_sumOf_6 : decode cX1_sumOf 6 = .ok (.if_icmp .ge 18, 3) := by decide +kernel
theorem dX1_sumOf_9 : decode cX1_sumOf 9 = .ok (.iload_n 2, 1) := by decide +kernel
theorem dX1_sumOf_10 : decode cX1_sumOf 10 = .ok (.aload_n 0, 1) := by decide +kernel
theorem dX1_sumOf_11 : decode cX1_sumOf 11 = .ok (.iload_n 3, 1) := by decide +kernel
theorem dX1_sumOf_12 : decode cX1_sumOf 12 = .ok (.iload_n 1, 1) := by decide +kernel
theorem dX1_sumOf_13 : decode cX1_sumOf 13 = .ok (.invokevirtual 170, 3) := by decide +kernel
theorem dX1_sumOf_16 : decode cX1_sumOf 16 = .ok (.iadd, 1) := by decide +kernel
theorem dX1_sumOf_17 : decode cX1_sumOf 17 = .ok (.istore_n 2, 1) := by decide +kernel
theorem dX1_sumOf_18 : decode cX1_sumOf 18 = .ok (.iinc 3 1, 3) := by decide +kernel
theorem dX1_sumOf_21 : decode cX1_sumOf 21 = .ok (.goto (-17), 3) := by decide +kernel
theorem dX1_sumOf_24 : decode cX1_sumOf 24 = .ok (.iload_n 2, 1) := by decide +kernel
theorem dX1_sumOf_25 : decode cX1_sumOf 25 = .ok (.ireturn, 1) := by decide +kernel
theorem dX1_goodShare_0 : decode cX1_goodShare 0 = .ok (.aload_n 0, 1) := by decide +kernel
theorem dX1_goodShare_1 : decode cX1_goodShare 1 = .ok (.getfield 47, 3) := by decide +kernel
theorem dX1_goodShare_4 : decode cX1_goodShare 4 = .ok (.aload_n 0, 1) := by decide +kernel
theorem dX1_goodShare_5 : decode cX1_goodShare 5 = .ok (.bipush 7, 2) := by decide +kernel
theorem dX1_goodShare_7 : decode cX1_goodShare 7 = .ok (.invokevirtual 173, 3) := by decide +kernel
theorem dX1_goodShare_10 : decode cX1_goodShare 10 = .ok (.iadd, 1) := by decide +kernel
theorem dX1_goodShare_11 : decode cX1_goodShare 11 = .ok (.istore_n 1, 1) := by decide +kernel
theorem dX1_goodShare_12 : decode cX1_goodShare 12 = .ok (.iload_n 1, 1) := by decide +kernel
theorem dX1_goodShare_13 : decode cX1_goodShare 13 = .ok (.ifCond .le 14, 3) := by decide +kernel
theorem dX1_goodShare_16 : decode cX1_goodShare 16 = .ok (.aload_n 0, 1) := by decide +kernel
theorem dX1_goodShare_17 : decode cX1_goodShare 17 = .ok (.getfield 47, 3) := by decide +kernel
theorem dX1_goodShare_20 : decode cX1_goodShare 20 = .ok (.i2d, 1) := by decide +kernel
theorem dX1_goodShare_21 : decode cX1_goodShare 21 = .ok (.iload_n 1, 1) := by decide +kernel
theorem dX1_goodShare_22 : decode cX1_goodShare 22 = .ok (.i2d, 1) := by decide +kernel
theorem dX1_goodShare_23 : decode cX1_goodShare 23 = .ok (.ddiv, 1) := by decide +kernel
theorem dX1_goodShare_24 : decode cX1_goodShare 24 = .ok (.goto 4, 3) := by decide +kernel
theorem dX1_goodShare_27 : decode cX1_goodShare 27 = .ok (.dconst 1, 1) := by decide +kernel
theorem dX1_goodShare_28 : decode cX1_goodShare 28 = .ok (.dreturn, 1) := by decide +kernel
