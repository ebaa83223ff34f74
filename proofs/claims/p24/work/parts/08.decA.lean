/-! decode rows, by program: JDK, DelayText, Store -/
theorem dX0_init_0 : decode cX0_init 0 = .ok (.aload_n 0, 1) := by decide +kernel
theorem dX0_init_1 : decode cX0_init 1 = .ok (.invokespecial 3, 3) := by decide +kernel
theorem dX0_init_4 : decode cX0_init 4 = .ok (.aload_n 0, 1) := by decide +kernel
theorem dX0_init_5 : decode cX0_init 5 = .ok (.bipush 60, 2) := by decide +kernel
theorem dX0_init_7 : decode cX0_init 7 = .ok (.newarray .int, 2) := by decide +kernel
theorem dX0_init_9 : decode cX0_init 9 = .ok (.putfield 11, 3) := by decide +kernel
theorem dX0_init_12 : decode cX0_init 12 = .ok (.return_, 1) := by decide +kernel
theorem dX0_isFull_0 : decode cX0_isFull 0 = .ok (.aload_n 0, 1) := by decide +kernel
theorem dX0_isFull_1 : decode cX0_isFull 1 = .ok (.getfield 15, 3) := by decide +kernel
theorem dX0_isFull_4 : decode cX0_isFull 4 = .ok (.bipush 60, 2) := by decide +kernel
theorem dX0_isFull_6 : decode cX0_isFull 6 = .ok (.if_icmp .lt 7, 3) := by decide +kernel
theorem dX0_isFull_9 : decode cX0_isFull 9 = .ok (.iconst 1, 1) := by decide +kernel
theorem dX0_isFull_10 : decode cX0_isFull 10 = .ok (.goto 4, 3) := by decide +kernel
theorem dX0_isFull_13 : decode cX0_isFull 13 = .ok (.iconst 0, 1) := by decide +kernel
theorem dX0_isFull_14 : decode cX0_isFull 14 = .ok (.ireturn, 1) := by decide +kernel
theorem dX0_add_0 : decode cX0_add 0 = .ok (.aload_n 0, 1) := by decide +kernel
theorem dX0_add_1 : decode cX0_add 1 = .ok (.invokevirtual 19, 3) := by decide +kernel
theorem dX0_add_4 : decode cX0_add 4 = .ok (.ifCond .ne 23, 3) := by decide +kernel
theorem dX0_add_7 : decode cX0_add 7 = .ok (.aload_n 0, 1) := by decide +kernel
theorem dX0_add_8 : decode cX0_add 8 = .ok (.getfield 11, 3) := by decide +kernel
theorem dX0_add_11 : decode cX0_add 11 = .ok (.aload_n 0, 1) := by decide +kernel
theorem dX0_add_12 : decode cX0_add 12 = .ok (.getfield 15, 3) := by decide +kernel
theorem dX0_add_15 : decode cX0_add 15 = .ok (.iload_n 1, 1) := by decide +kernel
theorem dX0_add_16 : decode cX0_add 16 = .ok (.iastore, 1) := by decide +kernel
theorem dX0_add_17 : decode cX0_add 17 = .ok (.aload_n 0, 1) := by decide +kernel
theorem dX0_add_18 : decode cX0_add 18 = .ok (.dup, 1) := by decide +kernel
theorem dX0_add_19 : decode cX0_add 19 = .ok (.getfield 15, 3) := by decide +kernel
theorem dX0_add_22 : decode cX0_add 22 = .ok (.iconst 1, 1) := by decide +kernel
theorem dX0_add_23 : decode cX0_add 23 = .ok (.iadd, 1) := by decide +kernel
theorem dX0_add_24 : decode cX0_add 24 = .ok (.putfield 15, 3) := by decide +kernel
theorem dX0_add_27 : decode cX0_add 27 = .ok (.aload_n 0, 1) := by decide +kernel
theorem dX0_add_28 : decode cX0_add 28 = .ok (.getfield 15, 3) := by decide +kernel
theorem dX0_add_31 : decode cX0_add 31 = .ok (.ireturn, 1) := by decide +kernel
theorem dX0_empty_0 : decode cX0_empty 0 = .ok (.aload_n 0, 1) := by decide +kernel
theorem dX0_empty_1 : decode cX0_empty 1 = .ok (.getfield 15, 3) := by decide +kernel
theorem dX0_empty_4 : decode cX0_empty 4 = .ok (.istore_n 1, 1) := by decide +kernel
theorem dX0_empty_5 : decode cX0_empty 5 = .ok (.aload_n 0, 1) := by decide +kernel
theorem dX0_empty_6 : decode cX0_empty 6 = .ok (.iconst 0, 1) := by decide +kernel
theorem dX0_empty_7 : decode cX0_empty 7 = .ok (.putfield 15, 3) := by decide +kernel
theorem dX0_empty_10 : decode cX0_empty 10 = .ok (.iload_n 1, 1) := by decide +kernel
theorem dX0_empty_11 : decode cX0_empty 11 = .ok (.ireturn, 1) := by decide +kernel
theorem dX0_firstWrong_0 : decode cX0_firstWrong 0 = .ok (.iconst 1, 1) := by decide +kernel
theorem dX0_firstWrong_1 : decode cX0_firstWrong 1 = .ok (.istore_n 1, 1) := by decide +kernel
theorem dX0_firstWrong_2 : decode cX0_firstWrong 2 = .ok (.iconst (-1), 1) := by decide +kernel
theorem dX0_firstWrong_3 : decode cX0_firstWrong 3 = .ok (.istore_n 2, 1) := by decide +kernel
theorem dX0_firstWrong_4 : decode cX0_firstWrong 4 = .ok (.iconst 0, 1) := by decide +kernel
theorem dX0_firstWrong_5 : decode cX0_firstWrong 5 = .ok (.istore_n 3, 1) := by decide +kernel
theorem dX0_firstWrong_6 : decode cX0_firstWrong 6 = .ok (.iload_n 3, 1) := by decide +kernel
theorem dX0_firstWrong_7 : decode cX0_firstWrong 7 = .ok (.aload_n 0, 1) := by decide +kernel
theorem dX0_firstWrong_8 : decode cX0_firstWrong 8 = .ok (.getfield 15, 3) := by decide +kernel
theorem dX0_firstWrong_11 : decode cX0_firstWrong 11 = .ok (.if_icmp .ge 92, 3) := by decide +kernel
theorem dX0_firstWrong_14 : decode cX0_firstWrong 14 = .ok (.aload_n 0, 1) := by decide +kernel
theorem dX0_firstWrong_15 : decode cX0_firstWrong 15 = .ok (.getfield 11, 3) := by decide +kernel
theorem dX0_firstWrong_18 : decode cX0_firstWrong 18 = .ok (.iload_n 3, 1) := by decide +kernel
theorem dX0_firstWrong_19 : decode cX0_firstWrong 19 = .ok (.iaload, 1) := by decide +kernel
theorem dX0_firstWrong_20 : decode cX0_firstWrong 20 = .ok (.invokestatic 23, 3) := by decide +kernel
theorem dX0_firstWrong_23 : decode cX0_firstWrong 23 = .ok (.ifCond .eq 42, 3) := by decide +kernel
theorem dX0_firstWrong_26 : decode cX0_firstWrong 26 = .ok (.iload_n 2, 1) := by decide +kernel
theorem dX0_firstWrong_27 : decode cX0_firstWrong 27 = .ok (.ifCond .eq 9, 3) := by decide +kernel
theorem dX0_firstWrong_30 : decode cX0_firstWrong 30 = .ok (.iload_n 2, 1) := by decide +kernel
theorem dX0_firstWrong_31 : decode cX0_firstWrong 31 = .ok (.bipush 9, 2) := by decide +kernel
theorem dX0_firstWrong_33 : decode cX0_firstWrong 33 = .ok (.if_icmp .le 5, 3) := by decide +kernel
theorem dX0_firstWrong_36 : decode cX0_firstWrong 36 = .ok (.iload_n 3, 1) := by decide +kernel
theorem dX0_firstWrong_37 : decode cX0_firstWrong 37 = .ok (.ireturn, 1) := by decide +kernel
theorem dX0_firstWrong_38 : decode cX0_firstWrong 38 = .ok (.aload_n 0, 1) := by decide +kernel
theorem dX0_firstWrong_39 : decode cX0_firstWrong 39 = .ok (.getfield 11, 3) := by decide +kernel
theorem dX0_firstWrong_42 : decode cX0_firstWrong 42 = .ok (.iload_n 3, 1) := by decide +kernel
theorem dX0_firstWrong_43 : decode cX0_firstWrong 43 = .ok (.iaload, 1) := by decide +kernel
theorem dX0_firstWrong_44 : decode cX0_firstWrong 44 = .ok (.bipush 48, 2) := by decide +kernel
theorem dX0_firstWrong_46 : decode cX0_firstWrong 46 = .ok (.isub, 1) := by decide +kernel
theorem dX0_firstWrong_47 : decode cX0_firstWrong 47 = .ok (.iload_n 2, 1) := by decide +kernel
theorem dX0_firstWrong_48 : decode cX0_firstWrong 48 = .ok (.iconst (-1), 1) := by decide +kernel
theorem dX0_firstWrong_49 : decode cX0_firstWrong 49 = .ok (.if_icmp .ne 7, 3) := by decide +kernel
theorem dX0_firstWrong_52 : decode cX0_firstWrong 52 = .ok (.iconst 0, 1) := by decide +kernel
theorem dX0_firstWrong_53 : decode cX0_firstWrong 53 = .ok (.goto 7, 3) := by decide +kernel
theorem dX0_firstWrong_56 : decode cX0_firstWrong 56 = .ok (.bipush 10, 2) := by decide +kernel
theorem dX0_firstWrong_58 : decode cX0_firstWrong 58 = .ok (.iload_n 2, 1) := by decide +kernel
theorem dX0_firstWrong_59 : decode cX0_firstWrong 59 = .ok (.imul, 1) := by decide +kernel
theorem dX0_firstWrong_60 : decode cX0_firstWrong 60 = .ok (.iadd, 1) := by decide +kernel
theorem dX0_firstWrong_61 : decode cX0_firstWrong 61 = .ok (.istore_n 2, 1) := by decide +kernel
theorem dX0_firstWrong_62 : decode cX0_firstWrong 62 = .ok (.goto 35, 3) := by decide +kernel
theorem dX0_firstWrong_65 : decode cX0_firstWrong 65 = .ok (.aload_n 0, 1) := by decide +kernel
theorem dX0_firstWrong_66 : decode cX0_firstWrong 66 = .ok (.getfield 11, 3) := by decide +kernel
theorem dX0_firstWrong_69 : decode cX0_firstWrong 69 = .ok (.iload_n 3, 1) := by decide +kernel
theorem dX0_firstWrong_70 : decode cX0_firstWrong 70 = .ok (.iaload, 1) := by decide +kernel
theorem dX0_firstWrong_71 : decode cX0_firstWrong 71 = .ok (.bipush 44, 2) := by decide +kernel
theorem dX0_firstWrong_73 : decode cX0_firstWrong 73 = .ok (.if_icmp .ne 22, 3) := by decide +kernel
theorem dX0_firstWrong_76 : decode cX0_firstWrong 76 = .ok (.iload_n 2, 1) := by decide +kernel
theorem dX0_firstWrong_77 : decode cX0_firstWrong 77 = .ok (.iconst (-1), 1) := by decide +kernel
theorem dX0_firstWrong_78 : decode cX0_firstWrong 78 = .ok (.if_icmp .eq 17, 3) := by decide +kernel
theorem dX0_firstWrong_81 : decode cX0_firstWrong 81 = .ok (.iload_n 1, 1) := by decide +kernel
theorem dX0_firstWrong_82 : decode cX0_firstWrong 82 = .ok (.bipush 20, 2) := by decide +kernel
theorem dX0_firstWrong_84 : decode cX0_firstWrong 84 = .ok (.if_icmp .ge 11, 3) := by decide +kernel
theorem dX0_firstWrong_87 : decode cX0_firstWrong 87 = .ok (.iinc 1 1, 3) := by decide +kernel
theorem dX0_firstWrong_90 : decode cX0_firstWrong 90 = .ok (.iconst (-1), 1) := by decide +kernel
theorem dX0_firstWrong_91 : decode cX0_firstWrong 91 = .ok (.istore_n 2, 1) := by decide +kernel
theorem dX0_firstWrong_92 : decode cX0_firstWrong 92 = .ok (.goto 5, 3) := by decide +kernel
theorem dX0_firstWrong_95 : decode cX0_firstWrong 95 = .ok (.iload_n 3, 1) := by decide +kernel
theorem dX0_firstWrong_96 : decode cX0_firstWrong 96 = .ok (.ireturn, 1) := by decide +kernel
theorem dX0_firstWrong_97 : decode cX0_firstWrong 97 = .ok (.iinc 3 1, 3) := by decide +kernel
theorem dX0_firstWrong_100 : decode cX0_firstWrong 100 = .ok (.goto (-94), 3) := by decide +kernel
theorem dX0_firstWrong_103 : decode cX0_firstWrong 103 = .ok (.aload_n 0, 1) := by decide +kernel
theorem dX0_firstWrong_104 : decode cX0_firstWrong 104 = .ok (.getfield 15, 3) := by decide +kernel
theorem dX0_firstWrong_107 : decode cX0_firstWrong 107 = .ok (.ireturn, 1) := by decide +kernel
theorem dX0_isComplete_0 : decode cX0_isComplete 0 = .ok (.aload_n 0, 1) := by decide +kernel
theorem dX0_isComplete_1 : decode cX0_isComplete 1 = .ok (.getfield 15, 3) := by decide +kernel
theorem dX0_isComplete_4 : decode cX0_isComplete 4 = .ok (.ifCond .le 34, 3) := by decide +kernel
theorem dX0_isComplete_7 : decode cX0_isComplete 7 = .ok (.aload_n 0, 1) := by decide +kernel
theorem dX0_isComplete_8 : decode cX0_isComplete 8 = .ok (.getfield 11, 3) := by decide +kernel
theorem dX0_isComplete_11 : decode cX0_isComplete 11 = .ok (.aload_n 0, 1) := by decide +kernel
theorem dX0_isComplete_12 : decode cX0_isComplete 12 = .ok (.getfield 15, 3) := by decide +kernel
theorem dX0_isComplete_15 : decode cX0_isComplete 15 = .ok (.iconst 1, 1) := by decide +kernel
theorem dX0_isComplete_16 : decode cX0_isComplete 16 = .ok (.isub, 1) := by decide +kernel
theorem dX0_isComplete_17 : decode cX0_isComplete 17 = .ok (.iaload, 1) := by decide +kernel
theorem dX0_isComplete_18 : decode cX0_isComplete 18 = .ok (.bipush 44, 2) := by decide +kernel
theorem dX0_isComplete_20 : decode cX0_isComplete 20 = .ok (.if_icmp .eq 18, 3) := by decide +kernel
theorem dX0_isComplete_23 : decode cX0_isComplete 23 = .ok (.aload_n 0, 1) := by decide +kernel
theorem dX0_isComplete_24 : decode cX0_isComplete 24 = .ok (.invokevirtual 27, 3) := by decide +kernel
theorem dX0_isComplete_27 : decode cX0_isComplete 27 = .ok (.aload_n 0, 1) := by decide +kernel
theorem dX0_isComplete_28 : decode cX0_isComplete 28 = .ok (.getfield 15, 3) := by decide +kernel
theorem dX0_isComplete_31 : decode cX0_isComplete 31 = .ok (.if_icmp .ne 7, 3) := by decide +kernel
theorem dX0_isComplete_34 : decode cX0_isComplete 34 = .ok (.iconst 1, 1) := by decide +kernel
theorem dX0_isComplete_35 : decode cX0_isComplete 35 = .ok (.goto 4, 3) := by decide +kernel
theorem dX0_isComplete_38 : decode cX0_isComplete 38 = .ok (.iconst 0, 1) := by decide +kernel
theorem dX0_isComplete_39 : decode cX0_isComplete 39 = .ok (.ireturn, 1) := by decide +kernel
theorem dX0_readInto_0 : decode cX0_readInto 0 = .ok (.aload_n 1, 1) := by decide +kernel
theorem dX0_readInto_1 : decode cX0_readInto 1 = .ok (.iconst 0, 1) := by decide +kernel
theorem dX0_readInto_2 : decode cX0_readInto 2 = .ok (.invokestatic 31, 3) := by decide +kernel
theorem dX0_readInto_5 : decode cX0_readInto 5 = .ok (.iconst 0, 1) := by decide +kernel
theorem dX0_readInto_6 : decode cX0_readInto 6 = .ok (.istore_n 2, 1) := by decide +kernel
theorem dX0_readInto_7 : decode cX0_readInto 7 = .ok (.iconst 0, 1) := by decide +kernel
theorem dX0_readInto_8 : decode cX0_readInto 8 = .ok (.istore_n 3, 1) := by decide +kernel
theorem dX0_readInto_9 : decode cX0_readInto 9 = .ok (.iload_n 3, 1) := by decide +kernel
theorem dX0_readInto_10 : decode cX0_readInto 10 = .ok (.aload_n 0, 1) := by decide +kernel
theorem dX0_readInto_11 : decode cX0_readInto 11 = .ok (.getfield 15, 3) := by decide +kernel
theorem dX0_readInto_14 : decode cX0_readInto 14 = .ok (.if_icmp .ge 51, 3) := by decide +kernel
theorem dX0_readInto_17 : decode cX0_readInto 17 = .ok (.iload_n 2, 1) := by decide +kernel
theorem dX0_readInto_18 : decode cX0_readInto 18 = .ok (.aload_n 1, 1) := by decide +kernel
theorem dX0_readInto_19 : decode cX0_readInto 19 = .ok (.arraylength, 1) := by decide +kernel
theorem dX0_readInto_20 : decode cX0_readInto 20 = .ok (.if_icmp .ge 45, 3) := by decide +kernel
theorem dX0_readInto_23 : decode cX0_readInto 23 = .ok (.aload_n 0, 1) := by decide +kernel
theorem dX0_readInto_24 : decode cX0_readInto 24 = .ok (.getfield 11, 3) := by decide +kernel
theorem dX0_readInto_27 : decode cX0_readInto 27 = .ok (.iload_n 3, 1) := by decide +kernel
theorem dX0_readInto_28 : decode cX0_readInto 28 = .ok (.iaload, 1) := by decide +kernel
theorem dX0_readInto_29 : decode cX0_readInto 29 = .ok (.bipush 44, 2) := by decide +kernel
theorem dX0_readInto_31 : decode cX0_readInto 31 = .ok (.if_icmp .ne 9, 3) := by decide +kernel
theorem dX0_readInto_34 : decode cX0_readInto 34 = .ok (.iinc 2 1, 3) := by decide +kernel
theorem dX0_readInto_37 : decode cX0_readInto 37 = .ok (.goto 22, 3) := by decide +kernel
theorem dX0_readInto_40 : decode cX0_readInto 40 = .ok (.aload_n 1, 1) := by decide +kernel
theorem dX0_readInto_41 : decode cX0_readInto 41 = .ok (.iload_n 2, 1) := by decide +kernel
theorem dX0_readInto_42 : decode cX0_readInto 42 = .ok (.bipush 10, 2) := by decide +kernel
theorem dX0_readInto_44 : decode cX0_readInto 44 = .ok (.aload_n 1, 1) := by decide +kernel
theorem dX0_readInto_45 : decode cX0_readInto 45 = .ok (.iload_n 2, 1) := by decide +kernel
theorem dX0_readInto_46 : decode cX0_readInto 46 = .ok (.iaload, 1) := by decide +kernel
theorem dX0_readInto_47 : decode cX0_readInto 47 = .ok (.imul, 1) := by decide +kernel
theorem dX0_readInto_48 : decode cX0_readInto 48 = .ok (.aload_n 0, 1) := by decide +kernel
theorem dX0_readInto_49 : decode cX0_readInto 49 = .ok (.getfield 11, 3) := by decide +kernel
theorem dX0_readInto_52 : decode cX0_readInto 52 = .ok (.iload_n 3, 1) := by decide +kernel
theorem dX0_readInto_53 : decode cX0_readInto 53 = .ok (.iaload, 1) := by decide +kernel
theorem dX0_readInto_54 : decode cX0_readInto 54 = .ok (.bipush 48, 2) := by decide +kernel
theorem dX0_readInto_56 : decode cX0_readInto 56 = .ok (.isub, 1) := by decide +kernel
theorem dX0_readInto_57 : decode cX0_readInto 57 = .ok (.iadd, 1) := by decide +kernel
theorem dX0_readInto_58 : decode cX0_readInto 58 = .ok (.iastore, 1) := by decide +kernel
theorem dX0_readInto_59 : decode cX0_readInto 59 = .ok (.iinc 3 1, 3) := by decide +kernel
theorem dX0_readInto_62 : decode cX0_readInto 62 = .ok (.goto (-53), 3) := by decide +kernel
theorem dX0_readInto_65 : decode cX0_readInto 65 = .ok (.iload_n 2, 1) := by decide +kernel
theorem dX0_readInto_66 : decode cX0_readInto 66 = .ok (.iconst 1, 1) := by decide +kernel
theorem dX0_readInto_67 : decode cX0_readInto 67 = .ok (.iadd, 1) := by decide +kernel
theorem dX0_readInto_68 : decode cX0_readInto 68 = .ok (.aload_n 1, 1) := by decide +kernel
theorem dX0_readInto_69 : decode cX0_readInto 69 = .ok (.arraylength, 1) := by decide +kernel
theorem dX0_readInto_70 : decode cX0_readInto 70 = .ok (.invokestatic 37, 3) := by decide +kernel
theorem dX0_readInto_73 : decode cX0_readInto 73 = .ok (.ireturn, 1) := by decide +kernel
theorem dX0_isDigit_0 : decode cX0_isDigit 0 = .ok (.iload_n 0, 1) := by decide +kernel
theorem dX0_isDigit_1 : decode cX0_isDigit 1 = .ok (.bipush 48, 2) := by decide +kernel
theorem dX0_isDigit_3 : decode cX0_isDigit 3 = .ok (.if_icmp .lt 13, 3) := by decide +kernel
theorem dX0_isDigit_6 : decode cX0_isDigit 6 = .ok (.iload_n 0, 1) := by decide +kernel
theorem dX0_isDigit_7 : decode cX0_isDigit 7 = .ok (.bipush 57, 2) := by decide +kernel
theorem dX0_isDigit_9 : decode cX0_isDigit 9 = .ok (.if_icmp .gt 7, 3) := by decide +kernel
theorem dX0_isDigit_12 : decode cX0_isDigit 12 = .ok (.iconst 1, 1) := by decide +kernel
theorem dX0_isDigit_13 : decode cX0_isDigit 13 = .ok (.goto 4, 3) := by decide +kernel
theorem dX0_isDigit_16 : decode cX0_isDigit 16 = .ok (.iconst 0, 1) := by decide +kernel
theorem dX0_isDigit_17 : decode cX0_isDigit 17 = .ok (.ireturn, 1) := by decide +kernel
theorem dX2_init_0 : decode cX2_init 0 = .ok (.aload_n 0, 1) := by decide +kernel
theorem dX2_init_1 : decode cX2_init 1 = .ok (.invokespecial 3, 3) := by decide +kernel
theorem dX2_init_4 : decode cX2_init 4 = .ok (.aload_n 0, 1) := by decide +kernel
theorem dX2_init_5 : decode cX2_init 5 = .ok (.bipush 20, 2) := by decide +kernel
theorem dX2_init_7 : decode cX2_init 7 = .ok (.newarray .int, 2) := by decide +kernel
theorem dX2_init_9 : decode cX2_init 9 = .ok (.putfield 9, 3) := by decide +kernel
theorem dX2_init_12 : decode cX2_init 12 = .ok (.aload_n 0, 1) := by decide +kernel
theorem dX2_init_13 : decode cX2_init 13 = .ok (.iconst 1, 1) := by decide +kernel
theorem dX2_init_14 : decode cX2_init 14 = .ok (.putfield 15, 3) := by decide +kernel
theorem dX2_init_17 : decode cX2_init 17 = .ok (.aload_n 0, 1) := by decide +kernel
theorem dX2_init_18 : decode cX2_init 18 = .ok (.iconst 0, 1) := by decide +kernel
theorem dX2_init_19 : decode cX2_init 19 = .ok (.putfield 19, 3) := by decide +kernel
theorem dX2_init_22 : decode cX2_init 22 = .ok (.aload_n 0, 1) := by decide +kernel
theorem dX2_init_23 : decode cX2_init 23 = .ok (.getfield 9, 3) := by decide +kernel
theorem dX2_init_26 : decode cX2_init 26 = .ok (.iconst 0, 1) := by decide +kernel
theorem dX2_init_27 : decode cX2_init 27 = .ok (.iconst 5, 1) := by decide +kernel
theorem dX2_init_28 : decode cX2_init 28 = .ok (.iastore, 1) := by decide +kernel
theorem dX2_init_29 : decode cX2_init 29 = .ok (.return_, 1) := by decide +kernel
theorem dX2_copyFrom_0 : decode cX2_copyFrom 0 = .ok (.aload_n 1, 1) := by decide +kernel
theorem dX2_copyFrom_1 : decode cX2_copyFrom 1 = .ok (.getfield 9, 3) := by decide +kernel
theorem dX2_copyFrom_4 : decode cX2_copyFrom 4 = .ok (.iconst 0, 1) := by decide +kernel
theorem dX2_copyFrom_5 : decode cX2_copyFrom 5 = .ok (.aload_n 0, 1) := by decide +kernel
theorem dX2_copyFrom_6 : decode cX2_copyFrom 6 = .ok (.getfield 9, 3) := by decide +kernel
theorem dX2_copyFrom_9 : decode cX2_copyFrom 9 = .ok (.iconst 0, 1) := by decide +kernel
theorem dX2_copyFrom_10 : decode cX2_copyFrom 10 = .ok (.bipush 20, 2) := by decide +kernel
theorem dX2_copyFrom_12 : decode cX2_copyFrom 12 = .ok (.invokestatic 22, 3) := by decide +kernel
theorem dX2_copyFrom_15 : decode cX2_copyFrom 15 = .ok (.aload_n 0, 1) := by decide +kernel
theorem dX2_copyFrom_16 : decode cX2_copyFrom 16 = .ok (.aload_n 1, 1) := by decide +kernel
theorem dX2_copyFrom_17 : decode cX2_copyFrom 17 = .ok (.getfield 15, 3) := by decide +kernel
theorem dX2_copyFrom_20 : decode cX2_copyFrom 20 = .ok (.putfield 15, 3) := by decide +kernel
theorem dX2_copyFrom_23 : decode cX2_copyFrom 23 = .ok (.aload_n 0, 1) := by decide +kernel
theorem dX2_copyFrom_24 : decode cX2_copyFrom 24 = .ok (.aload_n 1, 1) := by decide +kernel
theorem dX2_copyFrom_25 : decode cX2_copyFrom 25 = .ok (.getfield 28, 3) := by decide +kernel
theorem dX2_copyFrom_28 : decode cX2_copyFrom 28 = .ok (.putfield 28, 3) := by decide +kernel
theorem dX2_copyFrom_31 : decode cX2_copyFrom 31 = .ok (.aload_n 0, 1) := by decide +kernel
theorem dX2_copyFrom_32 : decode cX2_copyFrom 32 = .ok (.aload_n 1, 1) := by decide +kernel
theorem dX2_copyFrom_33 : decode cX2_copyFrom 33 = .ok (.getfield 19, 3) := by decide +kernel
theorem dX2_copyFrom_36 : decode cX2_copyFrom 36 = .ok (.putfield 19, 3) := by decide +kernel
theorem dX2_copyFrom_39 : decode cX2_copyFrom 39 = .ok (.aload_n 0, 1) := by decide +kernel
theorem dX2_copyFrom_40 : decode cX2_copyFrom 40 = .ok (.aload_n 1, 1) := by decide +kernel
theorem dX2_copyFrom_41 : decode cX2_copyFrom 41 = .ok (.getfield 31, 3) := by decide +kernel
theorem dX2_copyFrom_44 : decode cX2_copyFrom 44 = .ok (.putfield 31, 3) := by decide +kernel
theorem dX2_copyFrom_47 : decode cX2_copyFrom 47 = .ok (.aload_n 0, 1) := by decide +kernel
theorem dX2_copyFrom_48 : decode cX2_copyFrom 48 = .ok (.aload_n 1, 1) := by decide +kernel
theorem dX2_copyFrom_49 : decode cX2_copyFrom 49 = .ok (.getfield 34, 3) := by decide +kernel
theorem dX2_copyFrom_52 : decode cX2_copyFrom 52 = .ok (.putfield 34, 3) := by decide +kernel
theorem dX2_copyFrom_55 : decode cX2_copyFrom 55 = .ok (.aload_n 0, 1) := by decide +kernel
theorem dX2_copyFrom_56 : decode cX2_copyFrom 56 = .ok (.aload_n 1, 1) := by decide +kernel
theorem dX2_copyFrom_57 : decode cX2_copyFrom 57 = .ok (.getfield 37, 3) := by decide +kernel
theorem dX2_copyFrom_60 : decode cX2_copyFrom 60 = .ok (.putfield 37, 3) := by decide +kernel
theorem dX2_copyFrom_63 : decode cX2_copyFrom 63 = .ok (.aload_n 0, 1) := by decide +kernel
theorem dX2_copyFrom_64 : decode cX2_copyFrom 64 = .ok (.aload_n 1, 1) := by decide +kernel
theorem dX2_copyFrom_65 : decode cX2_copyFrom 65 = .ok (.getfield 40, 3) := by decide +kernel
theorem dX2_copyFrom_68 : decode cX2_copyFrom 68 = .ok (.putfield 40, 3) := by decide +kernel
theorem dX2_copyFrom_71 : decode cX2_copyFrom 71 = .ok (.aload_n 0, 1) := by decide +kernel
theorem dX2_copyFrom_72 : decode cX2_copyFrom 72 = .ok (.aload_n 1, 1) := by decide +kernel
theorem dX2_copyFrom_73 : decode cX2_copyFrom 73 = .ok (.getfield 43, 3) := by decide +kernel
theorem dX2_copyFrom_76 : decode cX2_copyFrom 76 = .ok (.putfield 43, 3) := by decide +kernel
theorem dX2_copyFrom_79 : decode cX2_copyFrom 79 = .ok (.aload_n 0, 1) := by decide +kernel
theorem dX2_copyFrom_80 : decode cX2_copyFrom 80 = .ok (.aload_n 1, 1) := by decide +kernel
theorem dX2_copyFrom_81 : decode cX2_copyFrom 81 = .ok (.getfield 46, 3) := by decide +kernel
theorem dX2_copyFrom_84 : decode cX2_copyFrom 84 = .ok (.putfield 46, 3) := by decide +kernel
theorem dX2_copyFrom_87 : decode cX2_copyFrom 87 = .ok (.aload_n 0, 1) := by decide +kernel
theorem dX2_copyFrom_88 : decode cX2_copyFrom 88 = .ok (.aload_n 1, 1) := by decide +kernel
theorem dX2_copyFrom_89 : decode cX2_copyFrom 89 = .ok (.getfield 49, 3) := by decide +kernel
theorem dX2_copyFrom_92 : decode cX2_copyFrom 92 = .ok (.putfield 49, 3) := by decide +kernel
theorem dX2_copyFrom_95 : decode cX2_copyFrom 95 = .ok (.aload_n 0, 1) := by decide +kernel
theorem dX2_copyFrom_96 : decode cX2_copyFrom 96 = .ok (.aload_n 1, 1) := by decide +kernel
theorem dX2_copyFrom_97 : decode cX2_copyFrom 97 = .ok (.getfield 52, 3) := by decide +kernel
theorem dX2_copyFrom_100 : decode cX2_copyFrom 100 = .ok (.putfield 52, 3) := by decide +kernel
theorem dX2_copyFrom_103 : decode cX2_copyFrom 103 = .ok (.aload_n 0, 1) := by decide +kernel
theorem dX2_copyFrom_104 : decode cX2_copyFrom 104 = .ok (.aload_n 1, 1) := by decide +kernel
theorem dX2_copyFrom_105 : decode cX2_copyFrom 105 = .ok (.getfield 55, 3) := by decide +kernel
theorem dX2_copyFrom_108 : decode cX2_copyFrom 108 = .ok (.putfield 55, 3) := by decide +kernel
theorem dX2_copyFrom_111 : decode cX2_copyFrom 111 = .ok (.aload_n 0, 1) := by decide +kernel
theorem dX2_copyFrom_112 : decode cX2_copyFrom 112 = .ok (.aload_n 1, 1) := by decide +kernel
theorem dX2_copyFrom_113 : decode cX2_copyFrom 113 = .ok (.getfield 58, 3) := by decide +kernel
theorem dX2_copyFrom_116 : decode cX2_copyFrom 116 = .ok (.putfield 58, 3) := by decide +kernel
theorem dX2_copyFrom_119 : decode cX2_copyFrom 119 = .ok (.return_, 1) := by decide +kernel
theorem dX2_takeRow_0 : decode cX2_takeRow 0 = .ok (.aload_n 0, 1) := by decide +kernel
theorem dX2_takeRow_1 : decode cX2_takeRow 1 = .ok (.getfield 15, 3) := by decide +kernel
theorem dX2_takeRow_4 : decode cX2_takeRow 4 = .ok (.istore_n 2, 1) := by decide +kernel
theorem dX2_takeRow_5 : decode cX2_takeRow 5 = .ok (.aload_n 0, 1) := by decide +kernel
theorem dX2_takeRow_6 : decode cX2_takeRow 6 = .ok (.aload_n 1, 1) := by decide +kernel
theorem dX2_takeRow_7 : decode cX2_takeRow 7 = .ok (.aload_n 0, 1) := by decide +kernel
theorem dX2_takeRow_8 : decode cX2_takeRow 8 = .ok (.getfield 9, 3) := by decide +kernel
theorem dX2_takeRow_11 : decode cX2_takeRow 11 = .ok (.invokevirtual 61, 3) := by decide +kernel
theorem dX2_takeRow_14 : decode cX2_takeRow 14 = .ok (.putfield 15, 3) := by decide +kernel
theorem dX2_takeRow_17 : decode cX2_takeRow 17 = .ok (.aload_n 0, 1) := by decide +kernel
theorem dX2_takeRow_18 : decode cX2_takeRow 18 = .ok (.iconst 0, 1) := by decide +kernel
theorem dX2_takeRow_19 : decode cX2_takeRow 19 = .ok (.putfield 28, 3) := by decide +kernel
theorem dX2_takeRow_22 : decode cX2_takeRow 22 = .ok (.iload_n 2, 1) := by decide +kernel
theorem dX2_takeRow_23 : decode cX2_takeRow 23 = .ok (.ireturn, 1) := by decide +kernel
theorem dX2_takeDelay_0 : decode cX2_takeDelay 0 = .ok (.aload_n 0, 1) := by decide +kernel
theorem dX2_takeDelay_1 : decode cX2_takeDelay 1 = .ok (.invokevirtual 67, 3) := by decide +kernel
theorem dX2_takeDelay_4 : decode cX2_takeDelay 4 = .ok (.istore_n 1, 1) := by decide +kernel
theorem dX2_takeDelay_5 : decode cX2_takeDelay 5 = .ok (.aload_n 0, 1) := by decide +kernel
theorem dX2_takeDelay_6 : decode cX2_takeDelay 6 = .ok (.iload_n 1, 1) := by decide +kernel
theorem dX2_takeDelay_7 : decode cX2_takeDelay 7 = .ok (.iconst 1, 1) := by decide +kernel
theorem dX2_takeDelay_8 : decode cX2_takeDelay 8 = .ok (.iadd, 1) := by decide +kernel
theorem dX2_takeDelay_9 : decode cX2_takeDelay 9 = .ok (.putfield 28, 3) := by decide +kernel
theorem dX2_takeDelay_12 : decode cX2_takeDelay 12 = .ok (.aload_n 0, 1) := by decide +kernel
theorem dX2_takeDelay_13 : decode cX2_takeDelay 13 = .ok (.getfield 9, 3) := by decide +kernel
theorem dX2_takeDelay_16 : decode cX2_takeDelay 16 = .ok (.iload_n 1, 1) := by decide +kernel
theorem dX2_takeDelay_17 : decode cX2_takeDelay 17 = .ok (.iaload, 1) := by decide +kernel
theorem dX2_takeDelay_18 : decode cX2_takeDelay 18 = .ok (.ireturn, 1) := by decide +kernel
theorem dX2_nextPlace_0 : decode cX2_nextPlace 0 = .ok (.aload_n 0, 1) := by decide +kernel
theorem dX2_nextPlace_1 : decode cX2_nextPlace 1 = .ok (.getfield 28, 3) := by decide +kernel
theorem dX2_nextPlace_4 : decode cX2_nextPlace 4 = .ok (.aload_n 0, 1) := by decide +kernel
theorem dX2_nextPlace_5 : decode cX2_nextPlace 5 = .ok (.getfield 15, 3) := by decide +kernel
theorem dX2_nextPlace_8 : decode cX2_nextPlace 8 = .ok (.if_icmp .ge 10, 3) := by decide +kernel
theorem dX2_nextPlace_11 : decode cX2_nextPlace 11 = .ok (.aload_n 0, 1) := by decide +kernel
theorem dX2_nextPlace_12 : decode cX2_nextPlace 12 = .ok (.getfield 28, 3) := by decide +kernel
theorem dX2_nextPlace_15 : decode cX2_nextPlace 15 = .ok (.goto 4, 3) := by decide +kernel
theorem dX2_nextPlace_18 : decode cX2_nextPlace 18 = .ok (.iconst 0, 1) := by decide +kernel
theorem dX2_nextPlace_19 : decode cX2_nextPlace 19 = .ok (.ireturn, 1) := by decide +kernel
theorem dX2_windowSize_0 : decode cX2_windowSize 0 = .ok (.aload_n 0, 1) := by decide +kernel
theorem dX2_windowSize_1 : decode cX2_windowSize 1 = .ok (.getfield 19, 3) := by decide +kernel
theorem dX2_windowSize_4 : decode cX2_windowSize 4 = .ok (.ifCond .ne 14, 3) := by decide +kernel
theorem dX2_windowSize_7 : decode cX2_windowSize 7 = .ok (.aload_n 0, 1) := by decide +kernel
theorem dX2_windowSize_8 : decode cX2_windowSize 8 = .ok (.getfield 43, 3) := by decide +kernel
theorem dX2_windowSize_11 : decode cX2_windowSize 11 = .ok (.iload_n 1, 1) := by decide +kernel
theorem dX2_windowSize_12 : decode cX2_windowSize 12 = .ok (.invokestatic 71, 3) := by decide +kernel
theorem dX2_windowSize_15 : decode cX2_windowSize 15 = .ok (.goto 4, 3) := by decide +kernel
theorem dX2_windowSize_18 : decode cX2_windowSize 18 = .ok (.iconst 0, 1) := by decide +kernel
theorem dX2_windowSize_19 : decode cX2_windowSize 19 = .ok (.ireturn, 1) := by decide +kernel
theorem dX2_badInWindow_0 : decode cX2_badInWindow 0 = .ok (.aload_n 0, 1) := by decide +kernel
theorem dX2_badInWindow_1 : decode cX2_badInWindow 1 = .ok (.getfield 19, 3) := by decide +kernel
theorem dX2_badInWindow_4 : decode cX2_badInWindow 4 = .ok (.ifCond .ne 19, 3) := by decide +kernel
theorem dX2_badInWindow_7 : decode cX2_badInWindow 7 = .ok (.aload_n 0, 1) := by decide +kernel
theorem dX2_badInWindow_8 : decode cX2_badInWindow 8 = .ok (.getfield 40, 3) := by decide +kernel
theorem dX2_badInWindow_11 : decode cX2_badInWindow 11 = .ok (.iconst 1, 1) := by decide +kernel
theorem dX2_badInWindow_12 : decode cX2_badInWindow 12 = .ok (.iload_n 1, 1) := by decide +kernel
theorem dX2_badInWindow_13 : decode cX2_badInWindow 13 = .ok (.ishl, 1) := by decide +kernel
theorem dX2_badInWindow_14 : decode cX2_badInWindow 14 = .ok (.iconst 1, 1) := by decide +kernel
theorem dX2_badInWindow_15 : decode cX2_badInWindow 15 = .ok (.isub, 1) := by decide +kernel
theorem dX2_badInWindow_16 : decode cX2_badInWindow 16 = .ok (.iand, 1) := by decide +kernel
theorem dX2_badInWindow_17 : decode cX2_badInWindow 17 = .ok (.invokestatic 77, 3) := by decide +kernel
theorem dX2_badInWindow_20 : decode cX2_badInWindow 20 = .ok (.goto 4, 3) := by decide +kernel
theorem dX2_badInWindow_23 : decode cX2_badInWindow 23 = .ok (.iconst 0, 1) := by decide +kernel
theorem dX2_badInWindow_24 : decode cX2_badInWindow 24 = .ok (.ireturn, 1) := by decide +kernel
theorem dX2_noteOutcome_0 : decode cX2_noteOutcome 0 = .ok (.aload_n 0, 1) := by decide +kernel
theorem dX2_noteOutcome_1 : decode cX2_noteOutcome 1 = .ok (.aload_n 0, 1) := by decide +kernel
theorem dX2_noteOutcome_2 : decode cX2_noteOutcome 2 = .ok (.getfield 40, 3) := by decide +kernel
theorem dX2_noteOutcome_5 : decode cX2_noteOutcome 5 = .ok (.iconst 1, 1) := by decide +kernel
theorem dX2_noteOutcome_6 : decode cX2_noteOutcome 6 = .ok (.ishl, 1) := by decide +kernel
theorem dX2_noteOutcome_7 : decode cX2_noteOutcome 7 = .ok (.iload_n 1, 1) := by decide +kernel
theorem dX2_noteOutcome_8 : decode cX2_noteOutcome 8 = .ok (.ifCond .eq 7, 3) := by decide +kernel
theorem dX2_noteOutcome_11 : decode cX2_noteOutcome 11 = .ok (.iconst 1, 1) := by decide +kernel
theorem dX2_noteOutcome_12 : decode cX2_noteOutcome 12 = .ok (.goto 4, 3) := by decide +kernel
theorem dX2_noteOutcome_15 : decode cX2_noteOutcome 15 = .ok (.iconst 0, 1) := by decide +kernel
theorem dX2_noteOutcome_16 : decode cX2_noteOutcome 16 = .ok (.ior, 1) := by decide +kernel
theorem dX2_noteOutcome_17 : decode cX2_noteOutcome 17 = .ok (.ldc 83, 2) := by decide +kernel
theorem dX2_noteOutcome_19 : decode cX2_noteOutcome 19 = .ok (.iand, 1) := by decide +kernel
theorem dX2_noteOutcome_20 : decode cX2_noteOutcome 20 = .ok (.putfield 40, 3) := by decide +kernel
theorem dX2_noteOutcome_23 : decode cX2_noteOutcome 23 = .ok (.aload_n 0, 1) := by decide +kernel
theorem dX2_noteOutcome_24 : decode cX2_noteOutcome 24 = .ok (.aload_n 0, 1) := by decide +kernel
theorem dX2_noteOutcome_25 : decode cX2_noteOutcome 25 = .ok (.getfield 43, 3) := by decide +kernel
theorem dX2_noteOutcome_28 : decode cX2_noteOutcome 28 = .ok (.iconst 1, 1) := by decide +kernel
theorem dX2_noteOutcome_29 : decode cX2_noteOutcome 29 = .ok (.iadd, 1) := by decide +kernel
theorem dX2_noteOutcome_30 : decode cX2_noteOutcome 30 = .ok (.bipush 16, 2) := by decide +kernel
theorem dX2_noteOutcome_32 : decode cX2_noteOutcome 32 = .ok (.invokestatic 71, 3) := by decide +kernel
theorem dX2_noteOutcome_35 : decode cX2_noteOutcome 35 = .ok (.putfield 43, 3) := by decide +kernel
theorem dX2_noteOutcome_38 : decode cX2_noteOutcome 38 = .ok (.return_, 1) := by decide +kernel
theorem dX2_shut_0 : decode cX2_shut 0 = .ok (.aload_n 0, 1) := by decide +kernel
theorem dX2_shut_1 : decode cX2_shut 1 = .ok (.iconst 0, 1) := by decide +kernel
theorem dX2_shut_2 : decode cX2_shut 2 = .ok (.putfield 19, 3) := by decide +kernel
theorem dX2_shut_5 : decode cX2_shut 5 = .ok (.aload_n 0, 1) := by decide +kernel
theorem dX2_shut_6 : decode cX2_shut 6 = .ok (.iconst 0, 1) := by decide +kernel
theorem dX2_shut_7 : decode cX2_shut 7 = .ok (.putfield 31, 3) := by decide +kernel
theorem dX2_shut_10 : decode cX2_shut 10 = .ok (.aload_n 0, 1) := by decide +kernel
theorem dX2_shut_11 : decode cX2_shut 11 = .ok (.iconst 0, 1) := by decide +kernel
theorem dX2_shut_12 : decode cX2_shut 12 = .ok (.putfield 34, 3) := by decide +kernel
theorem dX2_shut_15 : decode cX2_shut 15 = .ok (.aload_n 0, 1) := by decide +kernel
theorem dX2_shut_16 : decode cX2_shut 16 = .ok (.dup, 1) := by decide +kernel
theorem dX2_shut_17 : decode cX2_shut 17 = .ok (.getfield 37, 3) := by decide +kernel
theorem dX2_shut_20 : decode cX2_shut 20 = .ok (.iconst 1, 1) := by decide +kernel
theorem dX2_shut_21 : decode cX2_shut 21 = .ok (.iadd, 1) := by decide +kernel
theorem dX2_shut_22 : decode cX2_shut 22 = .ok (.putfield 37, 3) := by decide +kernel
theorem dX2_shut_25 : decode cX2_shut 25 = .ok (.aload_n 0, 1) := by decide +kernel
theorem dX2_shut_26 : decode cX2_shut 26 = .ok (.iconst 0, 1) := by decide +kernel
theorem dX2_shut_27 : decode cX2_shut 27 = .ok (.putfield 40, 3) := by decide +kernel
theorem dX2_shut_30 : decode cX2_shut 30 = .ok (.aload_n 0, 1) := by decide +kernel
theorem dX2_shut_31 : decode cX2_shut 31 = .ok (.iconst 0, 1) := by decide +kernel
theorem dX2_shut_32 : decode cX2_shut 32 = .ok (.putfield 43, 3) := by decide +kernel
theorem dX2_shut_35 : decode cX2_shut 35 = .ok (.return_, 1) := by decide +kernel
theorem dX2_cutOff_0 : decode cX2_cutOff 0 = .ok (.aload_n 0, 1) := by decide +kernel
theorem dX2_cutOff_1 : decode cX2_cutOff 1 = .ok (.iconst 1, 1) := by decide +kernel
theorem dX2_cutOff_2 : decode cX2_cutOff 2 = .ok (.putfield 19, 3) := by decide +kernel
theorem dX2_cutOff_5 : decode cX2_cutOff 5 = .ok (.aload_n 0, 1) := by decide +kernel
theorem dX2_cutOff_6 : decode cX2_cutOff 6 = .ok (.iload_n 1, 1) := by decide +kernel
theorem dX2_cutOff_7 : decode cX2_cutOff 7 = .ok (.putfield 31, 3) := by decide +kernel
theorem dX2_cutOff_10 : decode cX2_cutOff 10 = .ok (.aload_n 0, 1) := by decide +kernel
theorem dX2_cutOff_11 : decode cX2_cutOff 11 = .ok (.iload_n 1, 1) := by decide +kernel
theorem dX2_cutOff_12 : decode cX2_cutOff 12 = .ok (.putfield 34, 3) := by decide +kernel
theorem dX2_cutOff_15 : decode cX2_cutOff 15 = .ok (.aload_n 0, 1) := by decide +kernel
theorem dX2_cutOff_16 : decode cX2_cutOff 16 = .ok (.dup, 1) := by decide +kernel
theorem dX2_cutOff_17 : decode cX2_cutOff 17 = .ok (.getfield 58, 3) := by decide +kernel
theorem dX2_cutOff_20 : decode cX2_cutOff 20 = .ok (.iconst 1, 1) := by decide +kernel
theorem dX2_cutOff_21 : decode cX2_cutOff 21 = .ok (.iadd, 1) := by decide +kernel
theorem dX2_cutOff_22 : decode cX2_cutOff 22 = .ok (.putfield 58, 3) := by decide +kernel
theorem dX2_cutOff_25 : decode cX2_cutOff 25 = .ok (.return_, 1) := by decide +kernel
theorem dX2_waitATick_0 : decode cX2_waitATick 0 = .ok (.aload_n 0, 1) := by decide +kernel
theorem dX2_waitATick_1 : decode cX2_waitATick 1 = .ok (.getfield 19, 3) := by decide +kernel
theorem dX2_waitATick_4 : decode cX2_waitATick 4 = .ok (.iconst 1, 1) := by decide +kernel
theorem dX2_waitATick_5 : decode cX2_waitATick 5 = .ok (.if_icmp .eq 4, 3) := by decide +kernel
theorem dX2_waitATick_8 : decode cX2_waitATick 8 = .ok (.return_, 1) := by decide +kernel
theorem dX2_waitATick_9 : decode cX2_waitATick 9 = .ok (.aload_n 0, 1) := by decide +kernel
theorem dX2_waitATick_10 : decode cX2_waitATick 10 = .ok (.dup, 1) := by decide +kernel
theorem dX2_waitATick_11 : decode cX2_waitATick 11 = .ok (.getfield 31, 3) := by decide +kernel
theorem dX2_waitATick_14 : decode cX2_waitATick 14 = .ok (.iconst 1, 1) := by decide +kernel
theorem dX2_waitATick_15 : decode cX2_waitATick 15 = .ok (.isub, 1) := by decide +kernel
theorem dX2_waitATick_16 : decode cX2_waitATick 16 = .ok (.putfield 31, 3) := by decide +kernel
theorem dX2_waitATick_19 : decode cX2_waitATick 19 = .ok (.aload_n 0, 1) := by decide +kernel
theorem dX2_waitATick_20 : decode cX2_waitATick 20 = .ok (.getfield 31, 3) := by decide +kernel
theorem dX2_waitATick_23 : decode cX2_waitATick 23 = .ok (.ifCond .gt 8, 3) := by decide +kernel
theorem dX2_waitATick_26 : decode cX2_waitATick 26 = .ok (.aload_n 0, 1) := by decide +kernel
theorem dX2_waitATick_27 : decode cX2_waitATick 27 = .ok (.iconst 2, 1) := by decide +kernel
theorem dX2_waitATick_28 : decode cX2_waitATick 28 = .ok (.putfield 19, 3) := by decide +kernel
theorem dX2_waitATick_31 : decode cX2_waitATick 31 = .ok (.return_, 1) := by decide +kernel
theorem dJ6_bitCount_0f7a4_0 : decode cJ6_bitCount_0f7a4 0 = .ok (.iload_n 0, 1) := by decide +kernel
theorem dJ6_bitCount_0f7a4_1 : decode cJ6_bitCount_0f7a4 1 = .ok (.iload_n 0, 1) := by decide +kernel
theorem dJ6_bitCount_0f7a4_2 : decode cJ6_bitCount_0f7a4 2 = .ok (.iconst 1, 1) := by decide +kernel
theorem dJ6_bitCount_0f7a4_3 : decode cJ6_bitCount_0f7a4 3 = .ok (.iushr, 1) := by decide +kernel
theorem dJ6_bitCount_0f7a4_4 : decode cJ6_bitCount_0f7a4 4 = .ok (.ldc_w 265, 3) := by decide +kernel
theorem dJ6_bitCount_0f7a4_7 : decode cJ6_bitCount_0f7a4 7 = .ok (.iand, 1) := by decide +kernel
theorem dJ6_bitCount_0f7a4_8 : decode cJ6_bitCount_0f7a4 8 = .ok (.isub, 1) := by decide +kernel
theorem dJ6_bitCount_0f7a4_9 : decode cJ6_bitCount_0f7a4 9 = .ok (.istore_n 0, 1) := by decide +kernel
theorem dJ6_bitCount_0f7a4_10 : decode cJ6_bitCount_0f7a4 10 = .ok (.iload_n 0, 1) := by decide +kernel
theorem dJ6_bitCount_0f7a4_11 : decode cJ6_bitCount_0f7a4 11 = .ok (.ldc_w 266, 3) := by decide +kernel
theorem dJ6_bitCount_0f7a4_14 : decode cJ6_bitCount_0f7a4 14 = .ok (.iand, 1) := by decide +kernel
theorem dJ6_bitCount_0f7a4_15 : decode cJ6_bitCount_0f7a4 15 = .ok (.iload_n 0, 1) := by decide +kernel
theorem dJ6_bitCount_0f7a4_16 : decode cJ6_bitCount_0f7a4 16 = .ok (.iconst 2, 1) := by decide +kernel
theorem dJ6_bitCount_0f7a4_17 : decode cJ6_bitCount_0f7a4 17 = .ok (.iushr, 1) := by decide +kernel
theorem dJ6_bitCount_0f7a4_18 : decode cJ6_bitCount_0f7a4 18 = .ok (.ldc_w 266, 3) := by decide +kernel
theorem dJ6_bitCount_0f7a4_21 : decode cJ6_bitCount_0f7a4 21 = .ok (.iand, 1) := by decide +kernel
theorem dJ6_bitCount_0f7a4_22 : decode cJ6_bitCount_0f7a4 22 = .ok (.iadd, 1) := by decide +kernel
theorem dJ6_bitCount_0f7a4_23 : decode cJ6_bitCount_0f7a4 23 = .ok (.istore_n 0, 1) := by decide +kernel
theorem dJ6_bitCount_0f7a4_24 : decode cJ6_bitCount_0f7a4 24 = .ok (.iload_n 0, 1) := by decide +kernel
theorem dJ6_bitCount_0f7a4_25 : decode cJ6_bitCount_0f7a4 25 = .ok (.iload_n 0, 1) := by decide +kernel
theorem dJ6_bitCount_0f7a4_26 : decode cJ6_bitCount_0f7a4 26 = .ok (.iconst 4, 1) := by decide +kernel
theorem dJ6_bitCount_0f7a4_27 : decode cJ6_bitCount_0f7a4 27 = .ok (.iushr, 1) := by decide +kernel
theorem dJ6_bitCount_0f7a4_28 : decode cJ6_bitCount_0f7a4 28 = .ok (.iadd, 1) := by decide +kernel
theorem dJ6_bitCount_0f7a4_29 : decode cJ6_bitCount_0f7a4 29 = .ok (.ldc_w 267, 3) := by decide +kernel
theorem dJ6_bitCount_0f7a4_32 : decode cJ6_bitCount_0f7a4 32 = .ok (.iand, 1) := by decide +kernel
theorem dJ6_bitCount_0f7a4_33 : decode cJ6_bitCount_0f7a4 33 = .ok (.istore_n 0, 1) := by decide +kernel
theorem dJ6_bitCount_0f7a4_34 : decode cJ6_bitCount_0f7a4 34 = .ok (.iload_n 0, 1) := by decide +kernel
theorem dJ6_bitCount_0f7a4_35 : decode cJ6_bitCount_0f7a4 35 = .ok (.iload_n 0, 1) := by decide +kernel
theorem dJ6_bitCount_0f7a4_36 : decode cJ6_bitCount_0f7a4 36 = .ok (.bipush 8, 2) := by decide +kernel
theorem dJ6_bitCount_0f7a4_38 : decode cJ6_bitCount_0f7a4 38 = .ok (.iushr, 1) := by decide +kernel
theorem dJ6_bitCount_0f7a4_39 : decode cJ6_bitCount_0f7a4 39 = .ok (.iadd, 1) := by decide +kernel
theorem dJ6_bitCount_0f7a4_40 : decode cJ6_bitCount_0f7a4 40 = .ok (.istore_n 0, 1) := by decide +kernel
theorem dJ6_bitCount_0f7a4_41 : decode cJ6_bitCount_0f7a4 41 = .ok (.iload_n 0, 1) := by decide +kernel
theorem dJ6_bitCount_0f7a4_42 : decode cJ6_bitCount_0f7a4 42 = .ok (.iload_n 0, 1) := by decide +kernel
theorem dJ6_bitCount_0f7a4_43 : decode cJ6_bitCount_0f7a4 43 = .ok (.bipush 16, 2) := by decide +kernel
theorem dJ6_bitCount_0f7a4_45 : decode cJ6_bitCount_0f7a4 45 = .ok (.iushr, 1) := by decide +kernel
theorem dJ6_bitCount_0f7a4_46 : decode cJ6_bitCount_0f7a4 46 = .ok (.iadd, 1) := by decide +kernel
theorem dJ6_bitCount_0f7a4_47 : decode cJ6_bitCount_0f7a4 47 = .ok (.istore_n 0, 1) := by decide +kernel
theorem dJ6_bitCount_0f7a4_48 : decode cJ6_bitCount_0f7a4 48 = .ok (.iload_n 0, 1) := by decide +kernel
theorem dJ6_bitCount_0f7a4_49 : decode cJ6_bitCount_0f7a4 49 = .ok (.bipush 63, 2) := by decide +kernel
theorem dJ6_bitCount_0f7a4_51 : decode cJ6_bitCount_0f7a4 51 = .ok (.iand, 1) := by decide +kernel
theorem dJ6_bitCount_0f7a4_52 : decode cJ6_bitCount_0f7a4 52 = .ok (.ireturn, 1) := by decide +kernel
theorem dJ9_min_7cf53_0 : decode cJ9_min_7cf53 0 = .ok (.iload_n 0, 1) := by decide +kernel
theorem dJ9_min_7cf53_1 : decode cJ9_min_7cf53 1 = .ok (.iload_n 1, 1) := by decide +kernel
theorem dJ9_min_7cf53_2 : decode cJ9_min_7cf53 2 = .ok (.if_icmp .gt 7, 3) := by decide +kernel
theorem dJ9_min_7cf53_5 : decode cJ9_min_7cf53 5 = .ok (.iload_n 0, 1) := by decide +kernel
theorem dJ9_min_7cf53_6 : decode cJ9_min_7cf53 6 = .ok (.goto 4, 3) := by decide +kernel
theorem dJ9_min_7cf53_9 : decode cJ9_min_7cf53 9 = .ok (.iload_n 1, 1) := by decide +kernel
theorem dJ9_min_7cf53_10 : decode cJ9_min_7cf53 10 = .ok (.ireturn, 1) := by decide +kernel
theorem dJ7_fill_53178_0 : decode cJ7_fill_53178 0 = .ok (.iconst 0, 1) := by decide +kernel
theorem dJ7_fill_53178_1 : decode cJ7_fill_53178 1 = .ok (.istore_n 2, 1) := by decide +kernel
theorem dJ7_fill_53178_2 : decode cJ7_fill_53178 2 = .ok (.aload_n 0, 1) := by decide +kernel
theorem dJ7_fill_53178_3 : decode cJ7_fill_53178 3 = .ok (.arraylength, 1) := by decide +kernel
theorem dJ7_fill_53178_4 : decode cJ7_fill_53178 4 = .ok (.istore_n 3, 1) := by decide +kernel
theorem dJ7_fill_53178_5 : decode cJ7_fill_53178 5 = .ok (.iload_n 2, 1) := by decide +kernel
theorem dJ7_fill_53178_6 : decode cJ7_fill_53178 6 = .ok (.iload_n 3, 1) := by decide +kernel
theorem dJ7_fill_53178_7 : decode cJ7_fill_53178 7 = .ok (.if_icmp .ge 13, 3) := by decide +kernel
theorem dJ7_fill_53178_10 : decode cJ7_fill_53178 10 = .ok (.aload_n 0, 1) := by decide +kernel
theorem dJ7_fill_53178_11 : decode cJ7_fill_53178 11 = .ok (.iload_n 2, 1) := by decide +kernel
theorem dJ7_fill_53178_12 : decode cJ7_fill_53178 12 = .ok (.iload_n 1, 1) := by decide +kernel
theorem dJ7_fill_53178_13 : decode cJ7_fill_53178 13 = .ok (.iastore, 1) := by decide +kernel
theorem dJ7_fill_53178_14 : decode cJ7_fill_53178 14 = .ok (.iinc 2 1, 3) := by decide +kernel
theorem dJ7_fill_53178_17 : decode cJ7_fill_53178 17 = .ok (.goto (-12), 3) := by decide +kernel
theorem dJ7_fill_53178_20 : decode cJ7_fill_53178 20 = .ok (.return_, 1) := by decide +kernel
