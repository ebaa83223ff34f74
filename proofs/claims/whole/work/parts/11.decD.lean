/-! decode rows, by program -/
theorem dX4_init_0 : decode cX4_init 0 = .ok (.aload_n 0, 1) := by decide +kernel
theorem dX4_init_1 : decode cX4_init 1 = .ok (.invokespecial 1, 3) := by decide +kernel
theorem dX4_init_4 : decode cX4_init 4 = .ok (.aload_n 0, 1) := by decide +kernel
theorem dX4_init_5 : decode cX4_init 5 = .ok (.sipush 218, 3) := by decide +kernel
theorem dX4_init_8 : decode cX4_init 8 = .ok (.newarray .int, 2) := by decide +kernel
theorem dX4_init_10 : decode cX4_init 10 = .ok (.putfield 7, 3) := by decide +kernel
theorem dX4_init_13 : decode cX4_init 13 = .ok (.aload_n 0, 1) := by decide +kernel
theorem dX4_init_14 : decode cX4_init 14 = .ok (.sipush 218, 3) := by decide +kernel
theorem dX4_init_17 : decode cX4_init 17 = .ok (.newarray .int, 2) := by decide +kernel
theorem dX4_init_19 : decode cX4_init 19 = .ok (.putfield 13, 3) := by decide +kernel
theorem dX4_init_22 : decode cX4_init 22 = .ok (.aload_n 0, 1) := by decide +kernel
theorem dX4_init_23 : decode cX4_init 23 = .ok (.sipush 1308, 3) := by decide +kernel
theorem dX4_init_26 : decode cX4_init 26 = .ok (.newarray .int, 2) := by decide +kernel
theorem dX4_init_28 : decode cX4_init 28 = .ok (.putfield 16, 3) := by decide +kernel
theorem dX4_init_31 : decode cX4_init 31 = .ok (.aload_n 0, 1) := by decide +kernel
theorem dX4_init_32 : decode cX4_init 32 = .ok (.bipush 60, 2) := by decide +kernel
theorem dX4_init_34 : decode cX4_init 34 = .ok (.newarray .int, 2) := by decide +kernel
theorem dX4_init_36 : decode cX4_init 36 = .ok (.putfield 19, 3) := by decide +kernel
theorem dX4_init_39 : decode cX4_init 39 = .ok (.aload_n 0, 1) := by decide +kernel
theorem dX4_init_40 : decode cX4_init 40 = .ok (.bipush 20, 2) := by decide +kernel
theorem dX4_init_42 : decode cX4_init 42 = .ok (.newarray .int, 2) := by decide +kernel
theorem dX4_init_44 : decode cX4_init 44 = .ok (.putfield 22, 3) := by decide +kernel
theorem dX4_init_47 : decode cX4_init 47 = .ok (.aload_n 0, 1) := by decide +kernel
theorem dX4_init_48 : decode cX4_init 48 = .ok (.iconst 0, 1) := by decide +kernel
theorem dX4_init_49 : decode cX4_init 49 = .ok (.putfield 25, 3) := by decide +kernel
theorem dX4_init_52 : decode cX4_init 52 = .ok (.aload_n 0, 1) := by decide +kernel
theorem dX4_init_53 : decode cX4_init 53 = .ok (.getfield 7, 3) := by decide +kernel
theorem dX4_init_56 : decode cX4_init 56 = .ok (.iconst 0, 1) := by decide +kernel
theorem dX4_init_57 : decode cX4_init 57 = .ok (.bipush 20, 2) := by decide +kernel
theorem dX4_init_59 : decode cX4_init 59 = .ok (.iastore, 1) := by decide +kernel
theorem dX4_init_60 : decode cX4_init 60 = .ok (.aload_n 0, 1) := by decide +kernel
theorem dX4_init_61 : decode cX4_init 61 = .ok (.getfield 7, 3) := by decide +kernel
theorem dX4_init_64 : decode cX4_init 64 = .ok (.iconst 1, 1) := by decide +kernel
theorem dX4_init_65 : decode cX4_init 65 = .ok (.iconst 4, 1) := by decide +kernel
theorem dX4_init_66 : decode cX4_init 66 = .ok (.iastore, 1) := by decide +kernel
theorem dX4_init_67 : decode cX4_init 67 = .ok (.aload_n 0, 1) := by decide +kernel
theorem dX4_init_68 : decode cX4_init 68 = .ok (.getfield 7, 3) := by decide +kernel
theorem dX4_init_71 : decode cX4_init 71 = .ok (.iconst 2, 1) := by decide +kernel
theorem dX4_init_72 : decode cX4_init 72 = .ok (.iconst 2, 1) := by decide +kernel
theorem dX4_init_73 : decode cX4_init 73 = .ok (.iastore, 1) := by decide +kernel
theorem dX4_init_74 : decode cX4_init 74 = .ok (.aload_n 0, 1) := by decide +kernel
theorem dX4_init_75 : decode cX4_init 75 = .ok (.getfield 7, 3) := by decide +kernel
theorem dX4_init_78 : decode cX4_init 78 = .ok (.iconst 3, 1) := by decide +kernel
theorem dX4_init_79 : decode cX4_init 79 = .ok (.bipush 10, 2) := by decide +kernel
theorem dX4_init_81 : decode cX4_init 81 = .ok (.iastore, 1) := by decide +kernel
theorem dX4_init_82 : decode cX4_init 82 = .ok (.aload_n 0, 1) := by decide +kernel
theorem dX4_init_83 : decode cX4_init 83 = .ok (.getfield 7, 3) := by decide +kernel
theorem dX4_init_86 : decode cX4_init 86 = .ok (.iconst 4, 1) := by decide +kernel
theorem dX4_init_87 : decode cX4_init 87 = .ok (.bipush 80, 2) := by decide +kernel
theorem dX4_init_89 : decode cX4_init 89 = .ok (.iastore, 1) := by decide +kernel
theorem dX4_init_90 : decode cX4_init 90 = .ok (.iconst 0, 1) := by decide +kernel
theorem dX4_init_91 : decode cX4_init 91 = .ok (.istore_n 1, 1) := by decide +kernel
theorem dX4_init_92 : decode cX4_init 92 = .ok (.iload_n 1, 1) := by decide +kernel
theorem dX4_init_93 : decode cX4_init 93 = .ok (.iconst 4, 1) := by decide +kernel
theorem dX4_init_94 : decode cX4_init 94 = .ok (.if_icmp .ge 24, 3) := by decide +kernel
theorem dX4_init_97 : decode cX4_init 97 = .ok (.aload_n 0, 1) := by decide +kernel
theorem dX4_init_98 : decode cX4_init 98 = .ok (.iload_n 1, 1) := by decide +kernel
theorem dX4_init_99 : decode cX4_init 99 = .ok (.iconst 0, 1) := by decide +kernel
theorem dX4_init_100 : decode cX4_init 100 = .ok (.iconst 1, 1) := by decide +kernel
theorem dX4_init_101 : decode cX4_init 101 = .ok (.invokevirtual 29, 3) := by decide +kernel
theorem dX4_init_104 : decode cX4_init 104 = .ok (.aload_n 0, 1) := by decide +kernel
theorem dX4_init_105 : decode cX4_init 105 = .ok (.iload_n 1, 1) := by decide +kernel
theorem dX4_init_106 : decode cX4_init 106 = .ok (.bipush 12, 2) := by decide +kernel
theorem dX4_init_108 : decode cX4_init 108 = .ok (.iconst 5, 1) := by decide +kernel
theorem dX4_init_109 : decode cX4_init 109 = .ok (.invokevirtual 29, 3) := by decide +kernel
theorem dX4_init_112 : decode cX4_init 112 = .ok (.iinc 1 1, 3) := by decide +kernel
theorem dX4_init_115 : decode cX4_init 115 = .ok (.goto (-23), 3) := by decide +kernel
theorem dX4_init_118 : decode cX4_init 118 = .ok (.return_, 1) := by decide +kernel
theorem dX4_thrown_0 : decode cX4_thrown 0 = .ok (.aload_n 0, 1) := by decide +kernel
theorem dX4_thrown_1 : decode cX4_thrown 1 = .ok (.getfield 25, 3) := by decide +kernel
theorem dX4_thrown_4 : decode cX4_thrown 4 = .ok (.ireturn, 1) := by decide +kernel
theorem dX4_in_0 : decode cX4_in 0 = .ok (.iload_n 0, 1) := by decide +kernel
theorem dX4_in_1 : decode cX4_in 1 = .ok (.iload_n 1, 1) := by decide +kernel
theorem dX4_in_2 : decode cX4_in 2 = .ok (.if_icmp .lt 12, 3) := by decide +kernel
theorem dX4_in_5 : decode cX4_in 5 = .ok (.iload_n 0, 1) := by decide +kernel
theorem dX4_in_6 : decode cX4_in 6 = .ok (.iload_n 2, 1) := by decide +kernel
theorem dX4_in_7 : decode cX4_in 7 = .ok (.if_icmp .gt 7, 3) := by decide +kernel
theorem dX4_in_10 : decode cX4_in 10 = .ok (.iconst 1, 1) := by decide +kernel
theorem dX4_in_11 : decode cX4_in 11 = .ok (.goto 4, 3) := by decide +kernel
theorem dX4_in_14 : decode cX4_in 14 = .ok (.iconst 0, 1) := by decide +kernel
theorem dX4_in_15 : decode cX4_in 15 = .ok (.ireturn, 1) := by decide +kernel
theorem dX4_fails_0 : decode cX4_fails 0 = .ok (.aload_n 0, 1) := by decide +kernel
theorem dX4_fails_1 : decode cX4_fails 1 = .ok (.iload_n 1, 1) := by decide +kernel
theorem dX4_fails_2 : decode cX4_fails 2 = .ok (.putfield 25, 3) := by decide +kernel
theorem dX4_fails_5 : decode cX4_fails 5 = .ok (.iconst 0, 1) := by decide +kernel
theorem dX4_fails_6 : decode cX4_fails 6 = .ok (.ireturn, 1) := by decide +kernel
theorem dX4_isStore_0 : decode cX4_isStore 0 = .ok (.iload_n 0, 1) := by decide +kernel
theorem dX4_isStore_1 : decode cX4_isStore 1 = .ok (.iconst 0, 1) := by decide +kernel
theorem dX4_isStore_2 : decode cX4_isStore 2 = .ok (.iconst 3, 1) := by decide +kernel
theorem dX4_isStore_3 : decode cX4_isStore 3 = .ok (.invokestatic 33, 3) := by decide +kernel
theorem dX4_isStore_6 : decode cX4_isStore 6 = .ok (.ireturn, 1) := by decide +kernel
theorem dX4_of_0 : decode cX4_of 0 = .ok (.aload_n 0, 1) := by decide +kernel
theorem dX4_of_1 : decode cX4_of 1 = .ok (.getfield 7, 3) := by decide +kernel
theorem dX4_of_4 : decode cX4_of 4 = .ok (.bipush 90, 2) := by decide +kernel
theorem dX4_of_6 : decode cX4_of 6 = .ok (.bipush 32, 2) := by decide +kernel
theorem dX4_of_8 : decode cX4_of 8 = .ok (.iload_n 1, 1) := by decide +kernel
theorem dX4_of_9 : decode cX4_of 9 = .ok (.imul, 1) := by decide +kernel
theorem dX4_of_10 : decode cX4_of 10 = .ok (.iadd, 1) := by decide +kernel
theorem dX4_of_11 : decode cX4_of 11 = .ok (.iload_n 2, 1) := by decide +kernel
theorem dX4_of_12 : decode cX4_of 12 = .ok (.iadd, 1) := by decide +kernel
theorem dX4_of_13 : decode cX4_of 13 = .ok (.iaload, 1) := by decide +kernel
theorem dX4_of_14 : decode cX4_of 14 = .ok (.ireturn, 1) := by decide +kernel
theorem dX4_lay_0 : decode cX4_lay 0 = .ok (.aload_n 0, 1) := by decide +kernel
theorem dX4_lay_1 : decode cX4_lay 1 = .ok (.getfield 7, 3) := by decide +kernel
theorem dX4_lay_4 : decode cX4_lay 4 = .ok (.bipush 90, 2) := by decide +kernel
theorem dX4_lay_6 : decode cX4_lay 6 = .ok (.bipush 32, 2) := by decide +kernel
theorem dX4_lay_8 : decode cX4_lay 8 = .ok (.iload_n 1, 1) := by decide +kernel
theorem dX4_lay_9 : decode cX4_lay 9 = .ok (.imul, 1) := by decide +kernel
theorem dX4_lay_10 : decode cX4_lay 10 = .ok (.iadd, 1) := by decide +kernel
theorem dX4_lay_11 : decode cX4_lay 11 = .ok (.iload_n 2, 1) := by decide +kernel
theorem dX4_lay_12 : decode cX4_lay 12 = .ok (.iadd, 1) := by decide +kernel
theorem dX4_lay_13 : decode cX4_lay 13 = .ok (.iload_n 3, 1) := by decide +kernel
theorem dX4_lay_14 : decode cX4_lay 14 = .ok (.iastore, 1) := by decide +kernel
theorem dX4_lay_15 : decode cX4_lay 15 = .ok (.return_, 1) := by decide +kernel
theorem dX4_adds_0 : decode cX4_adds 0 = .ok (.aload_n 0, 1) := by decide +kernel
theorem dX4_adds_1 : decode cX4_adds 1 = .ok (.getfield 7, 3) := by decide +kernel
theorem dX4_adds_4 : decode cX4_adds 4 = .ok (.bipush 90, 2) := by decide +kernel
theorem dX4_adds_6 : decode cX4_adds 6 = .ok (.bipush 32, 2) := by decide +kernel
theorem dX4_adds_8 : decode cX4_adds 8 = .ok (.iload_n 1, 1) := by decide +kernel
theorem dX4_adds_9 : decode cX4_adds 9 = .ok (.imul, 1) := by decide +kernel
theorem dX4_adds_10 : decode cX4_adds 10 = .ok (.iadd, 1) := by decide +kernel
theorem dX4_adds_11 : decode cX4_adds 11 = .ok (.iload_n 2, 1) := by decide +kernel
theorem dX4_adds_12 : decode cX4_adds 12 = .ok (.iadd, 1) := by decide +kernel
theorem dX4_adds_13 : decode cX4_adds 13 = .ok (.dup2, 1) := by decide +kernel
theorem dX4_adds_14 : decode cX4_adds 14 = .ok (.iaload, 1) := by decide +kernel
theorem dX4_adds_15 : decode cX4_adds 15 = .ok (.iconst 1, 1) := by decide +kernel
theorem dX4_adds_16 : decode cX4_adds 16 = .ok (.iadd, 1) := by decide +kernel
theorem dX4_adds_17 : decode cX4_adds 17 = .ok (.iastore, 1) := by decide +kernel
theorem dX4_adds_18 : decode cX4_adds 18 = .ok (.return_, 1) := by decide +kernel
theorem dX4_callOf_0 : decode cX4_callOf 0 = .ok (.aload_n 0, 1) := by decide +kernel
theorem dX4_callOf_1 : decode cX4_callOf 1 = .ok (.getfield 7, 3) := by decide +kernel
theorem dX4_callOf_4 : decode cX4_callOf 4 = .ok (.bipush 10, 2) := by decide +kernel
theorem dX4_callOf_6 : decode cX4_callOf 6 = .ok (.iconst 5, 1) := by decide +kernel
theorem dX4_callOf_7 : decode cX4_callOf 7 = .ok (.iload_n 1, 1) := by decide +kernel
theorem dX4_callOf_8 : decode cX4_callOf 8 = .ok (.imul, 1) := by decide +kernel
theorem dX4_callOf_9 : decode cX4_callOf 9 = .ok (.iadd, 1) := by decide +kernel
theorem dX4_callOf_10 : decode cX4_callOf 10 = .ok (.iload_n 2, 1) := by decide +kernel
theorem dX4_callOf_11 : decode cX4_callOf 11 = .ok (.iadd, 1) := by decide +kernel
theorem dX4_callOf_12 : decode cX4_callOf 12 = .ok (.iaload, 1) := by decide +kernel
theorem dX4_callOf_13 : decode cX4_callOf 13 = .ok (.ireturn, 1) := by decide +kernel
theorem dX4_saves_0 : decode cX4_saves 0 = .ok (.aload_n 0, 1) := by decide +kernel
theorem dX4_saves_1 : decode cX4_saves 1 = .ok (.getfield 37, 3) := by decide +kernel
theorem dX4_saves_4 : decode cX4_saves 4 = .ok (.bipush 6, 2) := by decide +kernel
theorem dX4_saves_6 : decode cX4_saves 6 = .ok (.if_icmp .ne 44, 3) := by decide +kernel
theorem dX4_saves_9 : decode cX4_saves 9 = .ok (.iconst 0, 1) := by decide +kernel
theorem dX4_saves_10 : decode cX4_saves 10 = .ok (.istore_n 1, 1) := by decide +kernel
theorem dX4_saves_11 : decode cX4_saves 11 = .ok (.iload_n 1, 1) := by decide +kernel
theorem dX4_saves_12 : decode cX4_saves 12 = .ok (.sipush 1090, 3) := by decide +kernel
theorem dX4_saves_15 : decode cX4_saves 15 = .ok (.if_icmp .ge 25, 3) := by decide +kernel
theorem dX4_saves_18 : decode cX4_saves 18 = .ok (.aload_n 0, 1) := by decide +kernel
theorem dX4_saves_19 : decode cX4_saves 19 = .ok (.getfield 16, 3) := by decide +kernel
theorem dX4_saves_22 : decode cX4_saves 22 = .ok (.iload_n 1, 1) := by decide +kernel
theorem dX4_saves_23 : decode cX4_saves 23 = .ok (.aload_n 0, 1) := by decide +kernel
theorem dX4_saves_24 : decode cX4_saves 24 = .ok (.getfield 16, 3) := by decide +kernel
theorem dX4_saves_27 : decode cX4_saves 27 = .ok (.iload_n 1, 1) := by decide +kernel
theorem dX4_saves_28 : decode cX4_saves 28 = .ok (.sipush 218, 3) := by decide +kernel
theorem dX4_saves_31 : decode cX4_saves 31 = .ok (.iadd, 1) := by decide +kernel
theorem dX4_saves_32 : decode cX4_saves 32 = .ok (.iaload, 1) := by decide +kernel
theorem dX4_saves_33 : decode cX4_saves 33 = .ok (.iastore, 1) := by decide +kernel
theorem dX4_saves_34 : decode cX4_saves 34 = .ok (.iinc 1 1, 3) := by decide +kernel
theorem dX4_saves_37 : decode cX4_saves 37 = .ok (.goto (-26), 3) := by decide +kernel
theorem dX4_saves_40 : decode cX4_saves 40 = .ok (.aload_n 0, 1) := by decide +kernel
theorem dX4_saves_41 : decode cX4_saves 41 = .ok (.dup, 1) := by decide +kernel
theorem dX4_saves_42 : decode cX4_saves 42 = .ok (.getfield 37, 3) := by decide +kernel
theorem dX4_saves_45 : decode cX4_saves 45 = .ok (.iconst 1, 1) := by decide +kernel
theorem dX4_saves_46 : decode cX4_saves 46 = .ok (.isub, 1) := by decide +kernel
theorem dX4_saves_47 : decode cX4_saves 47 = .ok (.putfield 37, 3) := by decide +kernel
theorem dX4_saves_50 : decode cX4_saves 50 = .ok (.iconst 0, 1) := by decide +kernel
theorem dX4_saves_51 : decode cX4_saves 51 = .ok (.istore_n 1, 1) := by decide +kernel
theorem dX4_saves_52 : decode cX4_saves 52 = .ok (.iload_n 1, 1) := by decide +kernel
theorem dX4_saves_53 : decode cX4_saves 53 = .ok (.sipush 218, 3) := by decide +kernel
theorem dX4_saves_56 : decode cX4_saves 56 = .ok (.if_icmp .ge 30, 3) := by decide +kernel
theorem dX4_saves_59 : decode cX4_saves 59 = .ok (.aload_n 0, 1) := by decide +kernel
theorem dX4_saves_60 : decode cX4_saves 60 = .ok (.getfield 16, 3) := by decide +kernel
theorem dX4_saves_63 : decode cX4_saves 63 = .ok (.sipush 218, 3) := by decide +kernel
theorem dX4_saves_66 : decode cX4_saves 66 = .ok (.aload_n 0, 1) := by decide +kernel
theorem dX4_saves_67 : decode cX4_saves 67 = .ok (.getfield 37, 3) := by decide +kernel
theorem dX4_saves_70 : decode cX4_saves 70 = .ok (.imul, 1) := by decide +kernel
theorem dX4_saves_71 : decode cX4_saves 71 = .ok (.iload_n 1, 1) := by decide +kernel
theorem dX4_saves_72 : decode cX4_saves 72 = .ok (.iadd, 1) := by decide +kernel
theorem dX4_saves_73 : decode cX4_saves 73 = .ok (.aload_n 0, 1) := by decide +kernel
theorem dX4_saves_74 : decode cX4_saves 74 = .ok (.getfield 7, 3) := by decide +kernel
theorem dX4_saves_77 : decode cX4_saves 77 = .ok (.iload_n 1, 1) := by decide +kernel
theorem dX4_saves_78 : decode cX4_saves 78 = .ok (.iaload, 1) := by decide +kernel
theorem dX4_saves_79 : decode cX4_saves 79 = .ok (.iastore, 1) := by decide +kernel
theorem dX4_saves_80 : decode cX4_saves 80 = .ok (.iinc 1 1, 3) := by decide +kernel
theorem dX4_saves_83 : decode cX4_saves 83 = .ok (.goto (-31), 3) := by decide +kernel
theorem dX4_saves_86 : decode cX4_saves 86 = .ok (.aload_n 0, 1) := by decide +kernel
theorem dX4_saves_87 : decode cX4_saves 87 = .ok (.dup, 1) := by decide +kernel
theorem dX4_saves_88 : decode cX4_saves 88 = .ok (.getfield 37, 3) := by decide +kernel
theorem dX4_saves_91 : decode cX4_saves 91 = .ok (.iconst 1, 1) := by decide +kernel
theorem dX4_saves_92 : decode cX4_saves 92 = .ok (.iadd, 1) := by decide +kernel
theorem dX4_saves_93 : decode cX4_saves 93 = .ok (.putfield 37, 3) := by decide +kernel
theorem dX4_saves_96 : decode cX4_saves 96 = .ok (.return_, 1) := by decide +kernel
theorem dX4_putAside_0 : decode cX4_putAside 0 = .ok (.iconst 0, 1) := by decide +kernel
theorem dX4_putAside_1 : decode cX4_putAside 1 = .ok (.istore_n 1, 1) := by decide +kernel
theorem dX4_putAside_2 : decode cX4_putAside 2 = .ok (.iload_n 1, 1) := by decide +kernel
theorem dX4_putAside_3 : decode cX4_putAside 3 = .ok (.sipush 218, 3) := by decide +kernel
theorem dX4_putAside_6 : decode cX4_putAside 6 = .ok (.if_icmp .ge 21, 3) := by decide +kernel
theorem dX4_putAside_9 : decode cX4_putAside 9 = .ok (.aload_n 0, 1) := by decide +kernel
theorem dX4_putAside_10 : decode cX4_putAside 10 = .ok (.getfield 13, 3) := by decide +kernel
theorem dX4_putAside_13 : decode cX4_putAside 13 = .ok (.iload_n 1, 1) := by decide +kernel
theorem dX4_putAside_14 : decode cX4_putAside 14 = .ok (.aload_n 0, 1) := by decide +kernel
theorem dX4_putAside_15 : decode cX4_putAside 15 = .ok (.getfield 7, 3) := by decide +kernel
theorem dX4_putAside_18 : decode cX4_putAside 18 = .ok (.iload_n 1, 1) := by decide +kernel
theorem dX4_putAside_19 : decode cX4_putAside 19 = .ok (.iaload, 1) := by decide +kernel
theorem dX4_putAside_20 : decode cX4_putAside 20 = .ok (.iastore, 1) := by decide +kernel
theorem dX4_putAside_21 : decode cX4_putAside 21 = .ok (.iinc 1 1, 3) := by decide +kernel
theorem dX4_putAside_24 : decode cX4_putAside 24 = .ok (.goto (-22), 3) := by decide +kernel
theorem dX4_putAside_27 : decode cX4_putAside 27 = .ok (.return_, 1) := by decide +kernel
theorem dX4_takeBack_0 : decode cX4_takeBack 0 = .ok (.iconst 0, 1) := by decide +kernel
theorem dX4_takeBack_1 : decode cX4_takeBack 1 = .ok (.istore_n 1, 1) := by decide +kernel
theorem dX4_takeBack_2 : decode cX4_takeBack 2 = .ok (.iload_n 1, 1) := by decide +kernel
theorem dX4_takeBack_3 : decode cX4_takeBack 3 = .ok (.sipush 218, 3) := by decide +kernel
theorem dX4_takeBack_6 : decode cX4_takeBack 6 = .ok (.if_icmp .ge 21, 3) := by decide +kernel
theorem dX4_takeBack_9 : decode cX4_takeBack 9 = .ok (.aload_n 0, 1) := by decide +kernel
theorem dX4_takeBack_10 : decode cX4_takeBack 10 = .ok (.getfield 7, 3) := by decide +kernel
theorem dX4_takeBack_13 : decode cX4_takeBack 13 = .ok (.iload_n 1, 1) := by decide +kernel
theorem dX4_takeBack_14 : decode cX4_takeBack 14 = .ok (.aload_n 0, 1) := by decide +kernel
theorem dX4_takeBack_15 : decode cX4_takeBack 15 = .ok (.getfield 13, 3) := by decide +kernel
theorem dX4_takeBack_18 : decode cX4_takeBack 18 = .ok (.iload_n 1, 1) := by decide +kernel
theorem dX4_takeBack_19 : decode cX4_takeBack 19 = .ok (.iaload, 1) := by decide +kernel
theorem dX4_takeBack_20 : decode cX4_takeBack 20 = .ok (.iastore, 1) := by decide +kernel
theorem dX4_takeBack_21 : decode cX4_takeBack 21 = .ok (.iinc 1 1, 3) := by decide +kernel
theorem dX4_takeBack_24 : decode cX4_takeBack 24 = .ok (.goto (-22), 3) := by decide +kernel
theorem dX4_takeBack_27 : decode cX4_takeBack 27 = .ok (.return_, 1) := by decide +kernel
theorem dX4_inWindow_0 : decode cX4_inWindow 0 = .ok (.aload_n 0, 1) := by decide +kernel
theorem dX4_inWindow_1 : decode cX4_inWindow 1 = .ok (.iload_n 1, 1) := by decide +kernel
theorem dX4_inWindow_2 : decode cX4_inWindow 2 = .ok (.iconst 4, 1) := by decide +kernel
theorem dX4_inWindow_3 : decode cX4_inWindow 3 = .ok (.invokevirtual 40, 3) := by decide +kernel
theorem dX4_inWindow_6 : decode cX4_inWindow 6 = .ok (.istore_n 2, 1) := by decide +kernel
theorem dX4_inWindow_7 : decode cX4_inWindow 7 = .ok (.aload_n 0, 1) := by decide +kernel
theorem dX4_inWindow_8 : decode cX4_inWindow 8 = .ok (.iload_n 1, 1) := by decide +kernel
theorem dX4_inWindow_9 : decode cX4_inWindow 9 = .ok (.iconst 2, 1) := by decide +kernel
theorem dX4_inWindow_10 : decode cX4_inWindow 10 = .ok (.invokevirtual 40, 3) := by decide +kernel
theorem dX4_inWindow_13 : decode cX4_inWindow 13 = .ok (.ifCond .eq 7, 3) := by decide +kernel
theorem dX4_inWindow_16 : decode cX4_inWindow 16 = .ok (.iconst 0, 1) := by decide +kernel
theorem dX4_inWindow_17 : decode cX4_inWindow 17 = .ok (.goto 23, 3) := by decide +kernel
theorem dX4_inWindow_20 : decode cX4_inWindow 20 = .ok (.iload_n 2, 1) := by decide +kernel
theorem dX4_inWindow_21 : decode cX4_inWindow 21 = .ok (.aload_n 0, 1) := by decide +kernel
theorem dX4_inWindow_22 : decode cX4_inWindow 22 = .ok (.getfield 7, 3) := by decide +kernel
theorem dX4_inWindow_25 : decode cX4_inWindow 25 = .ok (.iconst 1, 1) := by decide +kernel
theorem dX4_inWindow_26 : decode cX4_inWindow 26 = .ok (.iaload, 1) := by decide +kernel
theorem dX4_inWindow_27 : decode cX4_inWindow 27 = .ok (.if_icmp .ge 7, 3) := by decide +kernel
theorem dX4_inWindow_30 : decode cX4_inWindow 30 = .ok (.iload_n 2, 1) := by decide +kernel
theorem dX4_inWindow_31 : decode cX4_inWindow 31 = .ok (.goto 9, 3) := by decide +kernel
theorem dX4_inWindow_34 : decode cX4_inWindow 34 = .ok (.aload_n 0, 1) := by decide +kernel
theorem dX4_inWindow_35 : decode cX4_inWindow 35 = .ok (.getfield 7, 3) := by decide +kernel
theorem dX4_inWindow_38 : decode cX4_inWindow 38 = .ok (.iconst 1, 1) := by decide +kernel
theorem dX4_inWindow_39 : decode cX4_inWindow 39 = .ok (.iaload, 1) := by decide +kernel
theorem dX4_inWindow_40 : decode cX4_inWindow 40 = .ok (.ireturn, 1) := by decide +kernel
theorem dX4_badInWindow_0 : decode cX4_badInWindow 0 = .ok (.iconst 0, 1) := by decide +kernel
theorem dX4_badInWindow_1 : decode cX4_badInWindow 1 = .ok (.istore_n 2, 1) := by decide +kernel
theorem dX4_badInWindow_2 : decode cX4_badInWindow 2 = .ok (.iconst 0, 1) := by decide +kernel
theorem dX4_badInWindow_3 : decode cX4_badInWindow 3 = .ok (.istore_n 3, 1) := by decide +kernel
theorem dX4_badInWindow_4 : decode cX4_badInWindow 4 = .ok (.iload_n 3, 1) := by decide +kernel
theorem dX4_badInWindow_5 : decode cX4_badInWindow 5 = .ok (.aload_n 0, 1) := by decide +kernel
theorem dX4_badInWindow_6 : decode cX4_badInWindow 6 = .ok (.iload_n 1, 1) := by decide +kernel
theorem dX4_badInWindow_7 : decode cX4_badInWindow 7 = .ok (.invokevirtual 44, 3) := by decide +kernel
theorem dX4_badInWindow_10 : decode cX4_badInWindow 10 = .ok (.if_icmp .ge 22, 3) := by decide +kernel
theorem dX4_badInWindow_13 : decode cX4_badInWindow 13 = .ok (.iload_n 2, 1) := by decide +kernel
theorem dX4_badInWindow_14 : decode cX4_badInWindow 14 = .ok (.aload_n 0, 1) := by decide +kernel
theorem dX4_badInWindow_15 : decode cX4_badInWindow 15 = .ok (.iload_n 1, 1) := by decide +kernel
theorem dX4_badInWindow_16 : decode cX4_badInWindow 16 = .ok (.iconst 3, 1) := by decide +kernel
theorem dX4_badInWindow_17 : decode cX4_badInWindow 17 = .ok (.invokevirtual 40, 3) := by decide +kernel
theorem dX4_badInWindow_20 : decode cX4_badInWindow 20 = .ok (.iload_n 3, 1) := by decide +kernel
theorem dX4_badInWindow_21 : decode cX4_badInWindow 21 = .ok (.ishr, 1) := by decide +kernel
theorem dX4_badInWindow_22 : decode cX4_badInWindow 22 = .ok (.iconst 1, 1) := by decide +kernel
theorem dX4_badInWindow_23 : decode cX4_badInWindow 23 = .ok (.iand, 1) := by decide +kernel
theorem dX4_badInWindow_24 : decode cX4_badInWindow 24 = .ok (.iadd, 1) := by decide +kernel
theorem dX4_badInWindow_25 : decode cX4_badInWindow 25 = .ok (.istore_n 2, 1) := by decide +kernel
theorem dX4_badInWindow_26 : decode cX4_badInWindow 26 = .ok (.iinc 3 1, 3) := by decide +kernel
theorem dX4_badInWindow_29 : decode cX4_badInWindow 29 = .ok (.goto (-25), 3) := by decide +kernel
theorem dX4_badInWindow_32 : decode cX4_badInWindow 32 = .ok (.iload_n 2, 1) := by decide +kernel
theorem dX4_badInWindow_33 : decode cX4_badInWindow 33 = .ok (.ireturn, 1) := by decide +kernel
theorem dX4_cutsOff_0 : decode cX4_cutsOff 0 = .ok (.aload_n 0, 1) := by decide +kernel
theorem dX4_cutsOff_1 : decode cX4_cutsOff 1 = .ok (.iload_n 1, 1) := by decide +kernel
theorem dX4_cutsOff_2 : decode cX4_cutsOff 2 = .ok (.iconst 2, 1) := by decide +kernel
theorem dX4_cutsOff_3 : decode cX4_cutsOff 3 = .ok (.iconst 1, 1) := by decide +kernel
theorem dX4_cutsOff_4 : decode cX4_cutsOff 4 = .ok (.invokevirtual 29, 3) := by decide +kernel
theorem dX4_cutsOff_7 : decode cX4_cutsOff 7 = .ok (.aload_n 0, 1) := by decide +kernel
theorem dX4_cutsOff_8 : decode cX4_cutsOff 8 = .ok (.iload_n 1, 1) := by decide +kernel
theorem dX4_cutsOff_9 : decode cX4_cutsOff 9 = .ok (.iconst 3, 1) := by decide +kernel
theorem dX4_cutsOff_10 : decode cX4_cutsOff 10 = .ok (.iconst 0, 1) := by decide +kernel
theorem dX4_cutsOff_11 : decode cX4_cutsOff 11 = .ok (.invokevirtual 29, 3) := by decide +kernel
theorem dX4_cutsOff_14 : decode cX4_cutsOff 14 = .ok (.aload_n 0, 1) := by decide +kernel
theorem dX4_cutsOff_15 : decode cX4_cutsOff 15 = .ok (.iload_n 1, 1) := by decide +kernel
theorem dX4_cutsOff_16 : decode cX4_cutsOff 16 = .ok (.iconst 4, 1) := by decide +kernel
theorem dX4_cutsOff_17 : decode cX4_cutsOff 17 = .ok (.iconst 0, 1) := by decide +kernel
theorem dX4_cutsOff_18 : decode cX4_cutsOff 18 = .ok (.invokevirtual 29, 3) := by decide +kernel
theorem dX4_cutsOff_21 : decode cX4_cutsOff 21 = .ok (.aload_n 0, 1) := by decide +kernel
theorem dX4_cutsOff_22 : decode cX4_cutsOff 22 = .ok (.iload_n 1, 1) := by decide +kernel
theorem dX4_cutsOff_23 : decode cX4_cutsOff 23 = .ok (.iconst 5, 1) := by decide +kernel
theorem dX4_cutsOff_24 : decode cX4_cutsOff 24 = .ok (.iload_n 2, 1) := by decide +kernel
theorem dX4_cutsOff_25 : decode cX4_cutsOff 25 = .ok (.invokevirtual 29, 3) := by decide +kernel
theorem dX4_cutsOff_28 : decode cX4_cutsOff 28 = .ok (.aload_n 0, 1) := by decide +kernel
theorem dX4_cutsOff_29 : decode cX4_cutsOff 29 = .ok (.iload_n 1, 1) := by decide +kernel
theorem dX4_cutsOff_30 : decode cX4_cutsOff 30 = .ok (.bipush 6, 2) := by decide +kernel
theorem dX4_cutsOff_32 : decode cX4_cutsOff 32 = .ok (.iload_n 2, 1) := by decide +kernel
theorem dX4_cutsOff_33 : decode cX4_cutsOff 33 = .ok (.invokevirtual 29, 3) := by decide +kernel
theorem dX4_cutsOff_36 : decode cX4_cutsOff 36 = .ok (.aload_n 0, 1) := by decide +kernel
theorem dX4_cutsOff_37 : decode cX4_cutsOff 37 = .ok (.iload_n 1, 1) := by decide +kernel
theorem dX4_cutsOff_38 : decode cX4_cutsOff 38 = .ok (.bipush 10, 2) := by decide +kernel
theorem dX4_cutsOff_40 : decode cX4_cutsOff 40 = .ok (.invokevirtual 48, 3) := by decide +kernel
theorem dX4_cutsOff_43 : decode cX4_cutsOff 43 = .ok (.return_, 1) := by decide +kernel
theorem dX4_closes_0 : decode cX4_closes 0 = .ok (.aload_n 0, 1) := by decide +kernel
theorem dX4_closes_1 : decode cX4_closes 1 = .ok (.iload_n 1, 1) := by decide +kernel
theorem dX4_closes_2 : decode cX4_closes 2 = .ok (.iconst 2, 1) := by decide +kernel
theorem dX4_closes_3 : decode cX4_closes 3 = .ok (.iconst 0, 1) := by decide +kernel
theorem dX4_closes_4 : decode cX4_closes 4 = .ok (.invokevirtual 29, 3) := by decide +kernel
theorem dX4_closes_7 : decode cX4_closes 7 = .ok (.aload_n 0, 1) := by decide +kernel
theorem dX4_closes_8 : decode cX4_closes 8 = .ok (.iload_n 1, 1) := by decide +kernel
theorem dX4_closes_9 : decode cX4_closes 9 = .ok (.iconst 3, 1) := by decide +kernel
theorem dX4_closes_10 : decode cX4_closes 10 = .ok (.iconst 0, 1) := by decide +kernel
theorem dX4_closes_11 : decode cX4_closes 11 = .ok (.invokevirtual 29, 3) := by decide +kernel
theorem dX4_closes_14 : decode cX4_closes 14 = .ok (.aload_n 0, 1) := by decide +kernel
theorem dX4_closes_15 : decode cX4_closes 15 = .ok (.iload_n 1, 1) := by decide +kernel
theorem dX4_closes_16 : decode cX4_closes 16 = .ok (.iconst 4, 1) := by decide +kernel
theorem dX4_closes_17 : decode cX4_closes 17 = .ok (.iconst 0, 1) := by decide +kernel
theorem dX4_closes_18 : decode cX4_closes 18 = .ok (.invokevirtual 29, 3) := by decide +kernel
theorem dX4_closes_21 : decode cX4_closes 21 = .ok (.aload_n 0, 1) := by decide +kernel
theorem dX4_closes_22 : decode cX4_closes 22 = .ok (.iload_n 1, 1) := by decide +kernel
theorem dX4_closes_23 : decode cX4_closes 23 = .ok (.iconst 5, 1) := by decide +kernel
theorem dX4_closes_24 : decode cX4_closes 24 = .ok (.iconst 0, 1) := by decide +kernel
theorem dX4_closes_25 : decode cX4_closes 25 = .ok (.invokevirtual 29, 3) := by decide +kernel
theorem dX4_closes_28 : decode cX4_closes 28 = .ok (.aload_n 0, 1) := by decide +kernel
theorem dX4_closes_29 : decode cX4_closes 29 = .ok (.iload_n 1, 1) := by decide +kernel
theorem dX4_closes_30 : decode cX4_closes 30 = .ok (.bipush 6, 2) := by decide +kernel
theorem dX4_closes_32 : decode cX4_closes 32 = .ok (.iconst 0, 1) := by decide +kernel
theorem dX4_closes_33 : decode cX4_closes 33 = .ok (.invokevirtual 29, 3) := by decide +kernel
theorem dX4_closes_36 : decode cX4_closes 36 = .ok (.aload_n 0, 1) := by decide +kernel
theorem dX4_closes_37 : decode cX4_closes 37 = .ok (.iload_n 1, 1) := by decide +kernel
theorem dX4_closes_38 : decode cX4_closes 38 = .ok (.bipush 11, 2) := by decide +kernel
theorem dX4_closes_40 : decode cX4_closes 40 = .ok (.invokevirtual 48, 3) := by decide +kernel
theorem dX4_closes_43 : decode cX4_closes 43 = .ok (.return_, 1) := by decide +kernel
theorem dX4_comesOut_0 : decode cX4_comesOut 0 = .ok (.iload_n 2, 1) := by decide +kernel
theorem dX4_comesOut_1 : decode cX4_comesOut 1 = .ok (.ifCond .eq 13, 3) := by decide +kernel
theorem dX4_comesOut_4 : decode cX4_comesOut 4 = .ok (.iload_n 2, 1) := by decide +kernel
theorem dX4_comesOut_5 : decode cX4_comesOut 5 = .ok (.aload_n 0, 1) := by decide +kernel
theorem dX4_comesOut_6 : decode cX4_comesOut 6 = .ok (.getfield 7, 3) := by decide +kernel
theorem dX4_comesOut_9 : decode cX4_comesOut 9 = .ok (.iconst 0, 1) := by decide +kernel
theorem dX4_comesOut_10 : decode cX4_comesOut 10 = .ok (.iaload, 1) := by decide +kernel
theorem dX4_comesOut_11 : decode cX4_comesOut 11 = .ok (.if_icmp .le 7, 3) := by decide +kernel
theorem dX4_comesOut_14 : decode cX4_comesOut 14 = .ok (.iconst 1, 1) := by decide +kernel
theorem dX4_comesOut_15 : decode cX4_comesOut 15 = .ok (.goto 4, 3) := by decide +kernel
theorem dX4_comesOut_18 : decode cX4_comesOut 18 = .ok (.iconst 0, 1) := by decide +kernel
theorem dX4_comesOut_19 : decode cX4_comesOut 19 = .ok (.istore 5, 2) := by decide +kernel
theorem dX4_comesOut_21 : decode cX4_comesOut 21 = .ok (.aload_n 0, 1) := by decide +kernel
theorem dX4_comesOut_22 : decode cX4_comesOut 22 = .ok (.getfield 7, 3) := by decide +kernel
theorem dX4_comesOut_25 : decode cX4_comesOut 25 = .ok (.bipush 6, 2) := by decide +kernel
theorem dX4_comesOut_27 : decode cX4_comesOut 27 = .ok (.dup2, 1) := by decide +kernel
theorem dX4_comesOut_28 : decode cX4_comesOut 28 = .ok (.iaload, 1) := by decide +kernel
theorem dX4_comesOut_29 : decode cX4_comesOut 29 = .ok (.iload 5, 2) := by decide +kernel
theorem dX4_comesOut_31 : decode cX4_comesOut 31 = .ok (.ifCond .eq 7, 3) := by decide +kernel
theorem dX4_comesOut_34 : decode cX4_comesOut 34 = .ok (.iconst 1, 1) := by decide +kernel
theorem dX4_comesOut_35 : decode cX4_comesOut 35 = .ok (.goto 4, 3) := by decide +kernel
theorem dX4_comesOut_38 : decode cX4_comesOut 38 = .ok (.iconst 0, 1) := by decide +kernel
theorem dX4_comesOut_39 : decode cX4_comesOut 39 = .ok (.iadd, 1) := by decide +kernel
theorem dX4_comesOut_40 : decode cX4_comesOut 40 = .ok (.iastore, 1) := by decide +kernel
theorem dX4_comesOut_41 : decode cX4_comesOut 41 = .ok (.aload_n 0, 1) := by decide +kernel
theorem dX4_comesOut_42 : decode cX4_comesOut 42 = .ok (.getfield 7, 3) := by decide +kernel
theorem dX4_comesOut_45 : decode cX4_comesOut 45 = .ok (.bipush 7, 2) := by decide +kernel
theorem dX4_comesOut_47 : decode cX4_comesOut 47 = .ok (.dup2, 1) := by decide +kernel
theorem dX4_comesOut_48 : decode cX4_comesOut 48 = .ok (.iaload, 1) := by decide +kernel
theorem dX4_comesOut_49 : decode cX4_comesOut 49 = .ok (.iload 5, 2) := by decide +kernel
theorem dX4_comesOut_51 : decode cX4_comesOut 51 = .ok (.ifCond .eq 7, 3) := by decide +kernel
theorem dX4_comesOut_54 : decode cX4_comesOut 54 = .ok (.iconst 0, 1) := by decide +kernel
theorem dX4_comesOut_55 : decode cX4_comesOut 55 = .ok (.goto 4, 3) := by decide +kernel
theorem dX4_comesOut_58 : decode cX4_comesOut 58 = .ok (.iconst 1, 1) := by decide +kernel
theorem dX4_comesOut_59 : decode cX4_comesOut 59 = .ok (.iadd, 1) := by decide +kernel
theorem dX4_comesOut_60 : decode cX4_comesOut 60 = .ok (.iastore, 1) := by decide +kernel
theorem dX4_comesOut_61 : decode cX4_comesOut 61 = .ok (.aload_n 0, 1) := by decide +kernel
theorem dX4_comesOut_62 : decode cX4_comesOut 62 = .ok (.iload_n 1, 1) := by decide +kernel
theorem dX4_comesOut_63 : decode cX4_comesOut 63 = .ok (.bipush 9, 2) := by decide +kernel
theorem dX4_comesOut_65 : decode cX4_comesOut 65 = .ok (.aload_n 0, 1) := by decide +kernel
theorem dX4_comesOut_66 : decode cX4_comesOut 66 = .ok (.iload_n 1, 1) := by decide +kernel
theorem dX4_comesOut_67 : decode cX4_comesOut 67 = .ok (.bipush 9, 2) := by decide +kernel
theorem dX4_comesOut_69 : decode cX4_comesOut 69 = .ok (.invokevirtual 40, 3) := by decide +kernel
theorem dX4_comesOut_72 : decode cX4_comesOut 72 = .ok (.iload 5, 2) := by decide +kernel
theorem dX4_comesOut_74 : decode cX4_comesOut 74 = .ok (.ifCond .eq 7, 3) := by decide +kernel
theorem dX4_comesOut_77 : decode cX4_comesOut 77 = .ok (.iconst 1, 1) := by decide +kernel
theorem dX4_comesOut_78 : decode cX4_comesOut 78 = .ok (.goto 4, 3) := by decide +kernel
theorem dX4_comesOut_81 : decode cX4_comesOut 81 = .ok (.iconst 0, 1) := by decide +kernel
theorem dX4_comesOut_82 : decode cX4_comesOut 82 = .ok (.iadd, 1) := by decide +kernel
theorem dX4_comesOut_83 : decode cX4_comesOut 83 = .ok (.invokevirtual 29, 3) := by decide +kernel
theorem dX4_comesOut_86 : decode cX4_comesOut 86 = .ok (.iload_n 3, 1) := by decide +kernel
theorem dX4_comesOut_87 : decode cX4_comesOut 87 = .ok (.ifCond .eq 49, 3) := by decide +kernel
theorem dX4_comesOut_90 : decode cX4_comesOut 90 = .ok (.iload 5, 2) := by decide +kernel
theorem dX4_comesOut_92 : decode cX4_comesOut 92 = .ok (.ifCond .eq 44, 3) := by decide +kernel
theorem dX4_comesOut_95 : decode cX4_comesOut 95 = .ok (.iconst 2, 1) := by decide +kernel
theorem dX4_comesOut_96 : decode cX4_comesOut 96 = .ok (.aload_n 0, 1) := by decide +kernel
theorem dX4_comesOut_97 : decode cX4_comesOut 97 = .ok (.iload_n 1, 1) := by decide +kernel
theorem dX4_comesOut_98 : decode cX4_comesOut 98 = .ok (.bipush 6, 2) := by decide +kernel
theorem dX4_comesOut_100 : decode cX4_comesOut 100 = .ok (.invokevirtual 40, 3) := by decide +kernel
theorem dX4_comesOut_103 : decode cX4_comesOut 103 = .ok (.imul, 1) := by decide +kernel
theorem dX4_comesOut_104 : decode cX4_comesOut 104 = .ok (.istore 6, 2) := by decide +kernel
theorem dX4_comesOut_106 : decode cX4_comesOut 106 = .ok (.aload_n 0, 1) := by decide +kernel
theorem dX4_comesOut_107 : decode cX4_comesOut 107 = .ok (.iload_n 1, 1) := by decide +kernel
theorem dX4_comesOut_108 : decode cX4_comesOut 108 = .ok (.iload 6, 2) := by decide +kernel
theorem dX4_comesOut_110 : decode cX4_comesOut 110 = .ok (.aload_n 0, 1) := by decide +kernel
theorem dX4_comesOut_111 : decode cX4_comesOut 111 = .ok (.getfield 7, 3) := by decide +kernel
theorem dX4_comesOut_114 : decode cX4_comesOut 114 = .ok (.iconst 4, 1) := by decide +kernel
theorem dX4_comesOut_115 : decode cX4_comesOut 115 = .ok (.iaload, 1) := by decide +kernel
theorem dX4_comesOut_116 : decode cX4_comesOut 116 = .ok (.if_icmp .ge 8, 3) := by decide +kernel
theorem dX4_comesOut_119 : decode cX4_comesOut 119 = .ok (.iload 6, 2) := by decide +kernel
theorem dX4_comesOut_121 : decode cX4_comesOut 121 = .ok (.goto 9, 3) := by decide +kernel
theorem dX4_comesOut_124 : decode cX4_comesOut 124 = .ok (.aload_n 0, 1) := by decide +kernel
theorem dX4_comesOut_125 : decode cX4_comesOut 125 = .ok (.getfield 7, 3) := by decide +kernel
theorem dX4_comesOut_128 : decode cX4_comesOut 128 = .ok (.iconst 4, 1) := by decide +kernel
theorem dX4_comesOut_129 : decode cX4_comesOut 129 = .ok (.iaload, 1) := by decide +kernel
theorem dX4_comesOut_130 : decode cX4_comesOut 130 = .ok (.invokevirtual 52, 3) := by decide +kernel
theorem dX4_comesOut_133 : decode cX4_comesOut 133 = .ok (.goto 133, 3) := by decide +kernel
theorem dX4_comesOut_136 : decode cX4_comesOut 136 = .ok (.iload_n 3, 1) := by decide +kernel
theorem dX4_comesOut_137 : decode cX4_comesOut 137 = .ok (.ifCond .eq 11, 3) := by decide +kernel
theorem dX4_comesOut_140 : decode cX4_comesOut 140 = .ok (.aload_n 0, 1) := by decide +kernel
theorem dX4_comesOut_141 : decode cX4_comesOut 141 = .ok (.iload_n 1, 1) := by decide +kernel
theorem dX4_comesOut_142 : decode cX4_comesOut 142 = .ok (.invokevirtual 55, 3) := by decide +kernel
theorem dX4_comesOut_145 : decode cX4_comesOut 145 = .ok (.goto 121, 3) := by decide +kernel
theorem dX4_comesOut_148 : decode cX4_comesOut 148 = .ok (.aload_n 0, 1) := by decide +kernel
theorem dX4_comesOut_149 : decode cX4_comesOut 149 = .ok (.iload_n 1, 1) := by decide +kernel
theorem dX4_comesOut_150 : decode cX4_comesOut 150 = .ok (.iconst 2, 1) := by decide +kernel
theorem dX4_comesOut_151 : decode cX4_comesOut 151 = .ok (.invokevirtual 40, 3) := by decide +kernel
theorem dX4_comesOut_154 : decode cX4_comesOut 154 = .ok (.ifCond .ne 112, 3) := by decide +kernel
theorem dX4_comesOut_157 : decode cX4_comesOut 157 = .ok (.aload_n 0, 1) := by decide +kernel
theorem dX4_comesOut_158 : decode cX4_comesOut 158 = .ok (.iload_n 1, 1) := by decide +kernel
theorem dX4_comesOut_159 : decode cX4_comesOut 159 = .ok (.bipush 11, 2) := by decide +kernel
theorem dX4_comesOut_161 : decode cX4_comesOut 161 = .ok (.invokevirtual 40, 3) := by decide +kernel
theorem dX4_comesOut_164 : decode cX4_comesOut 164 = .ok (.iload 4, 2) := by decide +kernel
theorem dX4_comesOut_166 : decode cX4_comesOut 166 = .ok (.if_icmp .ne 100, 3) := by decide +kernel
theorem dX4_comesOut_169 : decode cX4_comesOut 169 = .ok (.aload_n 0, 1) := by decide +kernel
theorem dX4_comesOut_170 : decode cX4_comesOut 170 = .ok (.iload_n 1, 1) := by decide +kernel
theorem dX4_comesOut_171 : decode cX4_comesOut 171 = .ok (.iconst 3, 1) := by decide +kernel
theorem dX4_comesOut_172 : decode cX4_comesOut 172 = .ok (.aload_n 0, 1) := by decide +kernel
theorem dX4_comesOut_173 : decode cX4_comesOut 173 = .ok (.iload_n 1, 1) := by decide +kernel
theorem dX4_comesOut_174 : decode cX4_comesOut 174 = .ok (.iconst 3, 1) := by decide +kernel
theorem dX4_comesOut_175 : decode cX4_comesOut 175 = .ok (.invokevirtual 40, 3) := by decide +kernel
theorem dX4_comesOut_178 : decode cX4_comesOut 178 = .ok (.iconst 1, 1) := by decide +kernel
theorem dX4_comesOut_179 : decode cX4_comesOut 179 = .ok (.ishl, 1) := by decide +kernel
theorem dX4_comesOut_180 : decode cX4_comesOut 180 = .ok (.iload 5, 2) := by decide +kernel
theorem dX4_comesOut_182 : decode cX4_comesOut 182 = .ok (.ifCond .eq 7, 3) := by decide +kernel
theorem dX4_comesOut_185 : decode cX4_comesOut 185 = .ok (.iconst 1, 1) := by decide +kernel
theorem dX4_comesOut_186 : decode cX4_comesOut 186 = .ok (.goto 4, 3) := by decide +kernel
theorem dX4_comesOut_189 : decode cX4_comesOut 189 = .ok (.iconst 0, 1) := by decide +kernel
theorem dX4_comesOut_190 : decode cX4_comesOut 190 = .ok (.ior, 1) := by decide +kernel
theorem dX4_comesOut_191 : decode cX4_comesOut 191 = .ok (.ldc 59, 2) := by decide +kernel
theorem dX4_comesOut_193 : decode cX4_comesOut 193 = .ok (.iand, 1) := by decide +kernel
theorem dX4_comesOut_194 : decode cX4_comesOut 194 = .ok (.invokevirtual 29, 3) := by decide +kernel
theorem dX4_comesOut_197 : decode cX4_comesOut 197 = .ok (.aload_n 0, 1) := by decide +kernel
theorem dX4_comesOut_198 : decode cX4_comesOut 198 = .ok (.iload_n 1, 1) := by decide +kernel
theorem dX4_comesOut_199 : decode cX4_comesOut 199 = .ok (.iconst 4, 1) := by decide +kernel
theorem dX4_comesOut_200 : decode cX4_comesOut 200 = .ok (.aload_n 0, 1) := by decide +kernel
theorem dX4_comesOut_201 : decode cX4_comesOut 201 = .ok (.iload_n 1, 1) := by decide +kernel
theorem dX4_comesOut_202 : decode cX4_comesOut 202 = .ok (.iconst 4, 1) := by decide +kernel
theorem dX4_comesOut_203 : decode cX4_comesOut 203 = .ok (.invokevirtual 40, 3) := by decide +kernel
theorem dX4_comesOut_206 : decode cX4_comesOut 206 = .ok (.bipush 16, 2) := by decide +kernel
theorem dX4_comesOut_208 : decode cX4_comesOut 208 = .ok (.if_icmp .ge 14, 3) := by decide +kernel
theorem dX4_comesOut_211 : decode cX4_comesOut 211 = .ok (.aload_n 0, 1) := by decide +kernel
theorem dX4_comesOut_212 : decode cX4_comesOut 212 = .ok (.iload_n 1, 1) := by decide +kernel
theorem dX4_comesOut_213 : decode cX4_comesOut 213 = .ok (.iconst 4, 1) := by decide +kernel
theorem dX4_comesOut_214 : decode cX4_comesOut 214 = .ok (.invokevirtual 40, 3) := by decide +kernel
theorem dX4_comesOut_217 : decode cX4_comesOut 217 = .ok (.iconst 1, 1) := by decide +kernel
theorem dX4_comesOut_218 : decode cX4_comesOut 218 = .ok (.iadd, 1) := by decide +kernel
theorem dX4_comesOut_219 : decode cX4_comesOut 219 = .ok (.goto 5, 3) := by decide +kernel
theorem dX4_comesOut_222 : decode cX4_comesOut 222 = .ok (.bipush 16, 2) := by decide +kernel
theorem dX4_comesOut_224 : decode cX4_comesOut 224 = .ok (.invokevirtual 29, 3) := by decide +kernel
theorem dX4_comesOut_227 : decode cX4_comesOut 227 = .ok (.aload_n 0, 1) := by decide +kernel
theorem dX4_comesOut_228 : decode cX4_comesOut 228 = .ok (.iload_n 1, 1) := by decide +kernel
theorem dX4_comesOut_229 : decode cX4_comesOut 229 = .ok (.invokevirtual 44, 3) := by decide +kernel
theorem dX4_comesOut_232 : decode cX4_comesOut 232 = .ok (.aload_n 0, 1) := by decide +kernel
theorem dX4_comesOut_233 : decode cX4_comesOut 233 = .ok (.getfield 7, 3) := by decide +kernel
theorem dX4_comesOut_236 : decode cX4_comesOut 236 = .ok (.iconst 1, 1) := by decide +kernel
theorem dX4_comesOut_237 : decode cX4_comesOut 237 = .ok (.iaload, 1) := by decide +kernel
theorem dX4_comesOut_238 : decode cX4_comesOut 238 = .ok (.if_icmp .ne 28, 3) := by decide +kernel
theorem dX4_comesOut_241 : decode cX4_comesOut 241 = .ok (.aload_n 0, 1) := by decide +kernel
theorem dX4_comesOut_242 : decode cX4_comesOut 242 = .ok (.iload_n 1, 1) := by decide +kernel
theorem dX4_comesOut_243 : decode cX4_comesOut 243 = .ok (.invokevirtual 60, 3) := by decide +kernel
theorem dX4_comesOut_246 : decode cX4_comesOut 246 = .ok (.aload_n 0, 1) := by decide +kernel
theorem dX4_comesOut_247 : decode cX4_comesOut 247 = .ok (.getfield 7, 3) := by decide +kernel
theorem dX4_comesOut_250 : decode cX4_comesOut 250 = .ok (.iconst 2, 1) := by decide +kernel
theorem dX4_comesOut_251 : decode cX4_comesOut 251 = .ok (.iaload, 1) := by decide +kernel
theorem dX4_comesOut_252 : decode cX4_comesOut 252 = .ok (.if_icmp .lt 14, 3) := by decide +kernel
theorem dX4_comesOut_255 : decode cX4_comesOut 255 = .ok (.aload_n 0, 1) := by decide +kernel
theorem dX4_comesOut_256 : decode cX4_comesOut 256 = .ok (.iload_n 1, 1) := by decide +kernel
theorem dX4_comesOut_257 : decode cX4_comesOut 257 = .ok (.aload_n 0, 1) := by decide +kernel
theorem dX4_comesOut_258 : decode cX4_comesOut 258 = .ok (.getfield 7, 3) := by decide +kernel
theorem dX4_comesOut_261 : decode cX4_comesOut 261 = .ok (.iconst 3, 1) := by decide +kernel
theorem dX4_comesOut_262 : decode cX4_comesOut 262 = .ok (.iaload, 1) := by decide +kernel
theorem dX4_comesOut_263 : decode cX4_comesOut 263 = .ok (.invokevirtual 52, 3) := by decide +kernel
theorem dX4_comesOut_266 : decode cX4_comesOut 266 = .ok (.return_, 1) := by decide +kernel
theorem dX4_hasTrial_0 : decode cX4_hasTrial 0 = .ok (.iconst 0, 1) := by decide +kernel
theorem dX4_hasTrial_1 : decode cX4_hasTrial 1 = .ok (.istore_n 2, 1) := by decide +kernel
theorem dX4_hasTrial_2 : decode cX4_hasTrial 2 = .ok (.iconst 0, 1) := by decide +kernel
theorem dX4_hasTrial_3 : decode cX4_hasTrial 3 = .ok (.istore_n 3, 1) := by decide +kernel
theorem dX4_hasTrial_4 : decode cX4_hasTrial 4 = .ok (.iload_n 3, 1) := by decide +kernel
theorem dX4_hasTrial_5 : decode cX4_hasTrial 5 = .ok (.aload_n 0, 1) := by decide +kernel
theorem dX4_hasTrial_6 : decode cX4_hasTrial 6 = .ok (.getfield 7, 3) := by decide +kernel
theorem dX4_hasTrial_9 : decode cX4_hasTrial 9 = .ok (.bipush 9, 2) := by decide +kernel
theorem dX4_hasTrial_11 : decode cX4_hasTrial 11 = .ok (.iaload, 1) := by decide +kernel
theorem dX4_hasTrial_12 : decode cX4_hasTrial 12 = .ok (.if_icmp .ge 39, 3) := by decide +kernel
theorem dX4_hasTrial_15 : decode cX4_hasTrial 15 = .ok (.iload_n 2, 1) := by decide +kernel
theorem dX4_hasTrial_16 : decode cX4_hasTrial 16 = .ok (.ifCond .ne 23, 3) := by decide +kernel
theorem dX4_hasTrial_19 : decode cX4_hasTrial 19 = .ok (.aload_n 0, 1) := by decide +kernel
theorem dX4_hasTrial_20 : decode cX4_hasTrial 20 = .ok (.iload_n 3, 1) := by decide +kernel
theorem dX4_hasTrial_21 : decode cX4_hasTrial 21 = .ok (.iconst 0, 1) := by decide +kernel
theorem dX4_hasTrial_22 : decode cX4_hasTrial 22 = .ok (.invokevirtual 63, 3) := by decide +kernel
theorem dX4_hasTrial_25 : decode cX4_hasTrial 25 = .ok (.iload_n 1, 1) := by decide +kernel
theorem dX4_hasTrial_26 : decode cX4_hasTrial 26 = .ok (.if_icmp .ne 17, 3) := by decide +kernel
theorem dX4_hasTrial_29 : decode cX4_hasTrial 29 = .ok (.aload_n 0, 1) := by decide +kernel
theorem dX4_hasTrial_30 : decode cX4_hasTrial 30 = .ok (.iload_n 3, 1) := by decide +kernel
theorem dX4_hasTrial_31 : decode cX4_hasTrial 31 = .ok (.iconst 3, 1) := by decide +kernel
theorem dX4_hasTrial_32 : decode cX4_hasTrial 32 = .ok (.invokevirtual 63, 3) := by decide +kernel
theorem dX4_hasTrial_35 : decode cX4_hasTrial 35 = .ok (.iconst 1, 1) := by decide +kernel
theorem dX4_hasTrial_36 : decode cX4_hasTrial 36 = .ok (.if_icmp .ne 7, 3) := by decide +kernel
theorem dX4_hasTrial_39 : decode cX4_hasTrial 39 = .ok (.iconst 1, 1) := by decide +kernel
theorem dX4_hasTrial_40 : decode cX4_hasTrial 40 = .ok (.goto 4, 3) := by decide +kernel
theorem dX4_hasTrial_43 : decode cX4_hasTrial 43 = .ok (.iconst 0, 1) := by decide +kernel
theorem dX4_hasTrial_44 : decode cX4_hasTrial 44 = .ok (.istore_n 2, 1) := by decide +kernel
theorem dX4_hasTrial_45 : decode cX4_hasTrial 45 = .ok (.iinc 3 1, 3) := by decide +kernel
theorem dX4_hasTrial_48 : decode cX4_hasTrial 48 = .ok (.goto (-44), 3) := by decide +kernel
theorem dX4_hasTrial_51 : decode cX4_hasTrial 51 = .ok (.iload_n 2, 1) := by decide +kernel
theorem dX4_hasTrial_52 : decode cX4_hasTrial 52 = .ok (.ireturn, 1) := by decide +kernel
theorem dX4_isRefused_0 : decode cX4_isRefused 0 = .ok (.aload_n 0, 1) := by decide +kernel
theorem dX4_isRefused_1 : decode cX4_isRefused 1 = .ok (.iload_n 1, 1) := by decide +kernel
theorem dX4_isRefused_2 : decode cX4_isRefused 2 = .ok (.iconst 2, 1) := by decide +kernel
theorem dX4_isRefused_3 : decode cX4_isRefused 3 = .ok (.invokevirtual 40, 3) := by decide +kernel
theorem dX4_isRefused_6 : decode cX4_isRefused 6 = .ok (.iconst 1, 1) := by decide +kernel
theorem dX4_isRefused_7 : decode cX4_isRefused 7 = .ok (.if_icmp .eq 21, 3) := by decide +kernel
theorem dX4_isRefused_10 : decode cX4_isRefused 10 = .ok (.aload_n 0, 1) := by decide +kernel
theorem dX4_isRefused_11 : decode cX4_isRefused 11 = .ok (.iload_n 1, 1) := by decide +kernel
theorem dX4_isRefused_12 : decode cX4_isRefused 12 = .ok (.iconst 2, 1) := by decide +kernel
theorem dX4_isRefused_13 : decode cX4_isRefused 13 = .ok (.invokevirtual 40, 3) := by decide +kernel
theorem dX4_isRefused_16 : decode cX4_isRefused 16 = .ok (.iconst 2, 1) := by decide +kernel
theorem dX4_isRefused_17 : decode cX4_isRefused 17 = .ok (.if_icmp .ne 15, 3) := by decide +kernel
theorem dX4_isRefused_20 : decode cX4_isRefused 20 = .ok (.aload_n 0, 1) := by decide +kernel
theorem dX4_isRefused_21 : decode cX4_isRefused 21 = .ok (.iload_n 1, 1) := by decide +kernel
theorem dX4_isRefused_22 : decode cX4_isRefused 22 = .ok (.invokevirtual 66, 3) := by decide +kernel
theorem dX4_isRefused_25 : decode cX4_isRefused 25 = .ok (.ifCond .eq 7, 3) := by decide +kernel
theorem dX4_isRefused_28 : decode cX4_isRefused 28 = .ok (.iconst 1, 1) := by decide +kernel
theorem dX4_isRefused_29 : decode cX4_isRefused 29 = .ok (.goto 4, 3) := by decide +kernel
theorem dX4_isRefused_32 : decode cX4_isRefused 32 = .ok (.iconst 0, 1) := by decide +kernel
theorem dX4_isRefused_33 : decode cX4_isRefused 33 = .ok (.ireturn, 1) := by decide +kernel
theorem dX4_calls_0 : decode cX4_calls 0 = .ok (.aload_n 0, 1) := by decide +kernel
theorem dX4_calls_1 : decode cX4_calls 1 = .ok (.iload_n 1, 1) := by decide +kernel
theorem dX4_calls_2 : decode cX4_calls 2 = .ok (.invokevirtual 70, 3) := by decide +kernel
theorem dX4_calls_5 : decode cX4_calls 5 = .ok (.ifCond .eq 12, 3) := by decide +kernel
theorem dX4_calls_8 : decode cX4_calls 8 = .ok (.aload_n 0, 1) := by decide +kernel
theorem dX4_calls_9 : decode cX4_calls 9 = .ok (.iload_n 1, 1) := by decide +kernel
theorem dX4_calls_10 : decode cX4_calls 10 = .ok (.bipush 8, 2) := by decide +kernel
theorem dX4_calls_12 : decode cX4_calls 12 = .ok (.invokevirtual 48, 3) := by decide +kernel
theorem dX4_calls_15 : decode cX4_calls 15 = .ok (.iconst 0, 1) := by decide +kernel
theorem dX4_calls_16 : decode cX4_calls 16 = .ok (.ireturn, 1) := by decide +kernel
theorem dX4_calls_17 : decode cX4_calls 17 = .ok (.aload_n 0, 1) := by decide +kernel
theorem dX4_calls_18 : decode cX4_calls 18 = .ok (.iload_n 1, 1) := by decide +kernel
theorem dX4_calls_19 : decode cX4_calls 19 = .ok (.iconst 2, 1) := by decide +kernel
theorem dX4_calls_20 : decode cX4_calls 20 = .ok (.invokevirtual 40, 3) := by decide +kernel
theorem dX4_calls_23 : decode cX4_calls 23 = .ok (.iconst 2, 1) := by decide +kernel
theorem dX4_calls_24 : decode cX4_calls 24 = .ok (.if_icmp .ne 7, 3) := by decide +kernel
theorem dX4_calls_27 : decode cX4_calls 27 = .ok (.iconst 1, 1) := by decide +kernel
theorem dX4_calls_28 : decode cX4_calls 28 = .ok (.goto 4, 3) := by decide +kernel
theorem dX4_calls_31 : decode cX4_calls 31 = .ok (.iconst 0, 1) := by decide +kernel
theorem dX4_calls_32 : decode cX4_calls 32 = .ok (.istore_n 2, 1) := by decide +kernel
theorem dX4_calls_33 : decode cX4_calls 33 = .ok (.aload_n 0, 1) := by decide +kernel
theorem dX4_calls_34 : decode cX4_calls 34 = .ok (.iload_n 1, 1) := by decide +kernel
theorem dX4_calls_35 : decode cX4_calls 35 = .ok (.bipush 12, 2) := by decide +kernel
theorem dX4_calls_37 : decode cX4_calls 37 = .ok (.aload_n 0, 1) := by decide +kernel
theorem dX4_calls_38 : decode cX4_calls 38 = .ok (.iload_n 1, 1) := by decide +kernel
theorem dX4_calls_39 : decode cX4_calls 39 = .ok (.iconst 1, 1) := by decide +kernel
theorem dX4_calls_40 : decode cX4_calls 40 = .ok (.invokevirtual 40, 3) := by decide +kernel
theorem dX4_calls_43 : decode cX4_calls 43 = .ok (.iadd, 1) := by decide +kernel
theorem dX4_calls_44 : decode cX4_calls 44 = .ok (.invokevirtual 40, 3) := by decide +kernel
theorem dX4_calls_47 : decode cX4_calls 47 = .ok (.istore_n 3, 1) := by decide +kernel
theorem dX4_calls_48 : decode cX4_calls 48 = .ok (.aload_n 0, 1) := by decide +kernel
theorem dX4_calls_49 : decode cX4_calls 49 = .ok (.iload_n 1, 1) := by decide +kernel
theorem dX4_calls_50 : decode cX4_calls 50 = .ok (.iconst 1, 1) := by decide +kernel
theorem dX4_calls_51 : decode cX4_calls 51 = .ok (.aload_n 0, 1) := by decide +kernel
theorem dX4_calls_52 : decode cX4_calls 52 = .ok (.iload_n 1, 1) := by decide +kernel
theorem dX4_calls_53 : decode cX4_calls 53 = .ok (.iconst 1, 1) := by decide +kernel
theorem dX4_calls_54 : decode cX4_calls 54 = .ok (.invokevirtual 40, 3) := by decide +kernel
theorem dX4_calls_57 : decode cX4_calls 57 = .ok (.iconst 1, 1) := by decide +kernel
theorem dX4_calls_58 : decode cX4_calls 58 = .ok (.iadd, 1) := by decide +kernel
theorem dX4_calls_59 : decode cX4_calls 59 = .ok (.aload_n 0, 1) := by decide +kernel
theorem dX4_calls_60 : decode cX4_calls 60 = .ok (.iload_n 1, 1) := by decide +kernel
theorem dX4_calls_61 : decode cX4_calls 61 = .ok (.iconst 0, 1) := by decide +kernel
theorem dX4_calls_62 : decode cX4_calls 62 = .ok (.invokevirtual 40, 3) := by decide +kernel
theorem dX4_calls_65 : decode cX4_calls 65 = .ok (.irem, 1) := by decide +kernel
theorem dX4_calls_66 : decode cX4_calls 66 = .ok (.invokevirtual 29, 3) := by decide +kernel
theorem dX4_calls_69 : decode cX4_calls 69 = .ok (.aload_n 0, 1) := by decide +kernel
theorem dX4_calls_70 : decode cX4_calls 70 = .ok (.iload_n 1, 1) := by decide +kernel
theorem dX4_calls_71 : decode cX4_calls 71 = .ok (.bipush 7, 2) := by decide +kernel
theorem dX4_calls_73 : decode cX4_calls 73 = .ok (.invokevirtual 48, 3) := by decide +kernel
theorem dX4_calls_76 : decode cX4_calls 76 = .ok (.aload_n 0, 1) := by decide +kernel
theorem dX4_calls_77 : decode cX4_calls 77 = .ok (.getfield 7, 3) := by decide +kernel
theorem dX4_calls_80 : decode cX4_calls 80 = .ok (.bipush 8, 2) := by decide +kernel
theorem dX4_calls_82 : decode cX4_calls 82 = .ok (.dup2, 1) := by decide +kernel
theorem dX4_calls_83 : decode cX4_calls 83 = .ok (.iaload, 1) := by decide +kernel
theorem dX4_calls_84 : decode cX4_calls 84 = .ok (.iload_n 2, 1) := by decide +kernel
theorem dX4_calls_85 : decode cX4_calls 85 = .ok (.ifCond .eq 7, 3) := by decide +kernel
theorem dX4_calls_88 : decode cX4_calls 88 = .ok (.iconst 1, 1) := by decide +kernel
theorem dX4_calls_89 : decode cX4_calls 89 = .ok (.goto 4, 3) := by decide +kernel
theorem dX4_calls_92 : decode cX4_calls 92 = .ok (.iconst 0, 1) := by decide +kernel
theorem dX4_calls_93 : decode cX4_calls 93 = .ok (.iadd, 1) := by decide +kernel
theorem dX4_calls_94 : decode cX4_calls 94 = .ok (.iastore, 1) := by decide +kernel
theorem dX4_calls_95 : decode cX4_calls 95 = .ok (.iload_n 3, 1) := by decide +kernel
theorem dX4_calls_96 : decode cX4_calls 96 = .ok (.ifCond .ne 20, 3) := by decide +kernel
theorem dX4_calls_99 : decode cX4_calls 99 = .ok (.aload_n 0, 1) := by decide +kernel
theorem dX4_calls_100 : decode cX4_calls 100 = .ok (.iload_n 1, 1) := by decide +kernel
theorem dX4_calls_101 : decode cX4_calls 101 = .ok (.iconst 0, 1) := by decide +kernel
theorem dX4_calls_102 : decode cX4_calls 102 = .ok (.iload_n 2, 1) := by decide +kernel
theorem dX4_calls_103 : decode cX4_calls 103 = .ok (.aload_n 0, 1) := by decide +kernel
theorem dX4_calls_104 : decode cX4_calls 104 = .ok (.iload_n 1, 1) := by decide +kernel
theorem dX4_calls_105 : decode cX4_calls 105 = .ok (.bipush 11, 2) := by decide +kernel
theorem dX4_calls_107 : decode cX4_calls 107 = .ok (.invokevirtual 40, 3) := by decide +kernel
theorem dX4_calls_110 : decode cX4_calls 110 = .ok (.invokevirtual 73, 3) := by decide +kernel
theorem dX4_calls_113 : decode cX4_calls 113 = .ok (.goto 92, 3) := by decide +kernel
theorem dX4_calls_116 : decode cX4_calls 116 = .ok (.bipush 10, 2) := by decide +kernel
theorem dX4_calls_118 : decode cX4_calls 118 = .ok (.iconst 5, 1) := by decide +kernel
theorem dX4_calls_119 : decode cX4_calls 119 = .ok (.aload_n 0, 1) := by decide +kernel
theorem dX4_calls_120 : decode cX4_calls 120 = .ok (.getfield 7, 3) := by decide +kernel
theorem dX4_calls_123 : decode cX4_calls 123 = .ok (.bipush 9, 2) := by decide +kernel
theorem dX4_calls_125 : decode cX4_calls 125 = .ok (.iaload, 1) := by decide +kernel
theorem dX4_calls_126 : decode cX4_calls 126 = .ok (.imul, 1) := by decide +kernel
theorem dX4_calls_127 : decode cX4_calls 127 = .ok (.iadd, 1) := by decide +kernel
theorem dX4_calls_128 : decode cX4_calls 128 = .ok (.istore 4, 2) := by decide +kernel
theorem dX4_calls_130 : decode cX4_calls 130 = .ok (.aload_n 0, 1) := by decide +kernel
theorem dX4_calls_131 : decode cX4_calls 131 = .ok (.getfield 7, 3) := by decide +kernel
theorem dX4_calls_134 : decode cX4_calls 134 = .ok (.iload 4, 2) := by decide +kernel
theorem dX4_calls_136 : decode cX4_calls 136 = .ok (.iconst 0, 1) := by decide +kernel
theorem dX4_calls_137 : decode cX4_calls 137 = .ok (.iadd, 1) := by decide +kernel
theorem dX4_calls_138 : decode cX4_calls 138 = .ok (.iload_n 1, 1) := by decide +kernel
theorem dX4_calls_139 : decode cX4_calls 139 = .ok (.iastore, 1) := by decide +kernel
theorem dX4_calls_140 : decode cX4_calls 140 = .ok (.aload_n 0, 1) := by decide +kernel
theorem dX4_calls_141 : decode cX4_calls 141 = .ok (.getfield 7, 3) := by decide +kernel
theorem dX4_calls_144 : decode cX4_calls 144 = .ok (.iload 4, 2) := by decide +kernel
theorem dX4_calls_146 : decode cX4_calls 146 = .ok (.iconst 1, 1) := by decide +kernel
theorem dX4_calls_147 : decode cX4_calls 147 = .ok (.iadd, 1) := by decide +kernel
theorem dX4_calls_148 : decode cX4_calls 148 = .ok (.iload_n 3, 1) := by decide +kernel
theorem dX4_calls_149 : decode cX4_calls 149 = .ok (.iastore, 1) := by decide +kernel
theorem dX4_calls_150 : decode cX4_calls 150 = .ok (.aload_n 0, 1) := by decide +kernel
theorem dX4_calls_151 : decode cX4_calls 151 = .ok (.getfield 7, 3) := by decide +kernel
theorem dX4_calls_154 : decode cX4_calls 154 = .ok (.iload 4, 2) := by decide +kernel
theorem dX4_calls_156 : decode cX4_calls 156 = .ok (.iconst 2, 1) := by decide +kernel
theorem dX4_calls_157 : decode cX4_calls 157 = .ok (.iadd, 1) := by decide +kernel
theorem dX4_calls_158 : decode cX4_calls 158 = .ok (.iload_n 3, 1) := by decide +kernel
theorem dX4_calls_159 : decode cX4_calls 159 = .ok (.iastore, 1) := by decide +kernel
theorem dX4_calls_160 : decode cX4_calls 160 = .ok (.aload_n 0, 1) := by decide +kernel
theorem dX4_calls_161 : decode cX4_calls 161 = .ok (.getfield 7, 3) := by decide +kernel
theorem dX4_calls_164 : decode cX4_calls 164 = .ok (.iload 4, 2) := by decide +kernel
theorem dX4_calls_166 : decode cX4_calls 166 = .ok (.iconst 3, 1) := by decide +kernel
theorem dX4_calls_167 : decode cX4_calls 167 = .ok (.iadd, 1) := by decide +kernel
theorem dX4_calls_168 : decode cX4_calls 168 = .ok (.iload_n 2, 1) := by decide +kernel
theorem dX4_calls_169 : decode cX4_calls 169 = .ok (.ifCond .eq 7, 3) := by decide +kernel
theorem dX4_calls_172 : decode cX4_calls 172 = .ok (.iconst 1, 1) := by decide +kernel
theorem dX4_calls_173 : decode cX4_calls 173 = .ok (.goto 4, 3) := by decide +kernel
theorem dX4_calls_176 : decode cX4_calls 176 = .ok (.iconst 0, 1) := by decide +kernel
theorem dX4_calls_177 : decode cX4_calls 177 = .ok (.iastore, 1) := by decide +kernel
theorem dX4_calls_178 : decode cX4_calls 178 = .ok (.aload_n 0, 1) := by decide +kernel
theorem dX4_calls_179 : decode cX4_calls 179 = .ok (.getfield 7, 3) := by decide +kernel
theorem dX4_calls_182 : decode cX4_calls 182 = .ok (.iload 4, 2) := by decide +kernel
theorem dX4_calls_184 : decode cX4_calls 184 = .ok (.iconst 4, 1) := by decide +kernel
theorem dX4_calls_185 : decode cX4_calls 185 = .ok (.iadd, 1) := by decide +kernel
theorem dX4_calls_186 : decode cX4_calls 186 = .ok (.aload_n 0, 1) := by decide +kernel
theorem dX4_calls_187 : decode cX4_calls 187 = .ok (.iload_n 1, 1) := by decide +kernel
theorem dX4_calls_188 : decode cX4_calls 188 = .ok (.bipush 11, 2) := by decide +kernel
theorem dX4_calls_190 : decode cX4_calls 190 = .ok (.invokevirtual 40, 3) := by decide +kernel
theorem dX4_calls_193 : decode cX4_calls 193 = .ok (.iastore, 1) := by decide +kernel
theorem dX4_calls_194 : decode cX4_calls 194 = .ok (.aload_n 0, 1) := by decide +kernel
theorem dX4_calls_195 : decode cX4_calls 195 = .ok (.getfield 7, 3) := by decide +kernel
theorem dX4_calls_198 : decode cX4_calls 198 = .ok (.bipush 9, 2) := by decide +kernel
theorem dX4_calls_200 : decode cX4_calls 200 = .ok (.dup2, 1) := by decide +kernel
theorem dX4_calls_201 : decode cX4_calls 201 = .ok (.iaload, 1) := by decide +kernel
theorem dX4_calls_202 : decode cX4_calls 202 = .ok (.iconst 1, 1) := by decide +kernel
theorem dX4_calls_203 : decode cX4_calls 203 = .ok (.iadd, 1) := by decide +kernel
theorem dX4_calls_204 : decode cX4_calls 204 = .ok (.iastore, 1) := by decide +kernel
theorem dX4_calls_205 : decode cX4_calls 205 = .ok (.iload_n 2, 1) := by decide +kernel
theorem dX4_calls_206 : decode cX4_calls 206 = .ok (.ifCond .eq 7, 3) := by decide +kernel
theorem dX4_calls_209 : decode cX4_calls 209 = .ok (.iconst 2, 1) := by decide +kernel
theorem dX4_calls_210 : decode cX4_calls 210 = .ok (.goto 4, 3) := by decide +kernel
theorem dX4_calls_213 : decode cX4_calls 213 = .ok (.iconst 1, 1) := by decide +kernel
theorem dX4_calls_214 : decode cX4_calls 214 = .ok (.ireturn, 1) := by decide +kernel
theorem dX4_drops_0 : decode cX4_drops 0 = .ok (.aload_n 0, 1) := by decide +kernel
theorem dX4_drops_1 : decode cX4_drops 1 = .ok (.getfield 7, 3) := by decide +kernel
theorem dX4_drops_4 : decode cX4_drops 4 = .ok (.bipush 9, 2) := by decide +kernel
theorem dX4_drops_6 : decode cX4_drops 6 = .ok (.dup2, 1) := by decide +kernel
theorem dX4_drops_7 : decode cX4_drops 7 = .ok (.iaload, 1) := by decide +kernel
theorem dX4_drops_8 : decode cX4_drops 8 = .ok (.iconst 1, 1) := by decide +kernel
theorem dX4_drops_9 : decode cX4_drops 9 = .ok (.isub, 1) := by decide +kernel
theorem dX4_drops_10 : decode cX4_drops 10 = .ok (.iastore, 1) := by decide +kernel
theorem dX4_drops_11 : decode cX4_drops 11 = .ok (.iconst 5, 1) := by decide +kernel
theorem dX4_drops_12 : decode cX4_drops 12 = .ok (.iload_n 1, 1) := by decide +kernel
theorem dX4_drops_13 : decode cX4_drops 13 = .ok (.imul, 1) := by decide +kernel
theorem dX4_drops_14 : decode cX4_drops 14 = .ok (.istore_n 2, 1) := by decide +kernel
theorem dX4_drops_15 : decode cX4_drops 15 = .ok (.iload_n 2, 1) := by decide +kernel
theorem dX4_drops_16 : decode cX4_drops 16 = .ok (.iconst 5, 1) := by decide +kernel
theorem dX4_drops_17 : decode cX4_drops 17 = .ok (.aload_n 0, 1) := by decide +kernel
theorem dX4_drops_18 : decode cX4_drops 18 = .ok (.getfield 7, 3) := by decide +kernel
theorem dX4_drops_21 : decode cX4_drops 21 = .ok (.bipush 9, 2) := by decide +kernel
theorem dX4_drops_23 : decode cX4_drops 23 = .ok (.iaload, 1) := by decide +kernel
theorem dX4_drops_24 : decode cX4_drops 24 = .ok (.imul, 1) := by decide +kernel
theorem dX4_drops_25 : decode cX4_drops 25 = .ok (.if_icmp .ge 29, 3) := by decide +kernel
theorem dX4_drops_28 : decode cX4_drops 28 = .ok (.aload_n 0, 1) := by decide +kernel
theorem dX4_drops_29 : decode cX4_drops 29 = .ok (.getfield 7, 3) := by decide +kernel
theorem dX4_drops_32 : decode cX4_drops 32 = .ok (.bipush 10, 2) := by decide +kernel
theorem dX4_drops_34 : decode cX4_drops 34 = .ok (.iload_n 2, 1) := by decide +kernel
theorem dX4_drops_35 : decode cX4_drops 35 = .ok (.iadd, 1) := by decide +kernel
theorem dX4_drops_36 : decode cX4_drops 36 = .ok (.aload_n 0, 1) := by decide +kernel
theorem dX4_drops_37 : decode cX4_drops 37 = .ok (.getfield 7, 3) := by decide +kernel
theorem dX4_drops_40 : decode cX4_drops 40 = .ok (.bipush 10, 2) := by decide +kernel
theorem dX4_drops_42 : decode cX4_drops 42 = .ok (.iload_n 2, 1) := by decide +kernel
theorem dX4_drops_43 : decode cX4_drops 43 = .ok (.iadd, 1) := by decide +kernel
theorem dX4_drops_44 : decode cX4_drops 44 = .ok (.iconst 5, 1) := by decide +kernel
theorem dX4_drops_45 : decode cX4_drops 45 = .ok (.iadd, 1) := by decide +kernel
theorem dX4_drops_46 : decode cX4_drops 46 = .ok (.iaload, 1) := by decide +kernel
theorem dX4_drops_47 : decode cX4_drops 47 = .ok (.iastore, 1) := by decide +kernel
theorem dX4_drops_48 : decode cX4_drops 48 = .ok (.iinc 2 1, 3) := by decide +kernel
theorem dX4_drops_51 : decode cX4_drops 51 = .ok (.goto (-36), 3) := by decide +kernel
theorem dX4_drops_54 : decode cX4_drops 54 = .ok (.iconst 0, 1) := by decide +kernel
theorem dX4_drops_55 : decode cX4_drops 55 = .ok (.istore_n 2, 1) := by decide +kernel
theorem dX4_drops_56 : decode cX4_drops 56 = .ok (.iload_n 2, 1) := by decide +kernel
theorem dX4_drops_57 : decode cX4_drops 57 = .ok (.iconst 5, 1) := by decide +kernel
theorem dX4_drops_58 : decode cX4_drops 58 = .ok (.if_icmp .ge 29, 3) := by decide +kernel
theorem dX4_drops_61 : decode cX4_drops 61 = .ok (.aload_n 0, 1) := by decide +kernel
theorem dX4_drops_62 : decode cX4_drops 62 = .ok (.getfield 7, 3) := by decide +kernel
theorem dX4_drops_65 : decode cX4_drops 65 = .ok (.bipush 10, 2) := by decide +kernel
theorem dX4_drops_67 : decode cX4_drops 67 = .ok (.iconst 5, 1) := by decide +kernel
theorem dX4_drops_68 : decode cX4_drops 68 = .ok (.aload_n 0, 1) := by decide +kernel
theorem dX4_drops_69 : decode cX4_drops 69 = .ok (.getfield 7, 3) := by decide +kernel
theorem dX4_drops_72 : decode cX4_drops 72 = .ok (.bipush 9, 2) := by decide +kernel
theorem dX4_drops_74 : decode cX4_drops 74 = .ok (.iaload, 1) := by decide +kernel
theorem dX4_drops_75 : decode cX4_drops 75 = .ok (.imul, 1) := by decide +kernel
theorem dX4_drops_76 : decode cX4_drops 76 = .ok (.iadd, 1) := by decide +kernel
theorem dX4_drops_77 : decode cX4_drops 77 = .ok (.iload_n 2, 1) := by decide +kernel
theorem dX4_drops_78 : decode cX4_drops 78 = .ok (.iadd, 1) := by decide +kernel
theorem dX4_drops_79 : decode cX4_drops 79 = .ok (.iconst 0, 1) := by decide +kernel
theorem dX4_drops_80 : decode cX4_drops 80 = .ok (.iastore, 1) := by decide +kernel
theorem dX4_drops_81 : decode cX4_drops 81 = .ok (.iinc 2 1, 3) := by decide +kernel
theorem dX4_drops_84 : decode cX4_drops 84 = .ok (.goto (-28), 3) := by decide +kernel
theorem dX4_drops_87 : decode cX4_drops 87 = .ok (.return_, 1) := by decide +kernel
theorem dX4_tick_0 : decode cX4_tick 0 = .ok (.iconst 0, 1) := by decide +kernel
theorem dX4_tick_1 : decode cX4_tick 1 = .ok (.istore_n 1, 1) := by decide +kernel
theorem dX4_tick_2 : decode cX4_tick 2 = .ok (.iload_n 1, 1) := by decide +kernel
theorem dX4_tick_3 : decode cX4_tick 3 = .ok (.aload_n 0, 1) := by decide +kernel
theorem dX4_tick_4 : decode cX4_tick 4 = .ok (.getfield 7, 3) := by decide +kernel
theorem dX4_tick_7 : decode cX4_tick 7 = .ok (.bipush 9, 2) := by decide +kernel
theorem dX4_tick_9 : decode cX4_tick 9 = .ok (.iaload, 1) := by decide +kernel
theorem dX4_tick_10 : decode cX4_tick 10 = .ok (.if_icmp .ge 26, 3) := by decide +kernel
theorem dX4_tick_13 : decode cX4_tick 13 = .ok (.aload_n 0, 1) := by decide +kernel
theorem dX4_tick_14 : decode cX4_tick 14 = .ok (.getfield 7, 3) := by decide +kernel
theorem dX4_tick_17 : decode cX4_tick 17 = .ok (.bipush 10, 2) := by decide +kernel
theorem dX4_tick_19 : decode cX4_tick 19 = .ok (.iconst 5, 1) := by decide +kernel
theorem dX4_tick_20 : decode cX4_tick 20 = .ok (.iload_n 1, 1) := by decide +kernel
theorem dX4_tick_21 : decode cX4_tick 21 = .ok (.imul, 1) := by decide +kernel
theorem dX4_tick_22 : decode cX4_tick 22 = .ok (.iadd, 1) := by decide +kernel
theorem dX4_tick_23 : decode cX4_tick 23 = .ok (.iconst 1, 1) := by decide +kernel
theorem dX4_tick_24 : decode cX4_tick 24 = .ok (.iadd, 1) := by decide +kernel
theorem dX4_tick_25 : decode cX4_tick 25 = .ok (.dup2, 1) := by decide +kernel
theorem dX4_tick_26 : decode cX4_tick 26 = .ok (.iaload, 1) := by decide +kernel
theorem dX4_tick_27 : decode cX4_tick 27 = .ok (.iconst 1, 1) := by decide +kernel
theorem dX4_tick_28 : decode cX4_tick 28 = .ok (.isub, 1) := by decide +kernel
theorem dX4_tick_29 : decode cX4_tick 29 = .ok (.iastore, 1) := by decide +kernel
theorem dX4_tick_30 : decode cX4_tick 30 = .ok (.iinc 1 1, 3) := by decide +kernel
theorem dX4_tick_33 : decode cX4_tick 33 = .ok (.goto (-31), 3) := by decide +kernel
theorem dX4_tick_36 : decode cX4_tick 36 = .ok (.iconst 0, 1) := by decide +kernel
theorem dX4_tick_37 : decode cX4_tick 37 = .ok (.istore_n 1, 1) := by decide +kernel
theorem dX4_tick_38 : decode cX4_tick 38 = .ok (.iconst 0, 1) := by decide +kernel
theorem dX4_tick_39 : decode cX4_tick 39 = .ok (.istore_n 2, 1) := by decide +kernel
theorem dX4_tick_40 : decode cX4_tick 40 = .ok (.iload_n 2, 1) := by decide +kernel
theorem dX4_tick_41 : decode cX4_tick 41 = .ok (.aload_n 0, 1) := by decide +kernel
theorem dX4_tick_42 : decode cX4_tick 42 = .ok (.getfield 7, 3) := by decide +kernel
theorem dX4_tick_45 : decode cX4_tick 45 = .ok (.bipush 9, 2) := by decide +kernel
theorem dX4_tick_47 : decode cX4_tick 47 = .ok (.iaload, 1) := by decide +kernel
theorem dX4_tick_48 : decode cX4_tick 48 = .ok (.if_icmp .ge 80, 3) := by decide +kernel
theorem dX4_tick_51 : decode cX4_tick 51 = .ok (.aload_n 0, 1) := by decide +kernel
theorem dX4_tick_52 : decode cX4_tick 52 = .ok (.iload_n 2, 1) := by decide +kernel
theorem dX4_tick_53 : decode cX4_tick 53 = .ok (.iconst 1, 1) := by decide +kernel
theorem dX4_tick_54 : decode cX4_tick 54 = .ok (.invokevirtual 63, 3) := by decide +kernel
theorem dX4_tick_57 : decode cX4_tick 57 = .ok (.ifCond .ne 65, 3) := by decide +kernel
theorem dX4_tick_60 : decode cX4_tick 60 = .ok (.aload_n 0, 1) := by decide +kernel
theorem dX4_tick_61 : decode cX4_tick 61 = .ok (.iload_n 2, 1) := by decide +kernel
theorem dX4_tick_62 : decode cX4_tick 62 = .ok (.iconst 0, 1) := by decide +kernel
theorem dX4_tick_63 : decode cX4_tick 63 = .ok (.invokevirtual 63, 3) := by decide +kernel
theorem dX4_tick_66 : decode cX4_tick 66 = .ok (.istore_n 3, 1) := by decide +kernel
theorem dX4_tick_67 : decode cX4_tick 67 = .ok (.aload_n 0, 1) := by decide +kernel
theorem dX4_tick_68 : decode cX4_tick 68 = .ok (.iload_n 2, 1) := by decide +kernel
theorem dX4_tick_69 : decode cX4_tick 69 = .ok (.iconst 2, 1) := by decide +kernel
theorem dX4_tick_70 : decode cX4_tick 70 = .ok (.invokevirtual 63, 3) := by decide +kernel
theorem dX4_tick_73 : decode cX4_tick 73 = .ok (.istore 4, 2) := by decide +kernel
theorem dX4_tick_75 : decode cX4_tick 75 = .ok (.aload_n 0, 1) := by decide +kernel
theorem dX4_tick_76 : decode cX4_tick 76 = .ok (.iload_n 2, 1) := by decide +kernel
theorem dX4_tick_77 : decode cX4_tick 77 = .ok (.iconst 3, 1) := by decide +kernel
theorem dX4_tick_78 : decode cX4_tick 78 = .ok (.invokevirtual 63, 3) := by decide +kernel
theorem dX4_tick_81 : decode cX4_tick 81 = .ok (.iconst 1, 1) := by decide +kernel
theorem dX4_tick_82 : decode cX4_tick 82 = .ok (.if_icmp .ne 7, 3) := by decide +kernel
theorem dX4_tick_85 : decode cX4_tick 85 = .ok (.iconst 1, 1) := by decide +kernel
theorem dX4_tick_86 : decode cX4_tick 86 = .ok (.goto 4, 3) := by decide +kernel
theorem dX4_tick_89 : decode cX4_tick 89 = .ok (.iconst 0, 1) := by decide +kernel
theorem dX4_tick_90 : decode cX4_tick 90 = .ok (.istore 5, 2) := by decide +kernel
theorem dX4_tick_92 : decode cX4_tick 92 = .ok (.aload_n 0, 1) := by decide +kernel
theorem dX4_tick_93 : decode cX4_tick 93 = .ok (.iload_n 2, 1) := by decide +kernel
theorem dX4_tick_94 : decode cX4_tick 94 = .ok (.iconst 4, 1) := by decide +kernel
theorem dX4_tick_95 : decode cX4_tick 95 = .ok (.invokevirtual 63, 3) := by decide +kernel
theorem dX4_tick_98 : decode cX4_tick 98 = .ok (.istore 6, 2) := by decide +kernel
theorem dX4_tick_100 : decode cX4_tick 100 = .ok (.aload_n 0, 1) := by decide +kernel
theorem dX4_tick_101 : decode cX4_tick 101 = .ok (.iload_n 2, 1) := by decide +kernel
theorem dX4_tick_102 : decode cX4_tick 102 = .ok (.invokevirtual 77, 3) := by decide +kernel
theorem dX4_tick_105 : decode cX4_tick 105 = .ok (.aload_n 0, 1) := by decide +kernel
theorem dX4_tick_106 : decode cX4_tick 106 = .ok (.iload_n 3, 1) := by decide +kernel
theorem dX4_tick_107 : decode cX4_tick 107 = .ok (.iload 4, 2) := by decide +kernel
theorem dX4_tick_109 : decode cX4_tick 109 = .ok (.iload 5, 2) := by decide +kernel
theorem dX4_tick_111 : decode cX4_tick 111 = .ok (.iload 6, 2) := by decide +kernel
theorem dX4_tick_113 : decode cX4_tick 113 = .ok (.invokevirtual 73, 3) := by decide +kernel
theorem dX4_tick_116 : decode cX4_tick 116 = .ok (.iinc 1 1, 3) := by decide +kernel
theorem dX4_tick_119 : decode cX4_tick 119 = .ok (.goto (-79), 3) := by decide +kernel
theorem dX4_tick_122 : decode cX4_tick 122 = .ok (.iinc 2 1, 3) := by decide +kernel
theorem dX4_tick_125 : decode cX4_tick 125 = .ok (.goto (-85), 3) := by decide +kernel
theorem dX4_tick_128 : decode cX4_tick 128 = .ok (.iconst 0, 1) := by decide +kernel
theorem dX4_tick_129 : decode cX4_tick 129 = .ok (.istore_n 3, 1) := by decide +kernel
theorem dX4_tick_130 : decode cX4_tick 130 = .ok (.iload_n 3, 1) := by decide +kernel
theorem dX4_tick_131 : decode cX4_tick 131 = .ok (.iconst 4, 1) := by decide +kernel
theorem dX4_tick_132 : decode cX4_tick 132 = .ok (.if_icmp .ge 53, 3) := by decide +kernel
theorem dX4_tick_135 : decode cX4_tick 135 = .ok (.aload_n 0, 1) := by decide +kernel
theorem dX4_tick_136 : decode cX4_tick 136 = .ok (.iload_n 3, 1) := by decide +kernel
theorem dX4_tick_137 : decode cX4_tick 137 = .ok (.iconst 2, 1) := by decide +kernel
theorem dX4_tick_138 : decode cX4_tick 138 = .ok (.invokevirtual 40, 3) := by decide +kernel
theorem dX4_tick_141 : decode cX4_tick 141 = .ok (.iconst 1, 1) := by decide +kernel
theorem dX4_tick_142 : decode cX4_tick 142 = .ok (.if_icmp .ne 37, 3) := by decide +kernel
theorem dX4_tick_145 : decode cX4_tick 145 = .ok (.aload_n 0, 1) := by decide +kernel
theorem dX4_tick_146 : decode cX4_tick 146 = .ok (.iload_n 3, 1) := by decide +kernel
theorem dX4_tick_147 : decode cX4_tick 147 = .ok (.iconst 5, 1) := by decide +kernel
theorem dX4_tick_148 : decode cX4_tick 148 = .ok (.aload_n 0, 1) := by decide +kernel
theorem dX4_tick_149 : decode cX4_tick 149 = .ok (.iload_n 3, 1) := by decide +kernel
theorem dX4_tick_150 : decode cX4_tick 150 = .ok (.iconst 5, 1) := by decide +kernel
theorem dX4_tick_151 : decode cX4_tick 151 = .ok (.invokevirtual 40, 3) := by decide +kernel
theorem dX4_tick_154 : decode cX4_tick 154 = .ok (.iconst 1, 1) := by decide +kernel
theorem dX4_tick_155 : decode cX4_tick 155 = .ok (.isub, 1) := by decide +kernel
theorem dX4_tick_156 : decode cX4_tick 156 = .ok (.invokevirtual 29, 3) := by decide +kernel
theorem dX4_tick_159 : decode cX4_tick 159 = .ok (.aload_n 0, 1) := by decide +kernel
theorem dX4_tick_160 : decode cX4_tick 160 = .ok (.iload_n 3, 1) := by decide +kernel
theorem dX4_tick_161 : decode cX4_tick 161 = .ok (.iconst 2, 1) := by decide +kernel
theorem dX4_tick_162 : decode cX4_tick 162 = .ok (.aload_n 0, 1) := by decide +kernel
theorem dX4_tick_163 : decode cX4_tick 163 = .ok (.iload_n 3, 1) := by decide +kernel
theorem dX4_tick_164 : decode cX4_tick 164 = .ok (.iconst 5, 1) := by decide +kernel
theorem dX4_tick_165 : decode cX4_tick 165 = .ok (.invokevirtual 40, 3) := by decide +kernel
theorem dX4_tick_168 : decode cX4_tick 168 = .ok (.ifCond .ne 7, 3) := by decide +kernel
theorem dX4_tick_171 : decode cX4_tick 171 = .ok (.iconst 2, 1) := by decide +kernel
theorem dX4_tick_172 : decode cX4_tick 172 = .ok (.goto 4, 3) := by decide +kernel
theorem dX4_tick_175 : decode cX4_tick 175 = .ok (.iconst 1, 1) := by decide +kernel
theorem dX4_tick_176 : decode cX4_tick 176 = .ok (.invokevirtual 29, 3) := by decide +kernel
theorem dX4_tick_179 : decode cX4_tick 179 = .ok (.iinc 3 1, 3) := by decide +kernel
theorem dX4_tick_182 : decode cX4_tick 182 = .ok (.goto (-52), 3) := by decide +kernel
theorem dX4_tick_185 : decode cX4_tick 185 = .ok (.aload_n 0, 1) := by decide +kernel
theorem dX4_tick_186 : decode cX4_tick 186 = .ok (.getfield 7, 3) := by decide +kernel
theorem dX4_tick_189 : decode cX4_tick 189 = .ok (.iconst 5, 1) := by decide +kernel
theorem dX4_tick_190 : decode cX4_tick 190 = .ok (.dup2, 1) := by decide +kernel
theorem dX4_tick_191 : decode cX4_tick 191 = .ok (.iaload, 1) := by decide +kernel
theorem dX4_tick_192 : decode cX4_tick 192 = .ok (.iconst 1, 1) := by decide +kernel
theorem dX4_tick_193 : decode cX4_tick 193 = .ok (.iadd, 1) := by decide +kernel
theorem dX4_tick_194 : decode cX4_tick 194 = .ok (.iastore, 1) := by decide +kernel
theorem dX4_tick_195 : decode cX4_tick 195 = .ok (.iload_n 1, 1) := by decide +kernel
theorem dX4_tick_196 : decode cX4_tick 196 = .ok (.ireturn, 1) := by decide +kernel
theorem dX4_ticks_0 : decode cX4_ticks 0 = .ok (.iconst 0, 1) := by decide +kernel
theorem dX4_ticks_1 : decode cX4_ticks 1 = .ok (.istore_n 2, 1) := by decide +kernel
theorem dX4_ticks_2 : decode cX4_ticks 2 = .ok (.iconst 0, 1) := by decide +kernel
theorem dX4_ticks_3 : decode cX4_ticks 3 = .ok (.istore_n 3, 1) := by decide +kernel
theorem dX4_ticks_4 : decode cX4_ticks 4 = .ok (.iload_n 3, 1) := by decide +kernel
theorem dX4_ticks_5 : decode cX4_ticks 5 = .ok (.iload_n 1, 1) := by decide +kernel
theorem dX4_ticks_6 : decode cX4_ticks 6 = .ok (.if_icmp .ge 16, 3) := by decide +kernel
theorem dX4_ticks_9 : decode cX4_ticks 9 = .ok (.iload_n 2, 1) := by decide +kernel
theorem dX4_ticks_10 : decode cX4_ticks 10 = .ok (.aload_n 0, 1) := by decide +kernel
theorem dX4_ticks_11 : decode cX4_ticks 11 = .ok (.invokevirtual 80, 3) := by decide +kernel
theorem dX4_ticks_14 : decode cX4_ticks 14 = .ok (.iadd, 1) := by decide +kernel
theorem dX4_ticks_15 : decode cX4_ticks 15 = .ok (.istore_n 2, 1) := by decide +kernel
theorem dX4_ticks_16 : decode cX4_ticks 16 = .ok (.iinc 3 1, 3) := by decide +kernel
theorem dX4_ticks_19 : decode cX4_ticks 19 = .ok (.goto (-15), 3) := by decide +kernel
theorem dX4_ticks_22 : decode cX4_ticks 22 = .ok (.iload_n 2, 1) := by decide +kernel
theorem dX4_ticks_23 : decode cX4_ticks 23 = .ok (.ireturn, 1) := by decide +kernel
theorem dX4_callsOften_0 : decode cX4_callsOften 0 = .ok (.iconst 0, 1) := by decide +kernel
theorem dX4_callsOften_1 : decode cX4_callsOften 1 = .ok (.istore 4, 2) := by decide +kernel
theorem dX4_callsOften_3 : decode cX4_callsOften 3 = .ok (.iconst 0, 1) := by decide +kernel
theorem dX4_callsOften_4 : decode cX4_callsOften 4 = .ok (.istore 5, 2) := by decide +kernel
theorem dX4_callsOften_6 : decode cX4_callsOften 6 = .ok (.iload 5, 2) := by decide +kernel
theorem dX4_callsOften_8 : decode cX4_callsOften 8 = .ok (.iload_n 2, 1) := by decide +kernel
theorem dX4_callsOften_9 : decode cX4_callsOften 9 = .ok (.if_icmp .ge 56, 3) := by decide +kernel
theorem dX4_callsOften_12 : decode cX4_callsOften 12 = .ok (.aload_n 0, 1) := by decide +kernel
theorem dX4_callsOften_13 : decode cX4_callsOften 13 = .ok (.getfield 7, 3) := by decide +kernel
theorem dX4_callsOften_16 : decode cX4_callsOften 16 = .ok (.bipush 9, 2) := by decide +kernel
theorem dX4_callsOften_18 : decode cX4_callsOften 18 = .ok (.iaload, 1) := by decide +kernel
theorem dX4_callsOften_19 : decode cX4_callsOften 19 = .ok (.bipush 16, 2) := by decide +kernel
theorem dX4_callsOften_21 : decode cX4_callsOften 21 = .ok (.if_icmp .ne 14, 3) := by decide +kernel
theorem dX4_callsOften_24 : decode cX4_callsOften 24 = .ok (.aload_n 0, 1) := by decide +kernel
theorem dX4_callsOften_25 : decode cX4_callsOften 25 = .ok (.iload_n 1, 1) := by decide +kernel
theorem dX4_callsOften_26 : decode cX4_callsOften 26 = .ok (.invokevirtual 70, 3) := by decide +kernel
theorem dX4_callsOften_29 : decode cX4_callsOften 29 = .ok (.ifCond .ne 6, 3) := by decide +kernel
theorem dX4_callsOften_32 : decode cX4_callsOften 32 = .ok (.iload 4, 2) := by decide +kernel
theorem dX4_callsOften_34 : decode cX4_callsOften 34 = .ok (.ireturn, 1) := by decide +kernel
theorem dX4_callsOften_35 : decode cX4_callsOften 35 = .ok (.iload 4, 2) := by decide +kernel
theorem dX4_callsOften_37 : decode cX4_callsOften 37 = .ok (.aload_n 0, 1) := by decide +kernel
theorem dX4_callsOften_38 : decode cX4_callsOften 38 = .ok (.iload_n 1, 1) := by decide +kernel
theorem dX4_callsOften_39 : decode cX4_callsOften 39 = .ok (.invokevirtual 84, 3) := by decide +kernel
theorem dX4_callsOften_42 : decode cX4_callsOften 42 = .ok (.ifCond .le 7, 3) := by decide +kernel
theorem dX4_callsOften_45 : decode cX4_callsOften 45 = .ok (.iconst 1, 1) := by decide +kernel
theorem dX4_callsOften_46 : decode cX4_callsOften 46 = .ok (.goto 4, 3) := by decide +kernel
theorem dX4_callsOften_49 : decode cX4_callsOften 49 = .ok (.iconst 0, 1) := by decide +kernel
theorem dX4_callsOften_50 : decode cX4_callsOften 50 = .ok (.iadd, 1) := by decide +kernel
theorem dX4_callsOften_51 : decode cX4_callsOften 51 = .ok (.istore 4, 2) := by decide +kernel
theorem dX4_callsOften_53 : decode cX4_callsOften 53 = .ok (.aload_n 0, 1) := by decide +kernel
theorem dX4_callsOften_54 : decode cX4_callsOften 54 = .ok (.iload_n 3, 1) := by decide +kernel
theorem dX4_callsOften_55 : decode cX4_callsOften 55 = .ok (.invokevirtual 87, 3) := by decide +kernel
theorem dX4_callsOften_58 : decode cX4_callsOften 58 = .ok (.pop, 1) := by decide +kernel
theorem dX4_callsOften_59 : decode cX4_callsOften 59 = .ok (.iinc 5 1, 3) := by decide +kernel
theorem dX4_callsOften_62 : decode cX4_callsOften 62 = .ok (.goto (-56), 3) := by decide +kernel
theorem dX4_callsOften_65 : decode cX4_callsOften 65 = .ok (.iload 4, 2) := by decide +kernel
theorem dX4_callsOften_67 : decode cX4_callsOften 67 = .ok (.ireturn, 1) := by decide +kernel
theorem dX4_call_0 : decode cX4_call 0 = .ok (.aload_n 0, 1) := by decide +kernel
theorem dX4_call_1 : decode cX4_call 1 = .ok (.iconst 0, 1) := by decide +kernel
theorem dX4_call_2 : decode cX4_call 2 = .ok (.putfield 25, 3) := by decide +kernel
theorem dX4_call_5 : decode cX4_call 5 = .ok (.iload_n 1, 1) := by decide +kernel
theorem dX4_call_6 : decode cX4_call 6 = .ok (.invokestatic 90, 3) := by decide +kernel
theorem dX4_call_9 : decode cX4_call 9 = .ok (.ifCond .ne 9, 3) := by decide +kernel
theorem dX4_call_12 : decode cX4_call 12 = .ok (.aload_n 0, 1) := by decide +kernel
theorem dX4_call_13 : decode cX4_call 13 = .ok (.iconst 1, 1) := by decide +kernel
theorem dX4_call_14 : decode cX4_call 14 = .ok (.invokevirtual 93, 3) := by decide +kernel
theorem dX4_call_17 : decode cX4_call 17 = .ok (.ireturn, 1) := by decide +kernel
theorem dX4_call_18 : decode cX4_call 18 = .ok (.aload_n 0, 1) := by decide +kernel
theorem dX4_call_19 : decode cX4_call 19 = .ok (.getfield 7, 3) := by decide +kernel
theorem dX4_call_22 : decode cX4_call 22 = .ok (.bipush 9, 2) := by decide +kernel
theorem dX4_call_24 : decode cX4_call 24 = .ok (.iaload, 1) := by decide +kernel
theorem dX4_call_25 : decode cX4_call 25 = .ok (.bipush 16, 2) := by decide +kernel
theorem dX4_call_27 : decode cX4_call 27 = .ok (.if_icmp .ne 17, 3) := by decide +kernel
theorem dX4_call_30 : decode cX4_call 30 = .ok (.aload_n 0, 1) := by decide +kernel
theorem dX4_call_31 : decode cX4_call 31 = .ok (.iload_n 1, 1) := by decide +kernel
theorem dX4_call_32 : decode cX4_call 32 = .ok (.invokevirtual 70, 3) := by decide +kernel
theorem dX4_call_35 : decode cX4_call 35 = .ok (.ifCond .ne 9, 3) := by decide +kernel
theorem dX4_call_38 : decode cX4_call 38 = .ok (.aload_n 0, 1) := by decide +kernel
theorem dX4_call_39 : decode cX4_call 39 = .ok (.iconst 2, 1) := by decide +kernel
theorem dX4_call_40 : decode cX4_call 40 = .ok (.invokevirtual 93, 3) := by decide +kernel
theorem dX4_call_43 : decode cX4_call 43 = .ok (.ireturn, 1) := by decide +kernel
theorem dX4_call_44 : decode cX4_call 44 = .ok (.aload_n 0, 1) := by decide +kernel
theorem dX4_call_45 : decode cX4_call 45 = .ok (.invokevirtual 96, 3) := by decide +kernel
theorem dX4_call_48 : decode cX4_call 48 = .ok (.aload_n 0, 1) := by decide +kernel
theorem dX4_call_49 : decode cX4_call 49 = .ok (.iload_n 1, 1) := by decide +kernel
theorem dX4_call_50 : decode cX4_call 50 = .ok (.invokevirtual 84, 3) := by decide +kernel
theorem dX4_call_53 : decode cX4_call 53 = .ok (.ireturn, 1) := by decide +kernel
theorem dX4_callOften_0 : decode cX4_callOften 0 = .ok (.aload_n 0, 1) := by decide +kernel
theorem dX4_callOften_1 : decode cX4_callOften 1 = .ok (.iconst 0, 1) := by decide +kernel
theorem dX4_callOften_2 : decode cX4_callOften 2 = .ok (.putfield 25, 3) := by decide +kernel
theorem dX4_callOften_5 : decode cX4_callOften 5 = .ok (.iload_n 1, 1) := by decide +kernel
theorem dX4_callOften_6 : decode cX4_callOften 6 = .ok (.invokestatic 90, 3) := by decide +kernel
theorem dX4_callOften_9 : decode cX4_callOften 9 = .ok (.ifCond .ne 9, 3) := by decide +kernel
theorem dX4_callOften_12 : decode cX4_callOften 12 = .ok (.aload_n 0, 1) := by decide +kernel
theorem dX4_callOften_13 : decode cX4_callOften 13 = .ok (.iconst 1, 1) := by decide +kernel
theorem dX4_callOften_14 : decode cX4_callOften 14 = .ok (.invokevirtual 93, 3) := by decide +kernel
theorem dX4_callOften_17 : decode cX4_callOften 17 = .ok (.ireturn, 1) := by decide +kernel
theorem dX4_callOften_18 : decode cX4_callOften 18 = .ok (.iload_n 2, 1) := by decide +kernel
theorem dX4_callOften_19 : decode cX4_callOften 19 = .ok (.iconst 1, 1) := by decide +kernel
theorem dX4_callOften_20 : decode cX4_callOften 20 = .ok (.bipush 50, 2) := by decide +kernel
theorem dX4_callOften_22 : decode cX4_callOften 22 = .ok (.invokestatic 33, 3) := by decide +kernel
theorem dX4_callOften_25 : decode cX4_callOften 25 = .ok (.ifCond .eq 13, 3) := by decide +kernel
theorem dX4_callOften_28 : decode cX4_callOften 28 = .ok (.iload_n 3, 1) := by decide +kernel
theorem dX4_callOften_29 : decode cX4_callOften 29 = .ok (.iconst 0, 1) := by decide +kernel
theorem dX4_callOften_30 : decode cX4_callOften 30 = .ok (.bipush 50, 2) := by decide +kernel
theorem dX4_callOften_32 : decode cX4_callOften 32 = .ok (.invokestatic 33, 3) := by decide +kernel
theorem dX4_callOften_35 : decode cX4_callOften 35 = .ok (.ifCond .ne 9, 3) := by decide +kernel
theorem dX4_callOften_38 : decode cX4_callOften 38 = .ok (.aload_n 0, 1) := by decide +kernel
theorem dX4_callOften_39 : decode cX4_callOften 39 = .ok (.iconst 2, 1) := by decide +kernel
theorem dX4_callOften_40 : decode cX4_callOften 40 = .ok (.invokevirtual 93, 3) := by decide +kernel
theorem dX4_callOften_43 : decode cX4_callOften 43 = .ok (.ireturn, 1) := by decide +kernel
theorem dX4_callOften_44 : decode cX4_callOften 44 = .ok (.aload_n 0, 1) := by decide +kernel
theorem dX4_callOften_45 : decode cX4_callOften 45 = .ok (.invokevirtual 96, 3) := by decide +kernel
theorem dX4_callOften_48 : decode cX4_callOften 48 = .ok (.aload_n 0, 1) := by decide +kernel
theorem dX4_callOften_49 : decode cX4_callOften 49 = .ok (.iload_n 1, 1) := by decide +kernel
theorem dX4_callOften_50 : decode cX4_callOften 50 = .ok (.iload_n 2, 1) := by decide +kernel
theorem dX4_callOften_51 : decode cX4_callOften 51 = .ok (.iload_n 3, 1) := by decide +kernel
theorem dX4_callOften_52 : decode cX4_callOften 52 = .ok (.invokevirtual 99, 3) := by decide +kernel
theorem dX4_callOften_55 : decode cX4_callOften 55 = .ok (.ireturn, 1) := by decide +kernel
theorem dX4_onWayOf_0 : decode cX4_onWayOf 0 = .ok (.iconst 0, 1) := by decide +kernel
theorem dX4_onWayOf_1 : decode cX4_onWayOf 1 = .ok (.istore_n 2, 1) := by decide +kernel
theorem dX4_onWayOf_2 : decode cX4_onWayOf 2 = .ok (.iconst 0, 1) := by decide +kernel
theorem dX4_onWayOf_3 : decode cX4_onWayOf 3 = .ok (.istore_n 3, 1) := by decide +kernel
theorem dX4_onWayOf_4 : decode cX4_onWayOf 4 = .ok (.iload_n 3, 1) := by decide +kernel
theorem dX4_onWayOf_5 : decode cX4_onWayOf 5 = .ok (.aload_n 0, 1) := by decide +kernel
theorem dX4_onWayOf_6 : decode cX4_onWayOf 6 = .ok (.getfield 7, 3) := by decide +kernel
theorem dX4_onWayOf_9 : decode cX4_onWayOf 9 = .ok (.bipush 9, 2) := by decide +kernel
theorem dX4_onWayOf_11 : decode cX4_onWayOf 11 = .ok (.iaload, 1) := by decide +kernel
theorem dX4_onWayOf_12 : decode cX4_onWayOf 12 = .ok (.if_icmp .ge 27, 3) := by decide +kernel
theorem dX4_onWayOf_15 : decode cX4_onWayOf 15 = .ok (.iload_n 2, 1) := by decide +kernel
theorem dX4_onWayOf_16 : decode cX4_onWayOf 16 = .ok (.aload_n 0, 1) := by decide +kernel
theorem dX4_onWayOf_17 : decode cX4_onWayOf 17 = .ok (.iload_n 3, 1) := by decide +kernel
theorem dX4_onWayOf_18 : decode cX4_onWayOf 18 = .ok (.iconst 0, 1) := by decide +kernel
theorem dX4_onWayOf_19 : decode cX4_onWayOf 19 = .ok (.invokevirtual 63, 3) := by decide +kernel
theorem dX4_onWayOf_22 : decode cX4_onWayOf 22 = .ok (.iload_n 1, 1) := by decide +kernel
theorem dX4_onWayOf_23 : decode cX4_onWayOf 23 = .ok (.if_icmp .ne 7, 3) := by decide +kernel
theorem dX4_onWayOf_26 : decode cX4_onWayOf 26 = .ok (.iconst 1, 1) := by decide +kernel
theorem dX4_onWayOf_27 : decode cX4_onWayOf 27 = .ok (.goto 4, 3) := by decide +kernel
theorem dX4_onWayOf_30 : decode cX4_onWayOf 30 = .ok (.iconst 0, 1) := by decide +kernel
theorem dX4_onWayOf_31 : decode cX4_onWayOf 31 = .ok (.iadd, 1) := by decide +kernel
theorem dX4_onWayOf_32 : decode cX4_onWayOf 32 = .ok (.istore_n 2, 1) := by decide +kernel
theorem dX4_onWayOf_33 : decode cX4_onWayOf 33 = .ok (.iinc 3 1, 3) := by decide +kernel
theorem dX4_onWayOf_36 : decode cX4_onWayOf 36 = .ok (.goto (-32), 3) := by decide +kernel
theorem dX4_onWayOf_39 : decode cX4_onWayOf 39 = .ok (.iload_n 2, 1) := by decide +kernel
theorem dX4_onWayOf_40 : decode cX4_onWayOf 40 = .ok (.ireturn, 1) := by decide +kernel
theorem dX4_bestStore_0 : decode cX4_bestStore 0 = .ok (.iconst (-1), 1) := by decide +kernel
theorem dX4_bestStore_1 : decode cX4_bestStore 1 = .ok (.istore_n 1, 1) := by decide +kernel
theorem dX4_bestStore_2 : decode cX4_bestStore 2 = .ok (.iconst 0, 1) := by decide +kernel
theorem dX4_bestStore_3 : decode cX4_bestStore 3 = .ok (.istore_n 2, 1) := by decide +kernel
theorem dX4_bestStore_4 : decode cX4_bestStore 4 = .ok (.iload_n 2, 1) := by decide +kernel
theorem dX4_bestStore_5 : decode cX4_bestStore 5 = .ok (.iconst 4, 1) := by decide +kernel
theorem dX4_bestStore_6 : decode cX4_bestStore 6 = .ok (.if_icmp .ge 83, 3) := by decide +kernel
theorem dX4_bestStore_9 : decode cX4_bestStore 9 = .ok (.aload_n 0, 1) := by decide +kernel
theorem dX4_bestStore_10 : decode cX4_bestStore 10 = .ok (.iload_n 2, 1) := by decide +kernel
theorem dX4_bestStore_11 : decode cX4_bestStore 11 = .ok (.iconst 2, 1) := by decide +kernel
theorem dX4_bestStore_12 : decode cX4_bestStore 12 = .ok (.invokevirtual 40, 3) := by decide +kernel
theorem dX4_bestStore_15 : decode cX4_bestStore 15 = .ok (.ifCond .ne 68, 3) := by decide +kernel
theorem dX4_bestStore_18 : decode cX4_bestStore 18 = .ok (.iload_n 1, 1) := by decide +kernel
theorem dX4_bestStore_19 : decode cX4_bestStore 19 = .ok (.iconst (-1), 1) := by decide +kernel
theorem dX4_bestStore_20 : decode cX4_bestStore 20 = .ok (.if_icmp .ne 7, 3) := by decide +kernel
theorem dX4_bestStore_23 : decode cX4_bestStore 23 = .ok (.iconst 1, 1) := by decide +kernel
theorem dX4_bestStore_24 : decode cX4_bestStore 24 = .ok (.goto 14, 3) := by decide +kernel
theorem dX4_bestStore_27 : decode cX4_bestStore 27 = .ok (.aload_n 0, 1) := by decide +kernel
theorem dX4_bestStore_28 : decode cX4_bestStore 28 = .ok (.iload_n 1, 1) := by decide +kernel
theorem dX4_bestStore_29 : decode cX4_bestStore 29 = .ok (.invokevirtual 60, 3) := by decide +kernel
theorem dX4_bestStore_32 : decode cX4_bestStore 32 = .ok (.aload_n 0, 1) := by decide +kernel
theorem dX4_bestStore_33 : decode cX4_bestStore 33 = .ok (.iload_n 2, 1) := by decide +kernel
theorem dX4_bestStore_34 : decode cX4_bestStore 34 = .ok (.invokevirtual 60, 3) := by decide +kernel
theorem dX4_bestStore_37 : decode cX4_bestStore 37 = .ok (.isub, 1) := by decide +kernel
theorem dX4_bestStore_38 : decode cX4_bestStore 38 = .ok (.istore_n 3, 1) := by decide +kernel
theorem dX4_bestStore_39 : decode cX4_bestStore 39 = .ok (.iload_n 1, 1) := by decide +kernel
theorem dX4_bestStore_40 : decode cX4_bestStore 40 = .ok (.iconst (-1), 1) := by decide +kernel
theorem dX4_bestStore_41 : decode cX4_bestStore 41 = .ok (.if_icmp .eq 20, 3) := by decide +kernel
theorem dX4_bestStore_44 : decode cX4_bestStore 44 = .ok (.aload_n 0, 1) := by decide +kernel
theorem dX4_bestStore_45 : decode cX4_bestStore 45 = .ok (.iload_n 2, 1) := by decide +kernel
theorem dX4_bestStore_46 : decode cX4_bestStore 46 = .ok (.invokevirtual 103, 3) := by decide +kernel
theorem dX4_bestStore_49 : decode cX4_bestStore 49 = .ok (.aload_n 0, 1) := by decide +kernel
theorem dX4_bestStore_50 : decode cX4_bestStore 50 = .ok (.iload_n 1, 1) := by decide +kernel
theorem dX4_bestStore_51 : decode cX4_bestStore 51 = .ok (.invokevirtual 103, 3) := by decide +kernel
theorem dX4_bestStore_54 : decode cX4_bestStore 54 = .ok (.if_icmp .ge 7, 3) := by decide +kernel
theorem dX4_bestStore_57 : decode cX4_bestStore 57 = .ok (.iconst 1, 1) := by decide +kernel
theorem dX4_bestStore_58 : decode cX4_bestStore 58 = .ok (.goto 4, 3) := by decide +kernel
theorem dX4_bestStore_61 : decode cX4_bestStore 61 = .ok (.iconst 0, 1) := by decide +kernel
theorem dX4_bestStore_62 : decode cX4_bestStore 62 = .ok (.istore 4, 2) := by decide +kernel
theorem dX4_bestStore_64 : decode cX4_bestStore 64 = .ok (.iload_n 3, 1) := by decide +kernel
theorem dX4_bestStore_65 : decode cX4_bestStore 65 = .ok (.ifCond .gt 12, 3) := by decide +kernel
theorem dX4_bestStore_68 : decode cX4_bestStore 68 = .ok (.iload_n 3, 1) := by decide +kernel
theorem dX4_bestStore_69 : decode cX4_bestStore 69 = .ok (.ifCond .ne 12, 3) := by decide +kernel
theorem dX4_bestStore_72 : decode cX4_bestStore 72 = .ok (.iload 4, 2) := by decide +kernel
theorem dX4_bestStore_74 : decode cX4_bestStore 74 = .ok (.ifCond .eq 7, 3) := by decide +kernel
theorem dX4_bestStore_77 : decode cX4_bestStore 77 = .ok (.iload_n 2, 1) := by decide +kernel
theorem dX4_bestStore_78 : decode cX4_bestStore 78 = .ok (.goto 4, 3) := by decide +kernel
theorem dX4_bestStore_81 : decode cX4_bestStore 81 = .ok (.iload_n 1, 1) := by decide +kernel
theorem dX4_bestStore_82 : decode cX4_bestStore 82 = .ok (.istore_n 1, 1) := by decide +kernel
theorem dX4_bestStore_83 : decode cX4_bestStore 83 = .ok (.iinc 2 1, 3) := by decide +kernel
theorem dX4_bestStore_86 : decode cX4_bestStore 86 = .ok (.goto (-82), 3) := by decide +kernel
theorem dX4_bestStore_89 : decode cX4_bestStore 89 = .ok (.iload_n 1, 1) := by decide +kernel
theorem dX4_bestStore_90 : decode cX4_bestStore 90 = .ok (.ireturn, 1) := by decide +kernel
theorem dX4_callHealthiest_0 : decode cX4_callHealthiest 0 = .ok (.aload_n 0, 1) := by decide +kernel
theorem dX4_callHealthiest_1 : decode cX4_callHealthiest 1 = .ok (.iconst 0, 1) := by decide +kernel
theorem dX4_callHealthiest_2 : decode cX4_callHealthiest 2 = .ok (.putfield 25, 3) := by decide +kernel
theorem dX4_callHealthiest_5 : decode cX4_callHealthiest 5 = .ok (.aload_n 0, 1) := by decide +kernel
theorem dX4_callHealthiest_6 : decode cX4_callHealthiest 6 = .ok (.getfield 7, 3) := by decide +kernel
theorem dX4_callHealthiest_9 : decode cX4_callHealthiest 9 = .ok (.bipush 9, 2) := by decide +kernel
theorem dX4_callHealthiest_11 : decode cX4_callHealthiest 11 = .ok (.iaload, 1) := by decide +kernel
theorem dX4_callHealthiest_12 : decode cX4_callHealthiest 12 = .ok (.bipush 16, 2) := by decide +kernel
theorem dX4_callHealthiest_14 : decode cX4_callHealthiest 14 = .ok (.if_icmp .ne 9, 3) := by decide +kernel
theorem dX4_callHealthiest_17 : decode cX4_callHealthiest 17 = .ok (.aload_n 0, 1) := by decide +kernel
theorem dX4_callHealthiest_18 : decode cX4_callHealthiest 18 = .ok (.iconst 1, 1) := by decide +kernel
theorem dX4_callHealthiest_19 : decode cX4_callHealthiest 19 = .ok (.invokevirtual 93, 3) := by decide +kernel
theorem dX4_callHealthiest_22 : decode cX4_callHealthiest 22 = .ok (.ireturn, 1) := by decide +kernel
theorem dX4_callHealthiest_23 : decode cX4_callHealthiest 23 = .ok (.aload_n 0, 1) := by decide +kernel
theorem dX4_callHealthiest_24 : decode cX4_callHealthiest 24 = .ok (.invokevirtual 96, 3) := by decide +kernel
theorem dX4_callHealthiest_27 : decode cX4_callHealthiest 27 = .ok (.aload_n 0, 1) := by decide +kernel
theorem dX4_callHealthiest_28 : decode cX4_callHealthiest 28 = .ok (.invokevirtual 106, 3) := by decide +kernel
theorem dX4_callHealthiest_31 : decode cX4_callHealthiest 31 = .ok (.istore_n 1, 1) := by decide +kernel
theorem dX4_callHealthiest_32 : decode cX4_callHealthiest 32 = .ok (.iload_n 1, 1) := by decide +kernel
theorem dX4_callHealthiest_33 : decode cX4_callHealthiest 33 = .ok (.iconst (-1), 1) := by decide +kernel
theorem dX4_callHealthiest_34 : decode cX4_callHealthiest 34 = .ok (.if_icmp .eq 9, 3) := by decide +kernel
theorem dX4_callHealthiest_37 : decode cX4_callHealthiest 37 = .ok (.aload_n 0, 1) := by decide +kernel
theorem dX4_callHealthiest_38 : decode cX4_callHealthiest 38 = .ok (.iload_n 1, 1) := by decide +kernel
theorem dX4_callHealthiest_39 : decode cX4_callHealthiest 39 = .ok (.invokevirtual 84, 3) := by decide +kernel
theorem dX4_callHealthiest_42 : decode cX4_callHealthiest 42 = .ok (.pop, 1) := by decide +kernel
theorem dX4_callHealthiest_43 : decode cX4_callHealthiest 43 = .ok (.iload_n 1, 1) := by decide +kernel
theorem dX4_callHealthiest_44 : decode cX4_callHealthiest 44 = .ok (.ireturn, 1) := by decide +kernel
theorem dX4_close_0 : decode cX4_close 0 = .ok (.aload_n 0, 1) := by decide +kernel
theorem dX4_close_1 : decode cX4_close 1 = .ok (.iconst 0, 1) := by decide +kernel
theorem dX4_close_2 : decode cX4_close 2 = .ok (.putfield 25, 3) := by decide +kernel
theorem dX4_close_5 : decode cX4_close 5 = .ok (.iload_n 1, 1) := by decide +kernel
theorem dX4_close_6 : decode cX4_close 6 = .ok (.invokestatic 90, 3) := by decide +kernel
theorem dX4_close_9 : decode cX4_close 9 = .ok (.ifCond .ne 9, 3) := by decide +kernel
theorem dX4_close_12 : decode cX4_close 12 = .ok (.aload_n 0, 1) := by decide +kernel
theorem dX4_close_13 : decode cX4_close 13 = .ok (.iconst 1, 1) := by decide +kernel
theorem dX4_close_14 : decode cX4_close 14 = .ok (.invokevirtual 93, 3) := by decide +kernel
theorem dX4_close_17 : decode cX4_close 17 = .ok (.ireturn, 1) := by decide +kernel
theorem dX4_close_18 : decode cX4_close 18 = .ok (.aload_n 0, 1) := by decide +kernel
theorem dX4_close_19 : decode cX4_close 19 = .ok (.invokevirtual 96, 3) := by decide +kernel
theorem dX4_close_22 : decode cX4_close 22 = .ok (.aload_n 0, 1) := by decide +kernel
theorem dX4_close_23 : decode cX4_close 23 = .ok (.iload_n 1, 1) := by decide +kernel
theorem dX4_close_24 : decode cX4_close 24 = .ok (.iconst 2, 1) := by decide +kernel
theorem dX4_close_25 : decode cX4_close 25 = .ok (.invokevirtual 40, 3) := by decide +kernel
theorem dX4_close_28 : decode cX4_close 28 = .ok (.istore_n 2, 1) := by decide +kernel
theorem dX4_close_29 : decode cX4_close 29 = .ok (.iconst 0, 1) := by decide +kernel
theorem dX4_close_30 : decode cX4_close 30 = .ok (.istore_n 3, 1) := by decide +kernel
theorem dX4_close_31 : decode cX4_close 31 = .ok (.iload_n 3, 1) := by decide +kernel
theorem dX4_close_32 : decode cX4_close 32 = .ok (.aload_n 0, 1) := by decide +kernel
theorem dX4_close_33 : decode cX4_close 33 = .ok (.getfield 7, 3) := by decide +kernel
theorem dX4_close_36 : decode cX4_close 36 = .ok (.bipush 9, 2) := by decide +kernel
theorem dX4_close_38 : decode cX4_close 38 = .ok (.iaload, 1) := by decide +kernel
theorem dX4_close_39 : decode cX4_close 39 = .ok (.if_icmp .ge 33, 3) := by decide +kernel
theorem dX4_close_42 : decode cX4_close 42 = .ok (.aload_n 0, 1) := by decide +kernel
theorem dX4_close_43 : decode cX4_close 43 = .ok (.iload_n 3, 1) := by decide +kernel
theorem dX4_close_44 : decode cX4_close 44 = .ok (.iconst 0, 1) := by decide +kernel
theorem dX4_close_45 : decode cX4_close 45 = .ok (.invokevirtual 63, 3) := by decide +kernel
theorem dX4_close_48 : decode cX4_close 48 = .ok (.iload_n 1, 1) := by decide +kernel
theorem dX4_close_49 : decode cX4_close 49 = .ok (.if_icmp .ne 17, 3) := by decide +kernel
theorem dX4_close_52 : decode cX4_close 52 = .ok (.aload_n 0, 1) := by decide +kernel
theorem dX4_close_53 : decode cX4_close 53 = .ok (.getfield 7, 3) := by decide +kernel
theorem dX4_close_56 : decode cX4_close 56 = .ok (.bipush 10, 2) := by decide +kernel
theorem dX4_close_58 : decode cX4_close 58 = .ok (.iconst 5, 1) := by decide +kernel
theorem dX4_close_59 : decode cX4_close 59 = .ok (.iload_n 3, 1) := by decide +kernel
theorem dX4_close_60 : decode cX4_close 60 = .ok (.imul, 1) := by decide +kernel
theorem dX4_close_61 : decode cX4_close 61 = .ok (.iadd, 1) := by decide +kernel
theorem dX4_close_62 : decode cX4_close 62 = .ok (.iconst 3, 1) := by decide +kernel
theorem dX4_close_63 : decode cX4_close 63 = .ok (.iadd, 1) := by decide +kernel
theorem dX4_close_64 : decode cX4_close 64 = .ok (.iconst 0, 1) := by decide +kernel
theorem dX4_close_65 : decode cX4_close 65 = .ok (.iastore, 1) := by decide +kernel
theorem dX4_close_66 : decode cX4_close 66 = .ok (.iinc 3 1, 3) := by decide +kernel
theorem dX4_close_69 : decode cX4_close 69 = .ok (.goto (-38), 3) := by decide +kernel
theorem dX4_close_72 : decode cX4_close 72 = .ok (.aload_n 0, 1) := by decide +kernel
theorem dX4_close_73 : decode cX4_close 73 = .ok (.iload_n 1, 1) := by decide +kernel
theorem dX4_close_74 : decode cX4_close 74 = .ok (.invokevirtual 55, 3) := by decide +kernel
theorem dX4_close_77 : decode cX4_close 77 = .ok (.iload_n 2, 1) := by decide +kernel
theorem dX4_close_78 : decode cX4_close 78 = .ok (.ireturn, 1) := by decide +kernel
theorem dX4_isSetting_0 : decode cX4_isSetting 0 = .ok (.iload_n 0, 1) := by decide +kernel
theorem dX4_isSetting_1 : decode cX4_isSetting 1 = .ok (.tableswitch 55 0 3 #[31, 39, 47, 31], 31) := by decide +kernel
theorem dX4_isSetting_32 : decode cX4_isSetting 32 = .ok (.iload_n 1, 1) := by decide +kernel
theorem dX4_isSetting_33 : decode cX4_isSetting 33 = .ok (.iconst 1, 1) := by decide +kernel
theorem dX4_isSetting_34 : decode cX4_isSetting 34 = .ok (.bipush 99, 2) := by decide +kernel
theorem dX4_isSetting_36 : decode cX4_isSetting 36 = .ok (.invokestatic 33, 3) := by decide +kernel
theorem dX4_isSetting_39 : decode cX4_isSetting 39 = .ok (.ireturn, 1) := by decide +kernel
theorem dX4_isSetting_40 : decode cX4_isSetting 40 = .ok (.iload_n 1, 1) := by decide +kernel
theorem dX4_isSetting_41 : decode cX4_isSetting 41 = .ok (.iconst 2, 1) := by decide +kernel
theorem dX4_isSetting_42 : decode cX4_isSetting 42 = .ok (.bipush 16, 2) := by decide +kernel
theorem dX4_isSetting_44 : decode cX4_isSetting 44 = .ok (.invokestatic 33, 3) := by decide +kernel
theorem dX4_isSetting_47 : decode cX4_isSetting 47 = .ok (.ireturn, 1) := by decide +kernel
theorem dX4_isSetting_48 : decode cX4_isSetting 48 = .ok (.iload_n 1, 1) := by decide +kernel
theorem dX4_isSetting_49 : decode cX4_isSetting 49 = .ok (.iconst 1, 1) := by decide +kernel
theorem dX4_isSetting_50 : decode cX4_isSetting 50 = .ok (.bipush 16, 2) := by decide +kernel
theorem dX4_isSetting_52 : decode cX4_isSetting 52 = .ok (.invokestatic 33, 3) := by decide +kernel
theorem dX4_isSetting_55 : decode cX4_isSetting 55 = .ok (.ireturn, 1) := by decide +kernel
theorem dX4_isSetting_56 : decode cX4_isSetting 56 = .ok (.iload_n 1, 1) := by decide +kernel
theorem dX4_isSetting_57 : decode cX4_isSetting 57 = .ok (.iconst 1, 1) := by decide +kernel
theorem dX4_isSetting_58 : decode cX4_isSetting 58 = .ok (.sipush 999, 3) := by decide +kernel
theorem dX4_isSetting_61 : decode cX4_isSetting 61 = .ok (.invokestatic 33, 3) := by decide +kernel
theorem dX4_isSetting_64 : decode cX4_isSetting 64 = .ok (.ireturn, 1) := by decide +kernel
theorem dX4_set_0 : decode cX4_set 0 = .ok (.aload_n 0, 1) := by decide +kernel
theorem dX4_set_1 : decode cX4_set 1 = .ok (.iconst 0, 1) := by decide +kernel
theorem dX4_set_2 : decode cX4_set 2 = .ok (.putfield 25, 3) := by decide +kernel
theorem dX4_set_5 : decode cX4_set 5 = .ok (.iload_n 1, 1) := by decide +kernel
theorem dX4_set_6 : decode cX4_set 6 = .ok (.iconst 0, 1) := by decide +kernel
theorem dX4_set_7 : decode cX4_set 7 = .ok (.iconst 4, 1) := by decide +kernel
theorem dX4_set_8 : decode cX4_set 8 = .ok (.invokestatic 33, 3) := by decide +kernel
theorem dX4_set_11 : decode cX4_set 11 = .ok (.ifCond .ne 9, 3) := by decide +kernel
theorem dX4_set_14 : decode cX4_set 14 = .ok (.aload_n 0, 1) := by decide +kernel
theorem dX4_set_15 : decode cX4_set 15 = .ok (.iconst 1, 1) := by decide +kernel
theorem dX4_set_16 : decode cX4_set 16 = .ok (.invokevirtual 93, 3) := by decide +kernel
theorem dX4_set_19 : decode cX4_set 19 = .ok (.ireturn, 1) := by decide +kernel
theorem dX4_set_20 : decode cX4_set 20 = .ok (.iload_n 1, 1) := by decide +kernel
theorem dX4_set_21 : decode cX4_set 21 = .ok (.iload_n 2, 1) := by decide +kernel
theorem dX4_set_22 : decode cX4_set 22 = .ok (.invokestatic 109, 3) := by decide +kernel
theorem dX4_set_25 : decode cX4_set 25 = .ok (.ifCond .ne 9, 3) := by decide +kernel
theorem dX4_set_28 : decode cX4_set 28 = .ok (.aload_n 0, 1) := by decide +kernel
theorem dX4_set_29 : decode cX4_set 29 = .ok (.iconst 2, 1) := by decide +kernel
theorem dX4_set_30 : decode cX4_set 30 = .ok (.invokevirtual 93, 3) := by decide +kernel
theorem dX4_set_33 : decode cX4_set 33 = .ok (.ireturn, 1) := by decide +kernel
theorem dX4_set_34 : decode cX4_set 34 = .ok (.aload_n 0, 1) := by decide +kernel
theorem dX4_set_35 : decode cX4_set 35 = .ok (.invokevirtual 96, 3) := by decide +kernel
theorem dX4_set_38 : decode cX4_set 38 = .ok (.aload_n 0, 1) := by decide +kernel
theorem dX4_set_39 : decode cX4_set 39 = .ok (.getfield 7, 3) := by decide +kernel
theorem dX4_set_42 : decode cX4_set 42 = .ok (.iload_n 1, 1) := by decide +kernel
theorem dX4_set_43 : decode cX4_set 43 = .ok (.iaload, 1) := by decide +kernel
theorem dX4_set_44 : decode cX4_set 44 = .ok (.istore_n 3, 1) := by decide +kernel
theorem dX4_set_45 : decode cX4_set 45 = .ok (.aload_n 0, 1) := by decide +kernel
theorem dX4_set_46 : decode cX4_set 46 = .ok (.getfield 7, 3) := by decide +kernel
theorem dX4_set_49 : decode cX4_set 49 = .ok (.iload_n 1, 1) := by decide +kernel
theorem dX4_set_50 : decode cX4_set 50 = .ok (.iload_n 2, 1) := by decide +kernel
theorem dX4_set_51 : decode cX4_set 51 = .ok (.iastore, 1) := by decide +kernel
theorem dX4_set_52 : decode cX4_set 52 = .ok (.iload_n 3, 1) := by decide +kernel
theorem dX4_set_53 : decode cX4_set 53 = .ok (.ireturn, 1) := by decide +kernel
theorem dX4_pass_0 : decode cX4_pass 0 = .ok (.aload_n 0, 1) := by decide +kernel
theorem dX4_pass_1 : decode cX4_pass 1 = .ok (.iconst 0, 1) := by decide +kernel
theorem dX4_pass_2 : decode cX4_pass 2 = .ok (.putfield 25, 3) := by decide +kernel
theorem dX4_pass_5 : decode cX4_pass 5 = .ok (.iload_n 1, 1) := by decide +kernel
theorem dX4_pass_6 : decode cX4_pass 6 = .ok (.iconst 1, 1) := by decide +kernel
theorem dX4_pass_7 : decode cX4_pass 7 = .ok (.sipush 200, 3) := by decide +kernel
theorem dX4_pass_10 : decode cX4_pass 10 = .ok (.invokestatic 33, 3) := by decide +kernel
theorem dX4_pass_13 : decode cX4_pass 13 = .ok (.ifCond .ne 9, 3) := by decide +kernel
theorem dX4_pass_16 : decode cX4_pass 16 = .ok (.aload_n 0, 1) := by decide +kernel
theorem dX4_pass_17 : decode cX4_pass 17 = .ok (.iconst 1, 1) := by decide +kernel
theorem dX4_pass_18 : decode cX4_pass 18 = .ok (.invokevirtual 93, 3) := by decide +kernel
theorem dX4_pass_21 : decode cX4_pass 21 = .ok (.ireturn, 1) := by decide +kernel
theorem dX4_pass_22 : decode cX4_pass 22 = .ok (.aload_n 0, 1) := by decide +kernel
theorem dX4_pass_23 : decode cX4_pass 23 = .ok (.invokevirtual 96, 3) := by decide +kernel
theorem dX4_pass_26 : decode cX4_pass 26 = .ok (.aload_n 0, 1) := by decide +kernel
theorem dX4_pass_27 : decode cX4_pass 27 = .ok (.iload_n 1, 1) := by decide +kernel
theorem dX4_pass_28 : decode cX4_pass 28 = .ok (.invokevirtual 87, 3) := by decide +kernel
theorem dX4_pass_31 : decode cX4_pass 31 = .ok (.ireturn, 1) := by decide +kernel
theorem dX4_append_0 : decode cX4_append 0 = .ok (.aload_n 0, 1) := by decide +kernel
theorem dX4_append_1 : decode cX4_append 1 = .ok (.iconst 0, 1) := by decide +kernel
theorem dX4_append_2 : decode cX4_append 2 = .ok (.putfield 25, 3) := by decide +kernel
theorem dX4_append_5 : decode cX4_append 5 = .ok (.iload_n 1, 1) := by decide +kernel
theorem dX4_append_6 : decode cX4_append 6 = .ok (.bipush 33, 2) := by decide +kernel
theorem dX4_append_8 : decode cX4_append 8 = .ok (.bipush 126, 2) := by decide +kernel
theorem dX4_append_10 : decode cX4_append 10 = .ok (.invokestatic 33, 3) := by decide +kernel
theorem dX4_append_13 : decode cX4_append 13 = .ok (.ifCond .ne 9, 3) := by decide +kernel
theorem dX4_append_16 : decode cX4_append 16 = .ok (.aload_n 0, 1) := by decide +kernel
theorem dX4_append_17 : decode cX4_append 17 = .ok (.iconst 1, 1) := by decide +kernel
theorem dX4_append_18 : decode cX4_append 18 = .ok (.invokevirtual 93, 3) := by decide +kernel
theorem dX4_append_21 : decode cX4_append 21 = .ok (.ireturn, 1) := by decide +kernel
theorem dX4_append_22 : decode cX4_append 22 = .ok (.aload_n 0, 1) := by decide +kernel
theorem dX4_append_23 : decode cX4_append 23 = .ok (.getfield 113, 3) := by decide +kernel
theorem dX4_append_26 : decode cX4_append 26 = .ok (.bipush 60, 2) := by decide +kernel
theorem dX4_append_28 : decode cX4_append 28 = .ok (.if_icmp .ne 9, 3) := by decide +kernel
theorem dX4_append_31 : decode cX4_append 31 = .ok (.aload_n 0, 1) := by decide +kernel
theorem dX4_append_32 : decode cX4_append 32 = .ok (.iconst 2, 1) := by decide +kernel
theorem dX4_append_33 : decode cX4_append 33 = .ok (.invokevirtual 93, 3) := by decide +kernel
theorem dX4_append_36 : decode cX4_append 36 = .ok (.ireturn, 1) := by decide +kernel
theorem dX4_append_37 : decode cX4_append 37 = .ok (.aload_n 0, 1) := by decide +kernel
theorem dX4_append_38 : decode cX4_append 38 = .ok (.getfield 19, 3) := by decide +kernel
theorem dX4_append_41 : decode cX4_append 41 = .ok (.aload_n 0, 1) := by decide +kernel
theorem dX4_append_42 : decode cX4_append 42 = .ok (.getfield 113, 3) := by decide +kernel
theorem dX4_append_45 : decode cX4_append 45 = .ok (.iload_n 1, 1) := by decide +kernel
theorem dX4_append_46 : decode cX4_append 46 = .ok (.iastore, 1) := by decide +kernel
theorem dX4_append_47 : decode cX4_append 47 = .ok (.aload_n 0, 1) := by decide +kernel
theorem dX4_append_48 : decode cX4_append 48 = .ok (.dup, 1) := by decide +kernel
theorem dX4_append_49 : decode cX4_append 49 = .ok (.getfield 113, 3) := by decide +kernel
theorem dX4_append_52 : decode cX4_append 52 = .ok (.iconst 1, 1) := by decide +kernel
theorem dX4_append_53 : decode cX4_append 53 = .ok (.iadd, 1) := by decide +kernel
theorem dX4_append_54 : decode cX4_append 54 = .ok (.putfield 113, 3) := by decide +kernel
theorem dX4_append_57 : decode cX4_append 57 = .ok (.aload_n 0, 1) := by decide +kernel
theorem dX4_append_58 : decode cX4_append 58 = .ok (.getfield 113, 3) := by decide +kernel
theorem dX4_append_61 : decode cX4_append 61 = .ok (.ireturn, 1) := by decide +kernel
theorem dX4_clearBuffer_0 : decode cX4_clearBuffer 0 = .ok (.aload_n 0, 1) := by decide +kernel
theorem dX4_clearBuffer_1 : decode cX4_clearBuffer 1 = .ok (.iconst 0, 1) := by decide +kernel
theorem dX4_clearBuffer_2 : decode cX4_clearBuffer 2 = .ok (.putfield 25, 3) := by decide +kernel
theorem dX4_clearBuffer_5 : decode cX4_clearBuffer 5 = .ok (.aload_n 0, 1) := by decide +kernel
theorem dX4_clearBuffer_6 : decode cX4_clearBuffer 6 = .ok (.getfield 113, 3) := by decide +kernel
theorem dX4_clearBuffer_9 : decode cX4_clearBuffer 9 = .ok (.istore_n 1, 1) := by decide +kernel
theorem dX4_clearBuffer_10 : decode cX4_clearBuffer 10 = .ok (.aload_n 0, 1) := by decide +kernel
theorem dX4_clearBuffer_11 : decode cX4_clearBuffer 11 = .ok (.iconst 0, 1) := by decide +kernel
theorem dX4_clearBuffer_12 : decode cX4_clearBuffer 12 = .ok (.putfield 113, 3) := by decide +kernel
theorem dX4_clearBuffer_15 : decode cX4_clearBuffer 15 = .ok (.iload_n 1, 1) := by decide +kernel
theorem dX4_clearBuffer_16 : decode cX4_clearBuffer 16 = .ok (.ireturn, 1) := by decide +kernel
theorem dX4_sign_0 : decode cX4_sign 0 = .ok (.aload_n 0, 1) := by decide +kernel
theorem dX4_sign_1 : decode cX4_sign 1 = .ok (.getfield 116, 3) := by decide +kernel
theorem dX4_sign_4 : decode cX4_sign 4 = .ok (.aload_n 0, 1) := by decide +kernel
theorem dX4_sign_5 : decode cX4_sign 5 = .ok (.getfield 113, 3) := by decide +kernel
theorem dX4_sign_8 : decode cX4_sign 8 = .ok (.if_icmp .ge 15, 3) := by decide +kernel
theorem dX4_sign_11 : decode cX4_sign 11 = .ok (.aload_n 0, 1) := by decide +kernel
theorem dX4_sign_12 : decode cX4_sign 12 = .ok (.getfield 19, 3) := by decide +kernel
theorem dX4_sign_15 : decode cX4_sign 15 = .ok (.aload_n 0, 1) := by decide +kernel
theorem dX4_sign_16 : decode cX4_sign 16 = .ok (.getfield 116, 3) := by decide +kernel
theorem dX4_sign_19 : decode cX4_sign 19 = .ok (.iaload, 1) := by decide +kernel
theorem dX4_sign_20 : decode cX4_sign 20 = .ok (.goto 4, 3) := by decide +kernel
theorem dX4_sign_23 : decode cX4_sign 23 = .ok (.iconst 0, 1) := by decide +kernel
theorem dX4_sign_24 : decode cX4_sign 24 = .ok (.ireturn, 1) := by decide +kernel
theorem dX4_readsNumber_0 : decode cX4_readsNumber 0 = .ok (.aload_n 0, 1) := by decide +kernel
theorem dX4_readsNumber_1 : decode cX4_readsNumber 1 = .ok (.aload_n 0, 1) := by decide +kernel
theorem dX4_readsNumber_2 : decode cX4_readsNumber 2 = .ok (.invokevirtual 119, 3) := by decide +kernel
theorem dX4_readsNumber_5 : decode cX4_readsNumber 5 = .ok (.bipush 48, 2) := by decide +kernel
theorem dX4_readsNumber_7 : decode cX4_readsNumber 7 = .ok (.bipush 57, 2) := by decide +kernel
theorem dX4_readsNumber_9 : decode cX4_readsNumber 9 = .ok (.invokestatic 33, 3) := by decide +kernel
theorem dX4_readsNumber_12 : decode cX4_readsNumber 12 = .ok (.putfield 122, 3) := by decide +kernel
theorem dX4_readsNumber_15 : decode cX4_readsNumber 15 = .ok (.aload_n 0, 1) := by decide +kernel
theorem dX4_readsNumber_16 : decode cX4_readsNumber 16 = .ok (.invokevirtual 119, 3) := by decide +kernel
theorem dX4_readsNumber_19 : decode cX4_readsNumber 19 = .ok (.bipush 48, 2) := by decide +kernel
theorem dX4_readsNumber_21 : decode cX4_readsNumber 21 = .ok (.isub, 1) := by decide +kernel
theorem dX4_readsNumber_22 : decode cX4_readsNumber 22 = .ok (.istore_n 1, 1) := by decide +kernel
theorem dX4_readsNumber_23 : decode cX4_readsNumber 23 = .ok (.aload_n 0, 1) := by decide +kernel
theorem dX4_readsNumber_24 : decode cX4_readsNumber 24 = .ok (.dup, 1) := by decide +kernel
theorem dX4_readsNumber_25 : decode cX4_readsNumber 25 = .ok (.getfield 116, 3) := by decide +kernel
theorem dX4_readsNumber_28 : decode cX4_readsNumber 28 = .ok (.aload_n 0, 1) := by decide +kernel
theorem dX4_readsNumber_29 : decode cX4_readsNumber 29 = .ok (.getfield 122, 3) := by decide +kernel
theorem dX4_readsNumber_32 : decode cX4_readsNumber 32 = .ok (.ifCond .eq 7, 3) := by decide +kernel
theorem dX4_readsNumber_35 : decode cX4_readsNumber 35 = .ok (.iconst 1, 1) := by decide +kernel
theorem dX4_readsNumber_36 : decode cX4_readsNumber 36 = .ok (.goto 4, 3) := by decide +kernel
theorem dX4_readsNumber_39 : decode cX4_readsNumber 39 = .ok (.iconst 0, 1) := by decide +kernel
theorem dX4_readsNumber_40 : decode cX4_readsNumber 40 = .ok (.iadd, 1) := by decide +kernel
theorem dX4_readsNumber_41 : decode cX4_readsNumber 41 = .ok (.putfield 116, 3) := by decide +kernel
theorem dX4_readsNumber_44 : decode cX4_readsNumber 44 = .ok (.aload_n 0, 1) := by decide +kernel
theorem dX4_readsNumber_45 : decode cX4_readsNumber 45 = .ok (.getfield 122, 3) := by decide +kernel
theorem dX4_readsNumber_48 : decode cX4_readsNumber 48 = .ok (.ifCond .eq 44, 3) := by decide +kernel
theorem dX4_readsNumber_51 : decode cX4_readsNumber 51 = .ok (.iload_n 1, 1) := by decide +kernel
theorem dX4_readsNumber_52 : decode cX4_readsNumber 52 = .ok (.ifCond .le 40, 3) := by decide +kernel
theorem dX4_readsNumber_55 : decode cX4_readsNumber 55 = .ok (.aload_n 0, 1) := by decide +kernel
theorem dX4_readsNumber_56 : decode cX4_readsNumber 56 = .ok (.invokevirtual 119, 3) := by decide +kernel
theorem dX4_readsNumber_59 : decode cX4_readsNumber 59 = .ok (.bipush 48, 2) := by decide +kernel
theorem dX4_readsNumber_61 : decode cX4_readsNumber 61 = .ok (.bipush 57, 2) := by decide +kernel
theorem dX4_readsNumber_63 : decode cX4_readsNumber 63 = .ok (.invokestatic 33, 3) := by decide +kernel
theorem dX4_readsNumber_66 : decode cX4_readsNumber 66 = .ok (.ifCond .eq 26, 3) := by decide +kernel
theorem dX4_readsNumber_69 : decode cX4_readsNumber 69 = .ok (.bipush 10, 2) := by decide +kernel
theorem dX4_readsNumber_71 : decode cX4_readsNumber 71 = .ok (.iload_n 1, 1) := by decide +kernel
theorem dX4_readsNumber_72 : decode cX4_readsNumber 72 = .ok (.imul, 1) := by decide +kernel
theorem dX4_readsNumber_73 : decode cX4_readsNumber 73 = .ok (.aload_n 0, 1) := by decide +kernel
theorem dX4_readsNumber_74 : decode cX4_readsNumber 74 = .ok (.invokevirtual 119, 3) := by decide +kernel
theorem dX4_readsNumber_77 : decode cX4_readsNumber 77 = .ok (.iadd, 1) := by decide +kernel
theorem dX4_readsNumber_78 : decode cX4_readsNumber 78 = .ok (.bipush 48, 2) := by decide +kernel
theorem dX4_readsNumber_80 : decode cX4_readsNumber 80 = .ok (.isub, 1) := by decide +kernel
theorem dX4_readsNumber_81 : decode cX4_readsNumber 81 = .ok (.istore_n 1, 1) := by decide +kernel
theorem dX4_readsNumber_82 : decode cX4_readsNumber 82 = .ok (.aload_n 0, 1) := by decide +kernel
theorem dX4_readsNumber_83 : decode cX4_readsNumber 83 = .ok (.dup, 1) := by decide +kernel
theorem dX4_readsNumber_84 : decode cX4_readsNumber 84 = .ok (.getfield 116, 3) := by decide +kernel
theorem dX4_readsNumber_87 : decode cX4_readsNumber 87 = .ok (.iconst 1, 1) := by decide +kernel
theorem dX4_readsNumber_88 : decode cX4_readsNumber 88 = .ok (.iadd, 1) := by decide +kernel
theorem dX4_readsNumber_89 : decode cX4_readsNumber 89 = .ok (.putfield 116, 3) := by decide +kernel
theorem dX4_readsNumber_92 : decode cX4_readsNumber 92 = .ok (.aload_n 0, 1) := by decide +kernel
theorem dX4_readsNumber_93 : decode cX4_readsNumber 93 = .ok (.getfield 122, 3) := by decide +kernel
theorem dX4_readsNumber_96 : decode cX4_readsNumber 96 = .ok (.ifCond .eq 23, 3) := by decide +kernel
theorem dX4_readsNumber_99 : decode cX4_readsNumber 99 = .ok (.aload_n 0, 1) := by decide +kernel
theorem dX4_readsNumber_100 : decode cX4_readsNumber 100 = .ok (.getfield 22, 3) := by decide +kernel
theorem dX4_readsNumber_103 : decode cX4_readsNumber 103 = .ok (.aload_n 0, 1) := by decide +kernel
theorem dX4_readsNumber_104 : decode cX4_readsNumber 104 = .ok (.getfield 126, 3) := by decide +kernel
theorem dX4_readsNumber_107 : decode cX4_readsNumber 107 = .ok (.iload_n 1, 1) := by decide +kernel
theorem dX4_readsNumber_108 : decode cX4_readsNumber 108 = .ok (.iastore, 1) := by decide +kernel
theorem dX4_readsNumber_109 : decode cX4_readsNumber 109 = .ok (.aload_n 0, 1) := by decide +kernel
theorem dX4_readsNumber_110 : decode cX4_readsNumber 110 = .ok (.dup, 1) := by decide +kernel
theorem dX4_readsNumber_111 : decode cX4_readsNumber 111 = .ok (.getfield 126, 3) := by decide +kernel
theorem dX4_readsNumber_114 : decode cX4_readsNumber 114 = .ok (.iconst 1, 1) := by decide +kernel
theorem dX4_readsNumber_115 : decode cX4_readsNumber 115 = .ok (.iadd, 1) := by decide +kernel
theorem dX4_readsNumber_116 : decode cX4_readsNumber 116 = .ok (.putfield 126, 3) := by decide +kernel
theorem dX4_readsNumber_119 : decode cX4_readsNumber 119 = .ok (.return_, 1) := by decide +kernel
theorem dX4_readsAll_0 : decode cX4_readsAll 0 = .ok (.aload_n 0, 1) := by decide +kernel
theorem dX4_readsAll_1 : decode cX4_readsAll 1 = .ok (.iconst 0, 1) := by decide +kernel
theorem dX4_readsAll_2 : decode cX4_readsAll 2 = .ok (.putfield 116, 3) := by decide +kernel
theorem dX4_readsAll_5 : decode cX4_readsAll 5 = .ok (.aload_n 0, 1) := by decide +kernel
theorem dX4_readsAll_6 : decode cX4_readsAll 6 = .ok (.iconst 0, 1) := by decide +kernel
theorem dX4_readsAll_7 : decode cX4_readsAll 7 = .ok (.putfield 126, 3) := by decide +kernel
theorem dX4_readsAll_10 : decode cX4_readsAll 10 = .ok (.aload_n 0, 1) := by decide +kernel
theorem dX4_readsAll_11 : decode cX4_readsAll 11 = .ok (.invokevirtual 129, 3) := by decide +kernel
theorem dX4_readsAll_14 : decode cX4_readsAll 14 = .ok (.aload_n 0, 1) := by decide +kernel
theorem dX4_readsAll_15 : decode cX4_readsAll 15 = .ok (.getfield 122, 3) := by decide +kernel
theorem dX4_readsAll_18 : decode cX4_readsAll 18 = .ok (.ifCond .eq 76, 3) := by decide +kernel
theorem dX4_readsAll_21 : decode cX4_readsAll 21 = .ok (.aload_n 0, 1) := by decide +kernel
theorem dX4_readsAll_22 : decode cX4_readsAll 22 = .ok (.getfield 116, 3) := by decide +kernel
theorem dX4_readsAll_25 : decode cX4_readsAll 25 = .ok (.aload_n 0, 1) := by decide +kernel
theorem dX4_readsAll_26 : decode cX4_readsAll 26 = .ok (.getfield 113, 3) := by decide +kernel
theorem dX4_readsAll_29 : decode cX4_readsAll 29 = .ok (.if_icmp .ge 65, 3) := by decide +kernel
theorem dX4_readsAll_32 : decode cX4_readsAll 32 = .ok (.aload_n 0, 1) := by decide +kernel
theorem dX4_readsAll_33 : decode cX4_readsAll 33 = .ok (.aload_n 0, 1) := by decide +kernel
theorem dX4_readsAll_34 : decode cX4_readsAll 34 = .ok (.invokevirtual 119, 3) := by decide +kernel
theorem dX4_readsAll_37 : decode cX4_readsAll 37 = .ok (.bipush 44, 2) := by decide +kernel
theorem dX4_readsAll_39 : decode cX4_readsAll 39 = .ok (.if_icmp .ne 16, 3) := by decide +kernel
theorem dX4_readsAll_42 : decode cX4_readsAll 42 = .ok (.aload_n 0, 1) := by decide +kernel
theorem dX4_readsAll_43 : decode cX4_readsAll 43 = .ok (.getfield 126, 3) := by decide +kernel
theorem dX4_readsAll_46 : decode cX4_readsAll 46 = .ok (.bipush 20, 2) := by decide +kernel
theorem dX4_readsAll_48 : decode cX4_readsAll 48 = .ok (.if_icmp .ge 7, 3) := by decide +kernel
theorem dX4_readsAll_51 : decode cX4_readsAll 51 = .ok (.iconst 1, 1) := by decide +kernel
theorem dX4_readsAll_52 : decode cX4_readsAll 52 = .ok (.goto 4, 3) := by decide +kernel
theorem dX4_readsAll_55 : decode cX4_readsAll 55 = .ok (.iconst 0, 1) := by decide +kernel
theorem dX4_readsAll_56 : decode cX4_readsAll 56 = .ok (.putfield 122, 3) := by decide +kernel
theorem dX4_readsAll_59 : decode cX4_readsAll 59 = .ok (.aload_n 0, 1) := by decide +kernel
theorem dX4_readsAll_60 : decode cX4_readsAll 60 = .ok (.dup, 1) := by decide +kernel
theorem dX4_readsAll_61 : decode cX4_readsAll 61 = .ok (.getfield 116, 3) := by decide +kernel
theorem dX4_readsAll_64 : decode cX4_readsAll 64 = .ok (.aload_n 0, 1) := by decide +kernel
theorem dX4_readsAll_65 : decode cX4_readsAll 65 = .ok (.getfield 122, 3) := by decide +kernel
theorem dX4_readsAll_68 : decode cX4_readsAll 68 = .ok (.ifCond .eq 7, 3) := by decide +kernel
theorem dX4_readsAll_71 : decode cX4_readsAll 71 = .ok (.iconst 1, 1) := by decide +kernel
theorem dX4_readsAll_72 : decode cX4_readsAll 72 = .ok (.goto 4, 3) := by decide +kernel
theorem dX4_readsAll_75 : decode cX4_readsAll 75 = .ok (.iconst 0, 1) := by decide +kernel
theorem dX4_readsAll_76 : decode cX4_readsAll 76 = .ok (.iadd, 1) := by decide +kernel
theorem dX4_readsAll_77 : decode cX4_readsAll 77 = .ok (.putfield 116, 3) := by decide +kernel
theorem dX4_readsAll_80 : decode cX4_readsAll 80 = .ok (.aload_n 0, 1) := by decide +kernel
theorem dX4_readsAll_81 : decode cX4_readsAll 81 = .ok (.getfield 122, 3) := by decide +kernel
theorem dX4_readsAll_84 : decode cX4_readsAll 84 = .ok (.ifCond .eq (-70), 3) := by decide +kernel
theorem dX4_readsAll_87 : decode cX4_readsAll 87 = .ok (.aload_n 0, 1) := by decide +kernel
theorem dX4_readsAll_88 : decode cX4_readsAll 88 = .ok (.invokevirtual 129, 3) := by decide +kernel
theorem dX4_readsAll_91 : decode cX4_readsAll 91 = .ok (.goto (-77), 3) := by decide +kernel
theorem dX4_readsAll_94 : decode cX4_readsAll 94 = .ok (.return_, 1) := by decide +kernel
theorem dX4_firstError_0 : decode cX4_firstError 0 = .ok (.aload_n 0, 1) := by decide +kernel
theorem dX4_firstError_1 : decode cX4_firstError 1 = .ok (.iconst 0, 1) := by decide +kernel
theorem dX4_firstError_2 : decode cX4_firstError 2 = .ok (.putfield 25, 3) := by decide +kernel
theorem dX4_firstError_5 : decode cX4_firstError 5 = .ok (.aload_n 0, 1) := by decide +kernel
theorem dX4_firstError_6 : decode cX4_firstError 6 = .ok (.invokevirtual 132, 3) := by decide +kernel
theorem dX4_firstError_9 : decode cX4_firstError 9 = .ok (.aload_n 0, 1) := by decide +kernel
theorem dX4_firstError_10 : decode cX4_firstError 10 = .ok (.getfield 116, 3) := by decide +kernel
theorem dX4_firstError_13 : decode cX4_firstError 13 = .ok (.ireturn, 1) := by decide +kernel
theorem dX4_delays_0 : decode cX4_delays 0 = .ok (.aload_n 0, 1) := by decide +kernel
theorem dX4_delays_1 : decode cX4_delays 1 = .ok (.iconst 0, 1) := by decide +kernel
theorem dX4_delays_2 : decode cX4_delays 2 = .ok (.putfield 25, 3) := by decide +kernel
theorem dX4_delays_5 : decode cX4_delays 5 = .ok (.iload_n 1, 1) := by decide +kernel
theorem dX4_delays_6 : decode cX4_delays 6 = .ok (.invokestatic 90, 3) := by decide +kernel
theorem dX4_delays_9 : decode cX4_delays 9 = .ok (.ifCond .ne 9, 3) := by decide +kernel
theorem dX4_delays_12 : decode cX4_delays 12 = .ok (.aload_n 0, 1) := by decide +kernel
theorem dX4_delays_13 : decode cX4_delays 13 = .ok (.iconst 1, 1) := by decide +kernel
theorem dX4_delays_14 : decode cX4_delays 14 = .ok (.invokevirtual 93, 3) := by decide +kernel
theorem dX4_delays_17 : decode cX4_delays 17 = .ok (.ireturn, 1) := by decide +kernel
theorem dX4_delays_18 : decode cX4_delays 18 = .ok (.aload_n 0, 1) := by decide +kernel
theorem dX4_delays_19 : decode cX4_delays 19 = .ok (.invokevirtual 132, 3) := by decide +kernel
theorem dX4_delays_22 : decode cX4_delays 22 = .ok (.aload_n 0, 1) := by decide +kernel
theorem dX4_delays_23 : decode cX4_delays 23 = .ok (.getfield 122, 3) := by decide +kernel
theorem dX4_delays_26 : decode cX4_delays 26 = .ok (.ifCond .ne 9, 3) := by decide +kernel
theorem dX4_delays_29 : decode cX4_delays 29 = .ok (.aload_n 0, 1) := by decide +kernel
theorem dX4_delays_30 : decode cX4_delays 30 = .ok (.iconst 2, 1) := by decide +kernel
theorem dX4_delays_31 : decode cX4_delays 31 = .ok (.invokevirtual 93, 3) := by decide +kernel
theorem dX4_delays_34 : decode cX4_delays 34 = .ok (.ireturn, 1) := by decide +kernel
theorem dX4_delays_35 : decode cX4_delays 35 = .ok (.aload_n 0, 1) := by decide +kernel
theorem dX4_delays_36 : decode cX4_delays 36 = .ok (.invokevirtual 96, 3) := by decide +kernel
theorem dX4_delays_39 : decode cX4_delays 39 = .ok (.aload_n 0, 1) := by decide +kernel
theorem dX4_delays_40 : decode cX4_delays 40 = .ok (.iconst 0, 1) := by decide +kernel
theorem dX4_delays_41 : decode cX4_delays 41 = .ok (.putfield 113, 3) := by decide +kernel
theorem dX4_delays_44 : decode cX4_delays 44 = .ok (.aload_n 0, 1) := by decide +kernel
theorem dX4_delays_45 : decode cX4_delays 45 = .ok (.iload_n 1, 1) := by decide +kernel
theorem dX4_delays_46 : decode cX4_delays 46 = .ok (.iconst 0, 1) := by decide +kernel
theorem dX4_delays_47 : decode cX4_delays 47 = .ok (.invokevirtual 40, 3) := by decide +kernel
theorem dX4_delays_50 : decode cX4_delays 50 = .ok (.istore_n 2, 1) := by decide +kernel
theorem dX4_delays_51 : decode cX4_delays 51 = .ok (.iconst 0, 1) := by decide +kernel
theorem dX4_delays_52 : decode cX4_delays 52 = .ok (.istore_n 3, 1) := by decide +kernel
theorem dX4_delays_53 : decode cX4_delays 53 = .ok (.iload_n 3, 1) := by decide +kernel
theorem dX4_delays_54 : decode cX4_delays 54 = .ok (.bipush 20, 2) := by decide +kernel
theorem dX4_delays_56 : decode cX4_delays 56 = .ok (.if_icmp .ge 36, 3) := by decide +kernel
theorem dX4_delays_59 : decode cX4_delays 59 = .ok (.aload_n 0, 1) := by decide +kernel
theorem dX4_delays_60 : decode cX4_delays 60 = .ok (.iload_n 1, 1) := by decide +kernel
theorem dX4_delays_61 : decode cX4_delays 61 = .ok (.bipush 12, 2) := by decide +kernel
theorem dX4_delays_63 : decode cX4_delays 63 = .ok (.iload_n 3, 1) := by decide +kernel
theorem dX4_delays_64 : decode cX4_delays 64 = .ok (.iadd, 1) := by decide +kernel
theorem dX4_delays_65 : decode cX4_delays 65 = .ok (.iload_n 3, 1) := by decide +kernel
theorem dX4_delays_66 : decode cX4_delays 66 = .ok (.aload_n 0, 1) := by decide +kernel
theorem dX4_delays_67 : decode cX4_delays 67 = .ok (.getfield 126, 3) := by decide +kernel
theorem dX4_delays_70 : decode cX4_delays 70 = .ok (.if_icmp .ge 12, 3) := by decide +kernel
theorem dX4_delays_73 : decode cX4_delays 73 = .ok (.aload_n 0, 1) := by decide +kernel
theorem dX4_delays_74 : decode cX4_delays 74 = .ok (.getfield 22, 3) := by decide +kernel
theorem dX4_delays_77 : decode cX4_delays 77 = .ok (.iload_n 3, 1) := by decide +kernel
theorem dX4_delays_78 : decode cX4_delays 78 = .ok (.iaload, 1) := by decide +kernel
theorem dX4_delays_79 : decode cX4_delays 79 = .ok (.goto 4, 3) := by decide +kernel
theorem dX4_delays_82 : decode cX4_delays 82 = .ok (.iconst 0, 1) := by decide +kernel
theorem dX4_delays_83 : decode cX4_delays 83 = .ok (.invokevirtual 29, 3) := by decide +kernel
theorem dX4_delays_86 : decode cX4_delays 86 = .ok (.iinc 3 1, 3) := by decide +kernel
theorem dX4_delays_89 : decode cX4_delays 89 = .ok (.goto (-36), 3) := by decide +kernel
theorem dX4_delays_92 : decode cX4_delays 92 = .ok (.aload_n 0, 1) := by decide +kernel
theorem dX4_delays_93 : decode cX4_delays 93 = .ok (.iload_n 1, 1) := by decide +kernel
theorem dX4_delays_94 : decode cX4_delays 94 = .ok (.iconst 0, 1) := by decide +kernel
theorem dX4_delays_95 : decode cX4_delays 95 = .ok (.aload_n 0, 1) := by decide +kernel
theorem dX4_delays_96 : decode cX4_delays 96 = .ok (.getfield 126, 3) := by decide +kernel
theorem dX4_delays_99 : decode cX4_delays 99 = .ok (.invokevirtual 29, 3) := by decide +kernel
theorem dX4_delays_102 : decode cX4_delays 102 = .ok (.aload_n 0, 1) := by decide +kernel
theorem dX4_delays_103 : decode cX4_delays 103 = .ok (.iload_n 1, 1) := by decide +kernel
theorem dX4_delays_104 : decode cX4_delays 104 = .ok (.iconst 1, 1) := by decide +kernel
theorem dX4_delays_105 : decode cX4_delays 105 = .ok (.iconst 0, 1) := by decide +kernel
theorem dX4_delays_106 : decode cX4_delays 106 = .ok (.invokevirtual 29, 3) := by decide +kernel
theorem dX4_delays_109 : decode cX4_delays 109 = .ok (.iload_n 2, 1) := by decide +kernel
theorem dX4_delays_110 : decode cX4_delays 110 = .ok (.ireturn, 1) := by decide +kernel
theorem dX4_undo_0 : decode cX4_undo 0 = .ok (.aload_n 0, 1) := by decide +kernel
theorem dX4_undo_1 : decode cX4_undo 1 = .ok (.iconst 0, 1) := by decide +kernel
theorem dX4_undo_2 : decode cX4_undo 2 = .ok (.putfield 25, 3) := by decide +kernel
theorem dX4_undo_5 : decode cX4_undo 5 = .ok (.aload_n 0, 1) := by decide +kernel
theorem dX4_undo_6 : decode cX4_undo 6 = .ok (.getfield 37, 3) := by decide +kernel
theorem dX4_undo_9 : decode cX4_undo 9 = .ok (.ifCond .ne 9, 3) := by decide +kernel
theorem dX4_undo_12 : decode cX4_undo 12 = .ok (.aload_n 0, 1) := by decide +kernel
theorem dX4_undo_13 : decode cX4_undo 13 = .ok (.iconst 1, 1) := by decide +kernel
theorem dX4_undo_14 : decode cX4_undo 14 = .ok (.invokevirtual 93, 3) := by decide +kernel
theorem dX4_undo_17 : decode cX4_undo 17 = .ok (.ireturn, 1) := by decide +kernel
theorem dX4_undo_18 : decode cX4_undo 18 = .ok (.aload_n 0, 1) := by decide +kernel
theorem dX4_undo_19 : decode cX4_undo 19 = .ok (.dup, 1) := by decide +kernel
theorem dX4_undo_20 : decode cX4_undo 20 = .ok (.getfield 37, 3) := by decide +kernel
theorem dX4_undo_23 : decode cX4_undo 23 = .ok (.iconst 1, 1) := by decide +kernel
theorem dX4_undo_24 : decode cX4_undo 24 = .ok (.isub, 1) := by decide +kernel
theorem dX4_undo_25 : decode cX4_undo 25 = .ok (.putfield 37, 3) := by decide +kernel
theorem dX4_undo_28 : decode cX4_undo 28 = .ok (.iconst 0, 1) := by decide +kernel
theorem dX4_undo_29 : decode cX4_undo 29 = .ok (.istore_n 1, 1) := by decide +kernel
theorem dX4_undo_30 : decode cX4_undo 30 = .ok (.iload_n 1, 1) := by decide +kernel
theorem dX4_undo_31 : decode cX4_undo 31 = .ok (.sipush 218, 3) := by decide +kernel
theorem dX4_undo_34 : decode cX4_undo 34 = .ok (.if_icmp .ge 30, 3) := by decide +kernel
theorem dX4_undo_37 : decode cX4_undo 37 = .ok (.aload_n 0, 1) := by decide +kernel
theorem dX4_undo_38 : decode cX4_undo 38 = .ok (.getfield 7, 3) := by decide +kernel
theorem dX4_undo_41 : decode cX4_undo 41 = .ok (.iload_n 1, 1) := by decide +kernel
theorem dX4_undo_42 : decode cX4_undo 42 = .ok (.aload_n 0, 1) := by decide +kernel
theorem dX4_undo_43 : decode cX4_undo 43 = .ok (.getfield 16, 3) := by decide +kernel
theorem dX4_undo_46 : decode cX4_undo 46 = .ok (.sipush 218, 3) := by decide +kernel
theorem dX4_undo_49 : decode cX4_undo 49 = .ok (.aload_n 0, 1) := by decide +kernel
theorem dX4_undo_50 : decode cX4_undo 50 = .ok (.getfield 37, 3) := by decide +kernel
theorem dX4_undo_53 : decode cX4_undo 53 = .ok (.imul, 1) := by decide +kernel
theorem dX4_undo_54 : decode cX4_undo 54 = .ok (.iload_n 1, 1) := by decide +kernel
theorem dX4_undo_55 : decode cX4_undo 55 = .ok (.iadd, 1) := by decide +kernel
theorem dX4_undo_56 : decode cX4_undo 56 = .ok (.iaload, 1) := by decide +kernel
theorem dX4_undo_57 : decode cX4_undo 57 = .ok (.iastore, 1) := by decide +kernel
theorem dX4_undo_58 : decode cX4_undo 58 = .ok (.iinc 1 1, 3) := by decide +kernel
theorem dX4_undo_61 : decode cX4_undo 61 = .ok (.goto (-31), 3) := by decide +kernel
theorem dX4_undo_64 : decode cX4_undo 64 = .ok (.aload_n 0, 1) := by decide +kernel
theorem dX4_undo_65 : decode cX4_undo 65 = .ok (.getfield 37, 3) := by decide +kernel
theorem dX4_undo_68 : decode cX4_undo 68 = .ok (.ireturn, 1) := by decide +kernel
theorem dX4_tellsStore_0 : decode cX4_tellsStore 0 = .ok (.iload_n 2, 1) := by decide +kernel
theorem dX4_tellsStore_1 : decode cX4_tellsStore 1 = .ok (.tableswitch 115 0 9 #[55, 62, 68, 74, 81, 89, 89, 89, 101, 107], 55) := by decide +kernel
theorem dX4_tellsStore_56 : decode cX4_tellsStore 56 = .ok (.aload_n 0, 1) := by decide +kernel
theorem dX4_tellsStore_57 : decode cX4_tellsStore 57 = .ok (.iload_n 1, 1) := by decide +kernel
theorem dX4_tellsStore_58 : decode cX4_tellsStore 58 = .ok (.iconst 2, 1) := by decide +kernel
theorem dX4_tellsStore_59 : decode cX4_tellsStore 59 = .ok (.invokevirtual 40, 3) := by decide +kernel
theorem dX4_tellsStore_62 : decode cX4_tellsStore 62 = .ok (.ireturn, 1) := by decide +kernel
theorem dX4_tellsStore_63 : decode cX4_tellsStore 63 = .ok (.aload_n 0, 1) := by decide +kernel
theorem dX4_tellsStore_64 : decode cX4_tellsStore 64 = .ok (.iload_n 1, 1) := by decide +kernel
theorem dX4_tellsStore_65 : decode cX4_tellsStore 65 = .ok (.invokevirtual 44, 3) := by decide +kernel
theorem dX4_tellsStore_68 : decode cX4_tellsStore 68 = .ok (.ireturn, 1) := by decide +kernel
theorem dX4_tellsStore_69 : decode cX4_tellsStore 69 = .ok (.aload_n 0, 1) := by decide +kernel
theorem dX4_tellsStore_70 : decode cX4_tellsStore 70 = .ok (.iload_n 1, 1) := by decide +kernel
theorem dX4_tellsStore_71 : decode cX4_tellsStore 71 = .ok (.invokevirtual 60, 3) := by decide +kernel
theorem dX4_tellsStore_74 : decode cX4_tellsStore 74 = .ok (.ireturn, 1) := by decide +kernel
theorem dX4_tellsStore_75 : decode cX4_tellsStore 75 = .ok (.aload_n 0, 1) := by decide +kernel
theorem dX4_tellsStore_76 : decode cX4_tellsStore 76 = .ok (.iload_n 1, 1) := by decide +kernel
theorem dX4_tellsStore_77 : decode cX4_tellsStore 77 = .ok (.iconst 5, 1) := by decide +kernel
theorem dX4_tellsStore_78 : decode cX4_tellsStore 78 = .ok (.invokevirtual 40, 3) := by decide +kernel
theorem dX4_tellsStore_81 : decode cX4_tellsStore 81 = .ok (.ireturn, 1) := by decide +kernel
theorem dX4_tellsStore_82 : decode cX4_tellsStore 82 = .ok (.aload_n 0, 1) := by decide +kernel
theorem dX4_tellsStore_83 : decode cX4_tellsStore 83 = .ok (.iload_n 1, 1) := by decide +kernel
theorem dX4_tellsStore_84 : decode cX4_tellsStore 84 = .ok (.bipush 6, 2) := by decide +kernel
theorem dX4_tellsStore_86 : decode cX4_tellsStore 86 = .ok (.invokevirtual 40, 3) := by decide +kernel
theorem dX4_tellsStore_89 : decode cX4_tellsStore 89 = .ok (.ireturn, 1) := by decide +kernel
theorem dX4_tellsStore_90 : decode cX4_tellsStore 90 = .ok (.aload_n 0, 1) := by decide +kernel
theorem dX4_tellsStore_91 : decode cX4_tellsStore 91 = .ok (.iload_n 1, 1) := by decide +kernel
theorem dX4_tellsStore_92 : decode cX4_tellsStore 92 = .ok (.bipush 7, 2) := by decide +kernel
theorem dX4_tellsStore_94 : decode cX4_tellsStore 94 = .ok (.iload_n 2, 1) := by decide +kernel
theorem dX4_tellsStore_95 : decode cX4_tellsStore 95 = .ok (.iadd, 1) := by decide +kernel
theorem dX4_tellsStore_96 : decode cX4_tellsStore 96 = .ok (.iconst 5, 1) := by decide +kernel
theorem dX4_tellsStore_97 : decode cX4_tellsStore 97 = .ok (.isub, 1) := by decide +kernel
theorem dX4_tellsStore_98 : decode cX4_tellsStore 98 = .ok (.invokevirtual 40, 3) := by decide +kernel
theorem dX4_tellsStore_101 : decode cX4_tellsStore 101 = .ok (.ireturn, 1) := by decide +kernel
theorem dX4_tellsStore_102 : decode cX4_tellsStore 102 = .ok (.aload_n 0, 1) := by decide +kernel
theorem dX4_tellsStore_103 : decode cX4_tellsStore 103 = .ok (.iload_n 1, 1) := by decide +kernel
theorem dX4_tellsStore_104 : decode cX4_tellsStore 104 = .ok (.invokevirtual 103, 3) := by decide +kernel
theorem dX4_tellsStore_107 : decode cX4_tellsStore 107 = .ok (.ireturn, 1) := by decide +kernel
theorem dX4_tellsStore_108 : decode cX4_tellsStore 108 = .ok (.aload_n 0, 1) := by decide +kernel
theorem dX4_tellsStore_109 : decode cX4_tellsStore 109 = .ok (.iload_n 1, 1) := by decide +kernel
theorem dX4_tellsStore_110 : decode cX4_tellsStore 110 = .ok (.bipush 10, 2) := by decide +kernel
theorem dX4_tellsStore_112 : decode cX4_tellsStore 112 = .ok (.invokevirtual 40, 3) := by decide +kernel
theorem dX4_tellsStore_115 : decode cX4_tellsStore 115 = .ok (.ireturn, 1) := by decide +kernel
theorem dX4_tellsStore_116 : decode cX4_tellsStore 116 = .ok (.aload_n 0, 1) := by decide +kernel
theorem dX4_tellsStore_117 : decode cX4_tellsStore 117 = .ok (.iload_n 1, 1) := by decide +kernel
theorem dX4_tellsStore_118 : decode cX4_tellsStore 118 = .ok (.bipush 12, 2) := by decide +kernel
theorem dX4_tellsStore_120 : decode cX4_tellsStore 120 = .ok (.aload_n 0, 1) := by decide +kernel
theorem dX4_tellsStore_121 : decode cX4_tellsStore 121 = .ok (.iload_n 1, 1) := by decide +kernel
theorem dX4_tellsStore_122 : decode cX4_tellsStore 122 = .ok (.iconst 1, 1) := by decide +kernel
theorem dX4_tellsStore_123 : decode cX4_tellsStore 123 = .ok (.invokevirtual 40, 3) := by decide +kernel
theorem dX4_tellsStore_126 : decode cX4_tellsStore 126 = .ok (.iadd, 1) := by decide +kernel
theorem dX4_tellsStore_127 : decode cX4_tellsStore 127 = .ok (.invokevirtual 40, 3) := by decide +kernel
theorem dX4_tellsStore_130 : decode cX4_tellsStore 130 = .ok (.ireturn, 1) := by decide +kernel
theorem dX4_store_0 : decode cX4_store 0 = .ok (.aload_n 0, 1) := by decide +kernel
theorem dX4_store_1 : decode cX4_store 1 = .ok (.iconst 0, 1) := by decide +kernel
theorem dX4_store_2 : decode cX4_store 2 = .ok (.putfield 25, 3) := by decide +kernel
theorem dX4_store_5 : decode cX4_store 5 = .ok (.iload_n 1, 1) := by decide +kernel
theorem dX4_store_6 : decode cX4_store 6 = .ok (.invokestatic 90, 3) := by decide +kernel
theorem dX4_store_9 : decode cX4_store 9 = .ok (.ifCond .ne 9, 3) := by decide +kernel
theorem dX4_store_12 : decode cX4_store 12 = .ok (.aload_n 0, 1) := by decide +kernel
theorem dX4_store_13 : decode cX4_store 13 = .ok (.iconst 1, 1) := by decide +kernel
theorem dX4_store_14 : decode cX4_store 14 = .ok (.invokevirtual 93, 3) := by decide +kernel
theorem dX4_store_17 : decode cX4_store 17 = .ok (.ireturn, 1) := by decide +kernel
theorem dX4_store_18 : decode cX4_store 18 = .ok (.iload_n 2, 1) := by decide +kernel
theorem dX4_store_19 : decode cX4_store 19 = .ok (.iconst 0, 1) := by decide +kernel
theorem dX4_store_20 : decode cX4_store 20 = .ok (.bipush 10, 2) := by decide +kernel
theorem dX4_store_22 : decode cX4_store 22 = .ok (.invokestatic 33, 3) := by decide +kernel
theorem dX4_store_25 : decode cX4_store 25 = .ok (.ifCond .eq 12, 3) := by decide +kernel
theorem dX4_store_28 : decode cX4_store 28 = .ok (.aload_n 0, 1) := by decide +kernel
theorem dX4_store_29 : decode cX4_store 29 = .ok (.iload_n 1, 1) := by decide +kernel
theorem dX4_store_30 : decode cX4_store 30 = .ok (.iload_n 2, 1) := by decide +kernel
theorem dX4_store_31 : decode cX4_store 31 = .ok (.invokevirtual 135, 3) := by decide +kernel
theorem dX4_store_34 : decode cX4_store 34 = .ok (.goto 8, 3) := by decide +kernel
theorem dX4_store_37 : decode cX4_store 37 = .ok (.aload_n 0, 1) := by decide +kernel
theorem dX4_store_38 : decode cX4_store 38 = .ok (.iconst 2, 1) := by decide +kernel
theorem dX4_store_39 : decode cX4_store 39 = .ok (.invokevirtual 93, 3) := by decide +kernel
theorem dX4_store_42 : decode cX4_store 42 = .ok (.ireturn, 1) := by decide +kernel
theorem dX4_delay_0 : decode cX4_delay 0 = .ok (.aload_n 0, 1) := by decide +kernel
theorem dX4_delay_1 : decode cX4_delay 1 = .ok (.iconst 0, 1) := by decide +kernel
theorem dX4_delay_2 : decode cX4_delay 2 = .ok (.putfield 25, 3) := by decide +kernel
theorem dX4_delay_5 : decode cX4_delay 5 = .ok (.iload_n 1, 1) := by decide +kernel
theorem dX4_delay_6 : decode cX4_delay 6 = .ok (.invokestatic 90, 3) := by decide +kernel
theorem dX4_delay_9 : decode cX4_delay 9 = .ok (.ifCond .ne 9, 3) := by decide +kernel
theorem dX4_delay_12 : decode cX4_delay 12 = .ok (.aload_n 0, 1) := by decide +kernel
theorem dX4_delay_13 : decode cX4_delay 13 = .ok (.iconst 1, 1) := by decide +kernel
theorem dX4_delay_14 : decode cX4_delay 14 = .ok (.invokevirtual 93, 3) := by decide +kernel
theorem dX4_delay_17 : decode cX4_delay 17 = .ok (.ireturn, 1) := by decide +kernel
theorem dX4_delay_18 : decode cX4_delay 18 = .ok (.iload_n 2, 1) := by decide +kernel
theorem dX4_delay_19 : decode cX4_delay 19 = .ok (.ifCond .ge 9, 3) := by decide +kernel
theorem dX4_delay_22 : decode cX4_delay 22 = .ok (.aload_n 0, 1) := by decide +kernel
theorem dX4_delay_23 : decode cX4_delay 23 = .ok (.iconst 2, 1) := by decide +kernel
theorem dX4_delay_24 : decode cX4_delay 24 = .ok (.invokevirtual 93, 3) := by decide +kernel
theorem dX4_delay_27 : decode cX4_delay 27 = .ok (.ireturn, 1) := by decide +kernel
theorem dX4_delay_28 : decode cX4_delay 28 = .ok (.iload_n 2, 1) := by decide +kernel
theorem dX4_delay_29 : decode cX4_delay 29 = .ok (.aload_n 0, 1) := by decide +kernel
theorem dX4_delay_30 : decode cX4_delay 30 = .ok (.iload_n 1, 1) := by decide +kernel
theorem dX4_delay_31 : decode cX4_delay 31 = .ok (.iconst 0, 1) := by decide +kernel
theorem dX4_delay_32 : decode cX4_delay 32 = .ok (.invokevirtual 40, 3) := by decide +kernel
theorem dX4_delay_35 : decode cX4_delay 35 = .ok (.if_icmp .ge 15, 3) := by decide +kernel
theorem dX4_delay_38 : decode cX4_delay 38 = .ok (.aload_n 0, 1) := by decide +kernel
theorem dX4_delay_39 : decode cX4_delay 39 = .ok (.iload_n 1, 1) := by decide +kernel
theorem dX4_delay_40 : decode cX4_delay 40 = .ok (.bipush 12, 2) := by decide +kernel
theorem dX4_delay_42 : decode cX4_delay 42 = .ok (.iload_n 2, 1) := by decide +kernel
theorem dX4_delay_43 : decode cX4_delay 43 = .ok (.iadd, 1) := by decide +kernel
theorem dX4_delay_44 : decode cX4_delay 44 = .ok (.invokevirtual 40, 3) := by decide +kernel
theorem dX4_delay_47 : decode cX4_delay 47 = .ok (.goto 4, 3) := by decide +kernel
theorem dX4_delay_50 : decode cX4_delay 50 = .ok (.iconst (-1), 1) := by decide +kernel
theorem dX4_delay_51 : decode cX4_delay 51 = .ok (.ireturn, 1) := by decide +kernel
theorem dX4_onWay_0 : decode cX4_onWay 0 = .ok (.aload_n 0, 1) := by decide +kernel
theorem dX4_onWay_1 : decode cX4_onWay 1 = .ok (.iconst 0, 1) := by decide +kernel
theorem dX4_onWay_2 : decode cX4_onWay 2 = .ok (.putfield 25, 3) := by decide +kernel
theorem dX4_onWay_5 : decode cX4_onWay 5 = .ok (.iload_n 1, 1) := by decide +kernel
theorem dX4_onWay_6 : decode cX4_onWay 6 = .ok (.ifCond .lt 12, 3) := by decide +kernel
theorem dX4_onWay_9 : decode cX4_onWay 9 = .ok (.iload_n 2, 1) := by decide +kernel
theorem dX4_onWay_10 : decode cX4_onWay 10 = .ok (.iconst 0, 1) := by decide +kernel
theorem dX4_onWay_11 : decode cX4_onWay 11 = .ok (.iconst 3, 1) := by decide +kernel
theorem dX4_onWay_12 : decode cX4_onWay 12 = .ok (.invokestatic 33, 3) := by decide +kernel
theorem dX4_onWay_15 : decode cX4_onWay 15 = .ok (.ifCond .ne 9, 3) := by decide +kernel
theorem dX4_onWay_18 : decode cX4_onWay 18 = .ok (.aload_n 0, 1) := by decide +kernel
theorem dX4_onWay_19 : decode cX4_onWay 19 = .ok (.iconst 1, 1) := by decide +kernel
theorem dX4_onWay_20 : decode cX4_onWay 20 = .ok (.invokevirtual 93, 3) := by decide +kernel
theorem dX4_onWay_23 : decode cX4_onWay 23 = .ok (.ireturn, 1) := by decide +kernel
theorem dX4_onWay_24 : decode cX4_onWay 24 = .ok (.iload_n 1, 1) := by decide +kernel
theorem dX4_onWay_25 : decode cX4_onWay 25 = .ok (.aload_n 0, 1) := by decide +kernel
theorem dX4_onWay_26 : decode cX4_onWay 26 = .ok (.getfield 7, 3) := by decide +kernel
theorem dX4_onWay_29 : decode cX4_onWay 29 = .ok (.bipush 9, 2) := by decide +kernel
theorem dX4_onWay_31 : decode cX4_onWay 31 = .ok (.iaload, 1) := by decide +kernel
theorem dX4_onWay_32 : decode cX4_onWay 32 = .ok (.if_icmp .ge 12, 3) := by decide +kernel
theorem dX4_onWay_35 : decode cX4_onWay 35 = .ok (.aload_n 0, 1) := by decide +kernel
theorem dX4_onWay_36 : decode cX4_onWay 36 = .ok (.iload_n 1, 1) := by decide +kernel
theorem dX4_onWay_37 : decode cX4_onWay 37 = .ok (.iload_n 2, 1) := by decide +kernel
theorem dX4_onWay_38 : decode cX4_onWay 38 = .ok (.invokevirtual 63, 3) := by decide +kernel
theorem dX4_onWay_41 : decode cX4_onWay 41 = .ok (.goto 4, 3) := by decide +kernel
theorem dX4_onWay_44 : decode cX4_onWay 44 = .ok (.iconst (-1), 1) := by decide +kernel
theorem dX4_onWay_45 : decode cX4_onWay 45 = .ok (.ireturn, 1) := by decide +kernel
theorem dX4_overStores_0 : decode cX4_overStores 0 = .ok (.iconst 0, 1) := by decide +kernel
theorem dX4_overStores_1 : decode cX4_overStores 1 = .ok (.istore_n 2, 1) := by decide +kernel
theorem dX4_overStores_2 : decode cX4_overStores 2 = .ok (.iconst 0, 1) := by decide +kernel
theorem dX4_overStores_3 : decode cX4_overStores 3 = .ok (.istore_n 3, 1) := by decide +kernel
theorem dX4_overStores_4 : decode cX4_overStores 4 = .ok (.iload_n 3, 1) := by decide +kernel
theorem dX4_overStores_5 : decode cX4_overStores 5 = .ok (.iconst 4, 1) := by decide +kernel
theorem dX4_overStores_6 : decode cX4_overStores 6 = .ok (.if_icmp .ge 52, 3) := by decide +kernel
theorem dX4_overStores_9 : decode cX4_overStores 9 = .ok (.iload_n 2, 1) := by decide +kernel
theorem dX4_overStores_10 : decode cX4_overStores 10 = .ok (.iload_n 1, 1) := by decide +kernel
theorem dX4_overStores_11 : decode cX4_overStores 11 = .ok (.bipush 6, 2) := by decide +kernel
theorem dX4_overStores_13 : decode cX4_overStores 13 = .ok (.if_icmp .ne 20, 3) := by decide +kernel
theorem dX4_overStores_16 : decode cX4_overStores 16 = .ok (.aload_n 0, 1) := by decide +kernel
theorem dX4_overStores_17 : decode cX4_overStores 17 = .ok (.iload_n 3, 1) := by decide +kernel
theorem dX4_overStores_18 : decode cX4_overStores 18 = .ok (.iconst 2, 1) := by decide +kernel
theorem dX4_overStores_19 : decode cX4_overStores 19 = .ok (.invokevirtual 40, 3) := by decide +kernel
theorem dX4_overStores_22 : decode cX4_overStores 22 = .ok (.ifCond .ne 7, 3) := by decide +kernel
theorem dX4_overStores_25 : decode cX4_overStores 25 = .ok (.iconst 1, 1) := by decide +kernel
theorem dX4_overStores_26 : decode cX4_overStores 26 = .ok (.goto 24, 3) := by decide +kernel
theorem dX4_overStores_29 : decode cX4_overStores 29 = .ok (.iconst 0, 1) := by decide +kernel
theorem dX4_overStores_30 : decode cX4_overStores 30 = .ok (.goto 20, 3) := by decide +kernel
theorem dX4_overStores_33 : decode cX4_overStores 33 = .ok (.aload_n 0, 1) := by decide +kernel
theorem dX4_overStores_34 : decode cX4_overStores 34 = .ok (.iload_n 3, 1) := by decide +kernel
theorem dX4_overStores_35 : decode cX4_overStores 35 = .ok (.iload_n 1, 1) := by decide +kernel
theorem dX4_overStores_36 : decode cX4_overStores 36 = .ok (.iconst 2, 1) := by decide +kernel
theorem dX4_overStores_37 : decode cX4_overStores 37 = .ok (.if_icmp .ne 8, 3) := by decide +kernel
theorem dX4_overStores_40 : decode cX4_overStores 40 = .ok (.bipush 7, 2) := by decide +kernel
theorem dX4_overStores_42 : decode cX4_overStores 42 = .ok (.goto 5, 3) := by decide +kernel
theorem dX4_overStores_45 : decode cX4_overStores 45 = .ok (.bipush 8, 2) := by decide +kernel
theorem dX4_overStores_47 : decode cX4_overStores 47 = .ok (.invokevirtual 40, 3) := by decide +kernel
theorem dX4_overStores_50 : decode cX4_overStores 50 = .ok (.iadd, 1) := by decide +kernel
theorem dX4_overStores_51 : decode cX4_overStores 51 = .ok (.istore_n 2, 1) := by decide +kernel
theorem dX4_overStores_52 : decode cX4_overStores 52 = .ok (.iinc 3 1, 3) := by decide +kernel
theorem dX4_overStores_55 : decode cX4_overStores 55 = .ok (.goto (-51), 3) := by decide +kernel
theorem dX4_overStores_58 : decode cX4_overStores 58 = .ok (.iload_n 2, 1) := by decide +kernel
theorem dX4_overStores_59 : decode cX4_overStores 59 = .ok (.ireturn, 1) := by decide +kernel
theorem dX4_counts_0 : decode cX4_counts 0 = .ok (.iload_n 1, 1) := by decide +kernel
theorem dX4_counts_1 : decode cX4_counts 1 = .ok (.tableswitch 92 0 7 #[47, 54, 62, 62, 68, 76, 62, 84], 47) := by decide +kernel
theorem dX4_counts_48 : decode cX4_counts 48 = .ok (.aload_n 0, 1) := by decide +kernel
theorem dX4_counts_49 : decode cX4_counts 49 = .ok (.getfield 7, 3) := by decide +kernel
theorem dX4_counts_52 : decode cX4_counts 52 = .ok (.iconst 5, 1) := by decide +kernel
theorem dX4_counts_53 : decode cX4_counts 53 = .ok (.iaload, 1) := by decide +kernel
theorem dX4_counts_54 : decode cX4_counts 54 = .ok (.ireturn, 1) := by decide +kernel
theorem dX4_counts_55 : decode cX4_counts 55 = .ok (.aload_n 0, 1) := by decide +kernel
theorem dX4_counts_56 : decode cX4_counts 56 = .ok (.getfield 7, 3) := by decide +kernel
theorem dX4_counts_59 : decode cX4_counts 59 = .ok (.bipush 9, 2) := by decide +kernel
theorem dX4_counts_61 : decode cX4_counts 61 = .ok (.iaload, 1) := by decide +kernel
theorem dX4_counts_62 : decode cX4_counts 62 = .ok (.ireturn, 1) := by decide +kernel
theorem dX4_counts_63 : decode cX4_counts 63 = .ok (.aload_n 0, 1) := by decide +kernel
theorem dX4_counts_64 : decode cX4_counts 64 = .ok (.iload_n 1, 1) := by decide +kernel
theorem dX4_counts_65 : decode cX4_counts 65 = .ok (.invokevirtual 138, 3) := by decide +kernel
theorem dX4_counts_68 : decode cX4_counts 68 = .ok (.ireturn, 1) := by decide +kernel
theorem dX4_counts_69 : decode cX4_counts 69 = .ok (.aload_n 0, 1) := by decide +kernel
theorem dX4_counts_70 : decode cX4_counts 70 = .ok (.getfield 7, 3) := by decide +kernel
theorem dX4_counts_73 : decode cX4_counts 73 = .ok (.bipush 6, 2) := by decide +kernel
theorem dX4_counts_75 : decode cX4_counts 75 = .ok (.iaload, 1) := by decide +kernel
theorem dX4_counts_76 : decode cX4_counts 76 = .ok (.ireturn, 1) := by decide +kernel
theorem dX4_counts_77 : decode cX4_counts 77 = .ok (.aload_n 0, 1) := by decide +kernel
theorem dX4_counts_78 : decode cX4_counts 78 = .ok (.getfield 7, 3) := by decide +kernel
theorem dX4_counts_81 : decode cX4_counts 81 = .ok (.bipush 7, 2) := by decide +kernel
theorem dX4_counts_83 : decode cX4_counts 83 = .ok (.iaload, 1) := by decide +kernel
theorem dX4_counts_84 : decode cX4_counts 84 = .ok (.ireturn, 1) := by decide +kernel
theorem dX4_counts_85 : decode cX4_counts 85 = .ok (.aload_n 0, 1) := by decide +kernel
theorem dX4_counts_86 : decode cX4_counts 86 = .ok (.getfield 7, 3) := by decide +kernel
theorem dX4_counts_89 : decode cX4_counts 89 = .ok (.bipush 8, 2) := by decide +kernel
theorem dX4_counts_91 : decode cX4_counts 91 = .ok (.iaload, 1) := by decide +kernel
theorem dX4_counts_92 : decode cX4_counts 92 = .ok (.ireturn, 1) := by decide +kernel
theorem dX4_counts_93 : decode cX4_counts 93 = .ok (.aload_n 0, 1) := by decide +kernel
theorem dX4_counts_94 : decode cX4_counts 94 = .ok (.getfield 37, 3) := by decide +kernel
theorem dX4_counts_97 : decode cX4_counts 97 = .ok (.ireturn, 1) := by decide +kernel
theorem dX4_count_0 : decode cX4_count 0 = .ok (.aload_n 0, 1) := by decide +kernel
theorem dX4_count_1 : decode cX4_count 1 = .ok (.iconst 0, 1) := by decide +kernel
theorem dX4_count_2 : decode cX4_count 2 = .ok (.putfield 25, 3) := by decide +kernel
theorem dX4_count_5 : decode cX4_count 5 = .ok (.iload_n 1, 1) := by decide +kernel
theorem dX4_count_6 : decode cX4_count 6 = .ok (.iconst 0, 1) := by decide +kernel
theorem dX4_count_7 : decode cX4_count 7 = .ok (.bipush 8, 2) := by decide +kernel
theorem dX4_count_9 : decode cX4_count 9 = .ok (.invokestatic 33, 3) := by decide +kernel
theorem dX4_count_12 : decode cX4_count 12 = .ok (.ifCond .eq 11, 3) := by decide +kernel
theorem dX4_count_15 : decode cX4_count 15 = .ok (.aload_n 0, 1) := by decide +kernel
theorem dX4_count_16 : decode cX4_count 16 = .ok (.iload_n 1, 1) := by decide +kernel
theorem dX4_count_17 : decode cX4_count 17 = .ok (.invokevirtual 141, 3) := by decide +kernel
theorem dX4_count_20 : decode cX4_count 20 = .ok (.goto 8, 3) := by decide +kernel
theorem dX4_count_23 : decode cX4_count 23 = .ok (.aload_n 0, 1) := by decide +kernel
theorem dX4_count_24 : decode cX4_count 24 = .ok (.iconst 1, 1) := by decide +kernel
theorem dX4_count_25 : decode cX4_count 25 = .ok (.invokevirtual 93, 3) := by decide +kernel
theorem dX4_count_28 : decode cX4_count 28 = .ok (.ireturn, 1) := by decide +kernel
theorem dX4_setting_0 : decode cX4_setting 0 = .ok (.aload_n 0, 1) := by decide +kernel
theorem dX4_setting_1 : decode cX4_setting 1 = .ok (.iconst 0, 1) := by decide +kernel
theorem dX4_setting_2 : decode cX4_setting 2 = .ok (.putfield 25, 3) := by decide +kernel
theorem dX4_setting_5 : decode cX4_setting 5 = .ok (.iload_n 1, 1) := by decide +kernel
theorem dX4_setting_6 : decode cX4_setting 6 = .ok (.iconst 0, 1) := by decide +kernel
theorem dX4_setting_7 : decode cX4_setting 7 = .ok (.iconst 4, 1) := by decide +kernel
theorem dX4_setting_8 : decode cX4_setting 8 = .ok (.invokestatic 33, 3) := by decide +kernel
theorem dX4_setting_11 : decode cX4_setting 11 = .ok (.ifCond .eq 12, 3) := by decide +kernel
theorem dX4_setting_14 : decode cX4_setting 14 = .ok (.aload_n 0, 1) := by decide +kernel
theorem dX4_setting_15 : decode cX4_setting 15 = .ok (.getfield 7, 3) := by decide +kernel
theorem dX4_setting_18 : decode cX4_setting 18 = .ok (.iload_n 1, 1) := by decide +kernel
theorem dX4_setting_19 : decode cX4_setting 19 = .ok (.iaload, 1) := by decide +kernel
theorem dX4_setting_20 : decode cX4_setting 20 = .ok (.goto 8, 3) := by decide +kernel
theorem dX4_setting_23 : decode cX4_setting 23 = .ok (.aload_n 0, 1) := by decide +kernel
theorem dX4_setting_24 : decode cX4_setting 24 = .ok (.iconst 1, 1) := by decide +kernel
theorem dX4_setting_25 : decode cX4_setting 25 = .ok (.invokevirtual 93, 3) := by decide +kernel
theorem dX4_setting_28 : decode cX4_setting 28 = .ok (.ireturn, 1) := by decide +kernel
theorem dX4_would_0 : decode cX4_would 0 = .ok (.aload_n 0, 1) := by decide +kernel
theorem dX4_would_1 : decode cX4_would 1 = .ok (.invokevirtual 144, 3) := by decide +kernel
theorem dX4_would_4 : decode cX4_would 4 = .ok (.aload_n 0, 1) := by decide +kernel
theorem dX4_would_5 : decode cX4_would 5 = .ok (.iload_n 1, 1) := by decide +kernel
theorem dX4_would_6 : decode cX4_would 6 = .ok (.iload_n 2, 1) := by decide +kernel
theorem dX4_would_7 : decode cX4_would 7 = .ok (.iload_n 3, 1) := by decide +kernel
theorem dX4_would_8 : decode cX4_would 8 = .ok (.invokevirtual 99, 3) := by decide +kernel
theorem dX4_would_11 : decode cX4_would 11 = .ok (.istore 5, 2) := by decide +kernel
theorem dX4_would_13 : decode cX4_would 13 = .ok (.aload_n 0, 1) := by decide +kernel
theorem dX4_would_14 : decode cX4_would 14 = .ok (.iload_n 1, 1) := by decide +kernel
theorem dX4_would_15 : decode cX4_would 15 = .ok (.bipush 8, 2) := by decide +kernel
theorem dX4_would_17 : decode cX4_would 17 = .ok (.invokevirtual 40, 3) := by decide +kernel
theorem dX4_would_20 : decode cX4_would 20 = .ok (.istore 6, 2) := by decide +kernel
theorem dX4_would_22 : decode cX4_would 22 = .ok (.aload_n 0, 1) := by decide +kernel
theorem dX4_would_23 : decode cX4_would 23 = .ok (.getfield 7, 3) := by decide +kernel
theorem dX4_would_26 : decode cX4_would 26 = .ok (.bipush 6, 2) := by decide +kernel
theorem dX4_would_28 : decode cX4_would 28 = .ok (.iaload, 1) := by decide +kernel
theorem dX4_would_29 : decode cX4_would 29 = .ok (.istore 7, 2) := by decide +kernel
theorem dX4_would_31 : decode cX4_would 31 = .ok (.aload_n 0, 1) := by decide +kernel
theorem dX4_would_32 : decode cX4_would 32 = .ok (.iload_n 1, 1) := by decide +kernel
theorem dX4_would_33 : decode cX4_would 33 = .ok (.iconst 2, 1) := by decide +kernel
theorem dX4_would_34 : decode cX4_would 34 = .ok (.invokevirtual 40, 3) := by decide +kernel
theorem dX4_would_37 : decode cX4_would 37 = .ok (.istore 8, 2) := by decide +kernel
theorem dX4_would_39 : decode cX4_would 39 = .ok (.aload_n 0, 1) := by decide +kernel
theorem dX4_would_40 : decode cX4_would 40 = .ok (.invokevirtual 147, 3) := by decide +kernel
theorem dX4_would_43 : decode cX4_would 43 = .ok (.iload 4, 2) := by decide +kernel
theorem dX4_would_45 : decode cX4_would 45 = .ok (.ifCond .ne 8, 3) := by decide +kernel
theorem dX4_would_48 : decode cX4_would 48 = .ok (.iload 5, 2) := by decide +kernel
theorem dX4_would_50 : decode cX4_would 50 = .ok (.goto 43, 3) := by decide +kernel
theorem dX4_would_53 : decode cX4_would 53 = .ok (.iload 4, 2) := by decide +kernel
theorem dX4_would_55 : decode cX4_would 55 = .ok (.iconst 1, 1) := by decide +kernel
theorem dX4_would_56 : decode cX4_would 56 = .ok (.if_icmp .ne 16, 3) := by decide +kernel
theorem dX4_would_59 : decode cX4_would 59 = .ok (.iload 6, 2) := by decide +kernel
theorem dX4_would_61 : decode cX4_would 61 = .ok (.aload_n 0, 1) := by decide +kernel
theorem dX4_would_62 : decode cX4_would 62 = .ok (.iload_n 1, 1) := by decide +kernel
theorem dX4_would_63 : decode cX4_would 63 = .ok (.bipush 8, 2) := by decide +kernel
theorem dX4_would_65 : decode cX4_would 65 = .ok (.invokevirtual 40, 3) := by decide +kernel
theorem dX4_would_68 : decode cX4_would 68 = .ok (.isub, 1) := by decide +kernel
theorem dX4_would_69 : decode cX4_would 69 = .ok (.goto 24, 3) := by decide +kernel
theorem dX4_would_72 : decode cX4_would 72 = .ok (.iload 4, 2) := by decide +kernel
theorem dX4_would_74 : decode cX4_would 74 = .ok (.iconst 2, 1) := by decide +kernel
theorem dX4_would_75 : decode cX4_would 75 = .ok (.if_icmp .ne 16, 3) := by decide +kernel
theorem dX4_would_78 : decode cX4_would 78 = .ok (.iload 7, 2) := by decide +kernel
theorem dX4_would_80 : decode cX4_would 80 = .ok (.aload_n 0, 1) := by decide +kernel
theorem dX4_would_81 : decode cX4_would 81 = .ok (.getfield 7, 3) := by decide +kernel
theorem dX4_would_84 : decode cX4_would 84 = .ok (.bipush 6, 2) := by decide +kernel
theorem dX4_would_86 : decode cX4_would 86 = .ok (.iaload, 1) := by decide +kernel
theorem dX4_would_87 : decode cX4_would 87 = .ok (.isub, 1) := by decide +kernel
theorem dX4_would_88 : decode cX4_would 88 = .ok (.goto 5, 3) := by decide +kernel
theorem dX4_would_91 : decode cX4_would 91 = .ok (.iload 8, 2) := by decide +kernel
theorem dX4_would_93 : decode cX4_would 93 = .ok (.ireturn, 1) := by decide +kernel
theorem dX4_ifCalled_0 : decode cX4_ifCalled 0 = .ok (.aload_n 0, 1) := by decide +kernel
theorem dX4_ifCalled_1 : decode cX4_ifCalled 1 = .ok (.iconst 0, 1) := by decide +kernel
theorem dX4_ifCalled_2 : decode cX4_ifCalled 2 = .ok (.putfield 25, 3) := by decide +kernel
theorem dX4_ifCalled_5 : decode cX4_ifCalled 5 = .ok (.iload_n 1, 1) := by decide +kernel
theorem dX4_ifCalled_6 : decode cX4_ifCalled 6 = .ok (.invokestatic 90, 3) := by decide +kernel
theorem dX4_ifCalled_9 : decode cX4_ifCalled 9 = .ok (.ifCond .ne 9, 3) := by decide +kernel
theorem dX4_ifCalled_12 : decode cX4_ifCalled 12 = .ok (.aload_n 0, 1) := by decide +kernel
theorem dX4_ifCalled_13 : decode cX4_ifCalled 13 = .ok (.iconst 1, 1) := by decide +kernel
theorem dX4_ifCalled_14 : decode cX4_ifCalled 14 = .ok (.invokevirtual 93, 3) := by decide +kernel
theorem dX4_ifCalled_17 : decode cX4_ifCalled 17 = .ok (.ireturn, 1) := by decide +kernel
theorem dX4_ifCalled_18 : decode cX4_ifCalled 18 = .ok (.iload_n 2, 1) := by decide +kernel
theorem dX4_ifCalled_19 : decode cX4_ifCalled 19 = .ok (.iconst 1, 1) := by decide +kernel
theorem dX4_ifCalled_20 : decode cX4_ifCalled 20 = .ok (.bipush 50, 2) := by decide +kernel
theorem dX4_ifCalled_22 : decode cX4_ifCalled 22 = .ok (.invokestatic 33, 3) := by decide +kernel
theorem dX4_ifCalled_25 : decode cX4_ifCalled 25 = .ok (.ifCond .eq 35, 3) := by decide +kernel
theorem dX4_ifCalled_28 : decode cX4_ifCalled 28 = .ok (.iload_n 3, 1) := by decide +kernel
theorem dX4_ifCalled_29 : decode cX4_ifCalled 29 = .ok (.iconst 0, 1) := by decide +kernel
theorem dX4_ifCalled_30 : decode cX4_ifCalled 30 = .ok (.bipush 50, 2) := by decide +kernel
theorem dX4_ifCalled_32 : decode cX4_ifCalled 32 = .ok (.invokestatic 33, 3) := by decide +kernel
theorem dX4_ifCalled_35 : decode cX4_ifCalled 35 = .ok (.ifCond .eq 25, 3) := by decide +kernel
theorem dX4_ifCalled_38 : decode cX4_ifCalled 38 = .ok (.iload 4, 2) := by decide +kernel
theorem dX4_ifCalled_40 : decode cX4_ifCalled 40 = .ok (.iconst 0, 1) := by decide +kernel
theorem dX4_ifCalled_41 : decode cX4_ifCalled 41 = .ok (.iconst 3, 1) := by decide +kernel
theorem dX4_ifCalled_42 : decode cX4_ifCalled 42 = .ok (.invokestatic 33, 3) := by decide +kernel
theorem dX4_ifCalled_45 : decode cX4_ifCalled 45 = .ok (.ifCond .eq 15, 3) := by decide +kernel
theorem dX4_ifCalled_48 : decode cX4_ifCalled 48 = .ok (.aload_n 0, 1) := by decide +kernel
theorem dX4_ifCalled_49 : decode cX4_ifCalled 49 = .ok (.iload_n 1, 1) := by decide +kernel
theorem dX4_ifCalled_50 : decode cX4_ifCalled 50 = .ok (.iload_n 2, 1) := by decide +kernel
theorem dX4_ifCalled_51 : decode cX4_ifCalled 51 = .ok (.iload_n 3, 1) := by decide +kernel
theorem dX4_ifCalled_52 : decode cX4_ifCalled 52 = .ok (.iload 4, 2) := by decide +kernel
theorem dX4_ifCalled_54 : decode cX4_ifCalled 54 = .ok (.invokevirtual 150, 3) := by decide +kernel
theorem dX4_ifCalled_57 : decode cX4_ifCalled 57 = .ok (.goto 8, 3) := by decide +kernel
theorem dX4_ifCalled_60 : decode cX4_ifCalled 60 = .ok (.aload_n 0, 1) := by decide +kernel
theorem dX4_ifCalled_61 : decode cX4_ifCalled 61 = .ok (.iconst 2, 1) := by decide +kernel
theorem dX4_ifCalled_62 : decode cX4_ifCalled 62 = .ok (.invokevirtual 93, 3) := by decide +kernel
theorem dX4_ifCalled_65 : decode cX4_ifCalled 65 = .ok (.ireturn, 1) := by decide +kernel
theorem dX4_untilFree_0 : decode cX4_untilFree 0 = .ok (.aload_n 0, 1) := by decide +kernel
theorem dX4_untilFree_1 : decode cX4_untilFree 1 = .ok (.invokevirtual 144, 3) := by decide +kernel
theorem dX4_untilFree_4 : decode cX4_untilFree 4 = .ok (.iconst 0, 1) := by decide +kernel
theorem dX4_untilFree_5 : decode cX4_untilFree 5 = .ok (.istore_n 2, 1) := by decide +kernel
theorem dX4_untilFree_6 : decode cX4_untilFree 6 = .ok (.iload_n 2, 1) := by decide +kernel
theorem dX4_untilFree_7 : decode cX4_untilFree 7 = .ok (.sipush 999, 3) := by decide +kernel
theorem dX4_untilFree_10 : decode cX4_untilFree 10 = .ok (.if_icmp .gt 22, 3) := by decide +kernel
theorem dX4_untilFree_13 : decode cX4_untilFree 13 = .ok (.aload_n 0, 1) := by decide +kernel
theorem dX4_untilFree_14 : decode cX4_untilFree 14 = .ok (.iload_n 1, 1) := by decide +kernel
theorem dX4_untilFree_15 : decode cX4_untilFree 15 = .ok (.invokevirtual 70, 3) := by decide +kernel
theorem dX4_untilFree_18 : decode cX4_untilFree 18 = .ok (.ifCond .eq 14, 3) := by decide +kernel
theorem dX4_untilFree_21 : decode cX4_untilFree 21 = .ok (.aload_n 0, 1) := by decide +kernel
theorem dX4_untilFree_22 : decode cX4_untilFree 22 = .ok (.invokevirtual 80, 3) := by decide +kernel
theorem dX4_untilFree_25 : decode cX4_untilFree 25 = .ok (.pop, 1) := by decide +kernel
theorem dX4_untilFree_26 : decode cX4_untilFree 26 = .ok (.iinc 2 1, 3) := by decide +kernel
theorem dX4_untilFree_29 : decode cX4_untilFree 29 = .ok (.goto (-23), 3) := by decide +kernel
theorem dX4_untilFree_32 : decode cX4_untilFree 32 = .ok (.aload_n 0, 1) := by decide +kernel
theorem dX4_untilFree_33 : decode cX4_untilFree 33 = .ok (.invokevirtual 147, 3) := by decide +kernel
theorem dX4_untilFree_36 : decode cX4_untilFree 36 = .ok (.iload_n 2, 1) := by decide +kernel
theorem dX4_untilFree_37 : decode cX4_untilFree 37 = .ok (.sipush 999, 3) := by decide +kernel
theorem dX4_untilFree_40 : decode cX4_untilFree 40 = .ok (.if_icmp .le 7, 3) := by decide +kernel
theorem dX4_untilFree_43 : decode cX4_untilFree 43 = .ok (.iconst (-1), 1) := by decide +kernel
theorem dX4_untilFree_44 : decode cX4_untilFree 44 = .ok (.goto 4, 3) := by decide +kernel
theorem dX4_untilFree_47 : decode cX4_untilFree 47 = .ok (.iload_n 2, 1) := by decide +kernel
theorem dX4_untilFree_48 : decode cX4_untilFree 48 = .ok (.ireturn, 1) := by decide +kernel
theorem dX4_freeIn_0 : decode cX4_freeIn 0 = .ok (.aload_n 0, 1) := by decide +kernel
theorem dX4_freeIn_1 : decode cX4_freeIn 1 = .ok (.iconst 0, 1) := by decide +kernel
theorem dX4_freeIn_2 : decode cX4_freeIn 2 = .ok (.putfield 25, 3) := by decide +kernel
theorem dX4_freeIn_5 : decode cX4_freeIn 5 = .ok (.iload_n 1, 1) := by decide +kernel
theorem dX4_freeIn_6 : decode cX4_freeIn 6 = .ok (.invokestatic 90, 3) := by decide +kernel
theorem dX4_freeIn_9 : decode cX4_freeIn 9 = .ok (.ifCond .eq 11, 3) := by decide +kernel
theorem dX4_freeIn_12 : decode cX4_freeIn 12 = .ok (.aload_n 0, 1) := by decide +kernel
theorem dX4_freeIn_13 : decode cX4_freeIn 13 = .ok (.iload_n 1, 1) := by decide +kernel
theorem dX4_freeIn_14 : decode cX4_freeIn 14 = .ok (.invokevirtual 154, 3) := by decide +kernel
theorem dX4_freeIn_17 : decode cX4_freeIn 17 = .ok (.goto 8, 3) := by decide +kernel
theorem dX4_freeIn_20 : decode cX4_freeIn 20 = .ok (.aload_n 0, 1) := by decide +kernel
theorem dX4_freeIn_21 : decode cX4_freeIn 21 = .ok (.iconst 1, 1) := by decide +kernel
theorem dX4_freeIn_22 : decode cX4_freeIn 22 = .ok (.invokevirtual 93, 3) := by decide +kernel
theorem dX4_freeIn_25 : decode cX4_freeIn 25 = .ok (.ireturn, 1) := by decide +kernel
theorem dX4_healthiest_0 : decode cX4_healthiest 0 = .ok (.aload_n 0, 1) := by decide +kernel
theorem dX4_healthiest_1 : decode cX4_healthiest 1 = .ok (.iconst 0, 1) := by decide +kernel
theorem dX4_healthiest_2 : decode cX4_healthiest 2 = .ok (.putfield 25, 3) := by decide +kernel
theorem dX4_healthiest_5 : decode cX4_healthiest 5 = .ok (.aload_n 0, 1) := by decide +kernel
theorem dX4_healthiest_6 : decode cX4_healthiest 6 = .ok (.invokevirtual 106, 3) := by decide +kernel
theorem dX4_healthiest_9 : decode cX4_healthiest 9 = .ok (.ireturn, 1) := by decide +kernel
theorem dX4_share_0 : decode cX4_share 0 = .ok (.aload_n 0, 1) := by decide +kernel
theorem dX4_share_1 : decode cX4_share 1 = .ok (.getfield 7, 3) := by decide +kernel
theorem dX4_share_4 : decode cX4_share 4 = .ok (.bipush 6, 2) := by decide +kernel
theorem dX4_share_6 : decode cX4_share 6 = .ok (.iaload, 1) := by decide +kernel
theorem dX4_share_7 : decode cX4_share 7 = .ok (.aload_n 0, 1) := by decide +kernel
theorem dX4_share_8 : decode cX4_share 8 = .ok (.getfield 7, 3) := by decide +kernel
theorem dX4_share_11 : decode cX4_share 11 = .ok (.bipush 7, 2) := by decide +kernel
theorem dX4_share_13 : decode cX4_share 13 = .ok (.iaload, 1) := by decide +kernel
theorem dX4_share_14 : decode cX4_share 14 = .ok (.iadd, 1) := by decide +kernel
theorem dX4_share_15 : decode cX4_share 15 = .ok (.istore_n 1, 1) := by decide +kernel
theorem dX4_share_16 : decode cX4_share 16 = .ok (.iload_n 1, 1) := by decide +kernel
theorem dX4_share_17 : decode cX4_share 17 = .ok (.ifCond .ne 7, 3) := by decide +kernel
theorem dX4_share_20 : decode cX4_share 20 = .ok (.dconst 1, 1) := by decide +kernel
theorem dX4_share_21 : decode cX4_share 21 = .ok (.goto 14, 3) := by decide +kernel
theorem dX4_share_24 : decode cX4_share 24 = .ok (.aload_n 0, 1) := by decide +kernel
theorem dX4_share_25 : decode cX4_share 25 = .ok (.getfield 7, 3) := by decide +kernel
theorem dX4_share_28 : decode cX4_share 28 = .ok (.bipush 7, 2) := by decide +kernel
theorem dX4_share_30 : decode cX4_share 30 = .ok (.iaload, 1) := by decide +kernel
theorem dX4_share_31 : decode cX4_share 31 = .ok (.i2d, 1) := by decide +kernel
theorem dX4_share_32 : decode cX4_share 32 = .ok (.iload_n 1, 1) := by decide +kernel
theorem dX4_share_33 : decode cX4_share 33 = .ok (.i2d, 1) := by decide +kernel
theorem dX4_share_34 : decode cX4_share 34 = .ok (.ddiv, 1) := by decide +kernel
theorem dX4_share_35 : decode cX4_share 35 = .ok (.dreturn, 1) := by decide +kernel
theorem dX4_health_0 : decode cX4_health 0 = .ok (.aload_n 0, 1) := by decide +kernel
theorem dX4_health_1 : decode cX4_health 1 = .ok (.iconst 0, 1) := by decide +kernel
theorem dX4_health_2 : decode cX4_health 2 = .ok (.putfield 25, 3) := by decide +kernel
theorem dX4_health_5 : decode cX4_health 5 = .ok (.aload_n 0, 1) := by decide +kernel
theorem dX4_health_6 : decode cX4_health 6 = .ok (.invokevirtual 157, 3) := by decide +kernel
theorem dX4_health_9 : decode cX4_health 9 = .ok (.dreturn, 1) := by decide +kernel
theorem dX4_hashes_0 : decode cX4_hashes 0 = .ok (.aload_n 0, 1) := by decide +kernel
theorem dX4_hashes_1 : decode cX4_hashes 1 = .ok (.ldc2_w 161, 3) := by decide +kernel
theorem dX4_hashes_4 : decode cX4_hashes 4 = .ok (.aload_n 0, 1) := by decide +kernel
theorem dX4_hashes_5 : decode cX4_hashes 5 = .ok (.getfield 163, 3) := by decide +kernel
theorem dX4_hashes_8 : decode cX4_hashes 8 = .ok (.lmul, 1) := by decide +kernel
theorem dX4_hashes_9 : decode cX4_hashes 9 = .ok (.lload_n 1, 1) := by decide +kernel
theorem dX4_hashes_10 : decode cX4_hashes 10 = .ok (.ladd, 1) := by decide +kernel
theorem dX4_hashes_11 : decode cX4_hashes 11 = .ok (.putfield 163, 3) := by decide +kernel
theorem dX4_hashes_14 : decode cX4_hashes 14 = .ok (.return_, 1) := by decide +kernel
theorem dX4_digest_0 : decode cX4_digest 0 = .ok (.aload_n 0, 1) := by decide +kernel
theorem dX4_digest_1 : decode cX4_digest 1 = .ok (.iconst 0, 1) := by decide +kernel
theorem dX4_digest_2 : decode cX4_digest 2 = .ok (.putfield 25, 3) := by decide +kernel
theorem dX4_digest_5 : decode cX4_digest 5 = .ok (.aload_n 0, 1) := by decide +kernel
theorem dX4_digest_6 : decode cX4_digest 6 = .ok (.ldc2_w 167, 3) := by decide +kernel
theorem dX4_digest_9 : decode cX4_digest 9 = .ok (.putfield 163, 3) := by decide +kernel
theorem dX4_digest_12 : decode cX4_digest 12 = .ok (.iconst 0, 1) := by decide +kernel
theorem dX4_digest_13 : decode cX4_digest 13 = .ok (.istore_n 1, 1) := by decide +kernel
theorem dX4_digest_14 : decode cX4_digest 14 = .ok (.iload_n 1, 1) := by decide +kernel
theorem dX4_digest_15 : decode cX4_digest 15 = .ok (.bipush 9, 2) := by decide +kernel
theorem dX4_digest_17 : decode cX4_digest 17 = .ok (.if_icmp .ge 19, 3) := by decide +kernel
theorem dX4_digest_20 : decode cX4_digest 20 = .ok (.aload_n 0, 1) := by decide +kernel
theorem dX4_digest_21 : decode cX4_digest 21 = .ok (.aload_n 0, 1) := by decide +kernel
theorem dX4_digest_22 : decode cX4_digest 22 = .ok (.iload_n 1, 1) := by decide +kernel
theorem dX4_digest_23 : decode cX4_digest 23 = .ok (.invokevirtual 141, 3) := by decide +kernel
theorem dX4_digest_26 : decode cX4_digest 26 = .ok (.i2l, 1) := by decide +kernel
theorem dX4_digest_27 : decode cX4_digest 27 = .ok (.invokevirtual 169, 3) := by decide +kernel
theorem dX4_digest_30 : decode cX4_digest 30 = .ok (.iinc 1 1, 3) := by decide +kernel
theorem dX4_digest_33 : decode cX4_digest 33 = .ok (.goto (-19), 3) := by decide +kernel
theorem dX4_digest_36 : decode cX4_digest 36 = .ok (.iconst 0, 1) := by decide +kernel
theorem dX4_digest_37 : decode cX4_digest 37 = .ok (.istore_n 1, 1) := by decide +kernel
theorem dX4_digest_38 : decode cX4_digest 38 = .ok (.iload_n 1, 1) := by decide +kernel
theorem dX4_digest_39 : decode cX4_digest 39 = .ok (.iconst 5, 1) := by decide +kernel
theorem dX4_digest_40 : decode cX4_digest 40 = .ok (.if_icmp .ge 20, 3) := by decide +kernel
theorem dX4_digest_43 : decode cX4_digest 43 = .ok (.aload_n 0, 1) := by decide +kernel
theorem dX4_digest_44 : decode cX4_digest 44 = .ok (.aload_n 0, 1) := by decide +kernel
theorem dX4_digest_45 : decode cX4_digest 45 = .ok (.getfield 7, 3) := by decide +kernel
theorem dX4_digest_48 : decode cX4_digest 48 = .ok (.iload_n 1, 1) := by decide +kernel
theorem dX4_digest_49 : decode cX4_digest 49 = .ok (.iaload, 1) := by decide +kernel
theorem dX4_digest_50 : decode cX4_digest 50 = .ok (.i2l, 1) := by decide +kernel
theorem dX4_digest_51 : decode cX4_digest 51 = .ok (.invokevirtual 169, 3) := by decide +kernel
theorem dX4_digest_54 : decode cX4_digest 54 = .ok (.iinc 1 1, 3) := by decide +kernel
theorem dX4_digest_57 : decode cX4_digest 57 = .ok (.goto (-19), 3) := by decide +kernel
theorem dX4_digest_60 : decode cX4_digest 60 = .ok (.iconst 0, 1) := by decide +kernel
theorem dX4_digest_61 : decode cX4_digest 61 = .ok (.istore_n 1, 1) := by decide +kernel
theorem dX4_digest_62 : decode cX4_digest 62 = .ok (.iload_n 1, 1) := by decide +kernel
theorem dX4_digest_63 : decode cX4_digest 63 = .ok (.iconst 4, 1) := by decide +kernel
theorem dX4_digest_64 : decode cX4_digest 64 = .ok (.if_icmp .ge 103, 3) := by decide +kernel
theorem dX4_digest_67 : decode cX4_digest 67 = .ok (.iconst 0, 1) := by decide +kernel
theorem dX4_digest_68 : decode cX4_digest 68 = .ok (.istore_n 2, 1) := by decide +kernel
theorem dX4_digest_69 : decode cX4_digest 69 = .ok (.iload_n 2, 1) := by decide +kernel
theorem dX4_digest_70 : decode cX4_digest 70 = .ok (.bipush 11, 2) := by decide +kernel
theorem dX4_digest_72 : decode cX4_digest 72 = .ok (.if_icmp .ge 20, 3) := by decide +kernel
theorem dX4_digest_75 : decode cX4_digest 75 = .ok (.aload_n 0, 1) := by decide +kernel
theorem dX4_digest_76 : decode cX4_digest 76 = .ok (.aload_n 0, 1) := by decide +kernel
theorem dX4_digest_77 : decode cX4_digest 77 = .ok (.iload_n 1, 1) := by decide +kernel
theorem dX4_digest_78 : decode cX4_digest 78 = .ok (.iload_n 2, 1) := by decide +kernel
theorem dX4_digest_79 : decode cX4_digest 79 = .ok (.invokevirtual 135, 3) := by decide +kernel
theorem dX4_digest_82 : decode cX4_digest 82 = .ok (.i2l, 1) := by decide +kernel
theorem dX4_digest_83 : decode cX4_digest 83 = .ok (.invokevirtual 169, 3) := by decide +kernel
theorem dX4_digest_86 : decode cX4_digest 86 = .ok (.iinc 2 1, 3) := by decide +kernel
theorem dX4_digest_89 : decode cX4_digest 89 = .ok (.goto (-20), 3) := by decide +kernel
theorem dX4_digest_92 : decode cX4_digest 92 = .ok (.iconst 0, 1) := by decide +kernel
theorem dX4_digest_93 : decode cX4_digest 93 = .ok (.istore_n 2, 1) := by decide +kernel
theorem dX4_digest_94 : decode cX4_digest 94 = .ok (.iload_n 2, 1) := by decide +kernel
theorem dX4_digest_95 : decode cX4_digest 95 = .ok (.aload_n 0, 1) := by decide +kernel
theorem dX4_digest_96 : decode cX4_digest 96 = .ok (.iload_n 1, 1) := by decide +kernel
theorem dX4_digest_97 : decode cX4_digest 97 = .ok (.iconst 0, 1) := by decide +kernel
theorem dX4_digest_98 : decode cX4_digest 98 = .ok (.invokevirtual 40, 3) := by decide +kernel
theorem dX4_digest_101 : decode cX4_digest 101 = .ok (.if_icmp .ge 23, 3) := by decide +kernel
theorem dX4_digest_104 : decode cX4_digest 104 = .ok (.aload_n 0, 1) := by decide +kernel
theorem dX4_digest_105 : decode cX4_digest 105 = .ok (.aload_n 0, 1) := by decide +kernel
theorem dX4_digest_106 : decode cX4_digest 106 = .ok (.iload_n 1, 1) := by decide +kernel
theorem dX4_digest_107 : decode cX4_digest 107 = .ok (.bipush 12, 2) := by decide +kernel
theorem dX4_digest_109 : decode cX4_digest 109 = .ok (.iload_n 2, 1) := by decide +kernel
theorem dX4_digest_110 : decode cX4_digest 110 = .ok (.iadd, 1) := by decide +kernel
theorem dX4_digest_111 : decode cX4_digest 111 = .ok (.invokevirtual 40, 3) := by decide +kernel
theorem dX4_digest_114 : decode cX4_digest 114 = .ok (.i2l, 1) := by decide +kernel
theorem dX4_digest_115 : decode cX4_digest 115 = .ok (.invokevirtual 169, 3) := by decide +kernel
theorem dX4_digest_118 : decode cX4_digest 118 = .ok (.iinc 2 1, 3) := by decide +kernel
theorem dX4_digest_121 : decode cX4_digest 121 = .ok (.goto (-27), 3) := by decide +kernel
theorem dX4_digest_124 : decode cX4_digest 124 = .ok (.aload_n 0, 1) := by decide +kernel
theorem dX4_digest_125 : decode cX4_digest 125 = .ok (.aload_n 0, 1) := by decide +kernel
theorem dX4_digest_126 : decode cX4_digest 126 = .ok (.iload_n 1, 1) := by decide +kernel
theorem dX4_digest_127 : decode cX4_digest 127 = .ok (.invokevirtual 154, 3) := by decide +kernel
theorem dX4_digest_130 : decode cX4_digest 130 = .ok (.i2l, 1) := by decide +kernel
theorem dX4_digest_131 : decode cX4_digest 131 = .ok (.invokevirtual 169, 3) := by decide +kernel
theorem dX4_digest_134 : decode cX4_digest 134 = .ok (.iconst 0, 1) := by decide +kernel
theorem dX4_digest_135 : decode cX4_digest 135 = .ok (.istore_n 2, 1) := by decide +kernel
theorem dX4_digest_136 : decode cX4_digest 136 = .ok (.iload_n 2, 1) := by decide +kernel
theorem dX4_digest_137 : decode cX4_digest 137 = .ok (.iconst 4, 1) := by decide +kernel
theorem dX4_digest_138 : decode cX4_digest 138 = .ok (.if_icmp .ge 23, 3) := by decide +kernel
theorem dX4_digest_141 : decode cX4_digest 141 = .ok (.aload_n 0, 1) := by decide +kernel
theorem dX4_digest_142 : decode cX4_digest 142 = .ok (.aload_n 0, 1) := by decide +kernel
theorem dX4_digest_143 : decode cX4_digest 143 = .ok (.iload_n 1, 1) := by decide +kernel
theorem dX4_digest_144 : decode cX4_digest 144 = .ok (.bipush 6, 2) := by decide +kernel
theorem dX4_digest_146 : decode cX4_digest 146 = .ok (.iconst 3, 1) := by decide +kernel
theorem dX4_digest_147 : decode cX4_digest 147 = .ok (.iload_n 2, 1) := by decide +kernel
theorem dX4_digest_148 : decode cX4_digest 148 = .ok (.invokevirtual 150, 3) := by decide +kernel
theorem dX4_digest_151 : decode cX4_digest 151 = .ok (.i2l, 1) := by decide +kernel
theorem dX4_digest_152 : decode cX4_digest 152 = .ok (.invokevirtual 169, 3) := by decide +kernel
theorem dX4_digest_155 : decode cX4_digest 155 = .ok (.iinc 2 1, 3) := by decide +kernel
theorem dX4_digest_158 : decode cX4_digest 158 = .ok (.goto (-22), 3) := by decide +kernel
theorem dX4_digest_161 : decode cX4_digest 161 = .ok (.iinc 1 1, 3) := by decide +kernel
theorem dX4_digest_164 : decode cX4_digest 164 = .ok (.goto (-102), 3) := by decide +kernel
theorem dX4_digest_167 : decode cX4_digest 167 = .ok (.iconst 0, 1) := by decide +kernel
theorem dX4_digest_168 : decode cX4_digest 168 = .ok (.istore_n 1, 1) := by decide +kernel
theorem dX4_digest_169 : decode cX4_digest 169 = .ok (.iload_n 1, 1) := by decide +kernel
theorem dX4_digest_170 : decode cX4_digest 170 = .ok (.iconst 4, 1) := by decide +kernel
theorem dX4_digest_171 : decode cX4_digest 171 = .ok (.aload_n 0, 1) := by decide +kernel
theorem dX4_digest_172 : decode cX4_digest 172 = .ok (.getfield 7, 3) := by decide +kernel
theorem dX4_digest_175 : decode cX4_digest 175 = .ok (.bipush 9, 2) := by decide +kernel
theorem dX4_digest_177 : decode cX4_digest 177 = .ok (.iaload, 1) := by decide +kernel
theorem dX4_digest_178 : decode cX4_digest 178 = .ok (.imul, 1) := by decide +kernel
theorem dX4_digest_179 : decode cX4_digest 179 = .ok (.if_icmp .ge 24, 3) := by decide +kernel
theorem dX4_digest_182 : decode cX4_digest 182 = .ok (.aload_n 0, 1) := by decide +kernel
theorem dX4_digest_183 : decode cX4_digest 183 = .ok (.aload_n 0, 1) := by decide +kernel
theorem dX4_digest_184 : decode cX4_digest 184 = .ok (.iload_n 1, 1) := by decide +kernel
theorem dX4_digest_185 : decode cX4_digest 185 = .ok (.iconst 4, 1) := by decide +kernel
theorem dX4_digest_186 : decode cX4_digest 186 = .ok (.idiv, 1) := by decide +kernel
theorem dX4_digest_187 : decode cX4_digest 187 = .ok (.iload_n 1, 1) := by decide +kernel
theorem dX4_digest_188 : decode cX4_digest 188 = .ok (.iconst 4, 1) := by decide +kernel
theorem dX4_digest_189 : decode cX4_digest 189 = .ok (.irem, 1) := by decide +kernel
theorem dX4_digest_190 : decode cX4_digest 190 = .ok (.invokevirtual 63, 3) := by decide +kernel
theorem dX4_digest_193 : decode cX4_digest 193 = .ok (.i2l, 1) := by decide +kernel
theorem dX4_digest_194 : decode cX4_digest 194 = .ok (.invokevirtual 169, 3) := by decide +kernel
theorem dX4_digest_197 : decode cX4_digest 197 = .ok (.iinc 1 1, 3) := by decide +kernel
theorem dX4_digest_200 : decode cX4_digest 200 = .ok (.goto (-31), 3) := by decide +kernel
theorem dX4_digest_203 : decode cX4_digest 203 = .ok (.aload_n 0, 1) := by decide +kernel
theorem dX4_digest_204 : decode cX4_digest 204 = .ok (.aload_n 0, 1) := by decide +kernel
theorem dX4_digest_205 : decode cX4_digest 205 = .ok (.invokevirtual 106, 3) := by decide +kernel
theorem dX4_digest_208 : decode cX4_digest 208 = .ok (.i2l, 1) := by decide +kernel
theorem dX4_digest_209 : decode cX4_digest 209 = .ok (.invokevirtual 169, 3) := by decide +kernel
theorem dX4_digest_212 : decode cX4_digest 212 = .ok (.aload_n 0, 1) := by decide +kernel
theorem dX4_digest_213 : decode cX4_digest 213 = .ok (.aload_n 0, 1) := by decide +kernel
theorem dX4_digest_214 : decode cX4_digest 214 = .ok (.invokevirtual 157, 3) := by decide +kernel
theorem dX4_digest_217 : decode cX4_digest 217 = .ok (.invokestatic 173, 3) := by decide +kernel
theorem dX4_digest_220 : decode cX4_digest 220 = .ok (.invokevirtual 169, 3) := by decide +kernel
theorem dX4_digest_223 : decode cX4_digest 223 = .ok (.aload_n 0, 1) := by decide +kernel
theorem dX4_digest_224 : decode cX4_digest 224 = .ok (.aload_n 0, 1) := by decide +kernel
theorem dX4_digest_225 : decode cX4_digest 225 = .ok (.getfield 113, 3) := by decide +kernel
theorem dX4_digest_228 : decode cX4_digest 228 = .ok (.i2l, 1) := by decide +kernel
theorem dX4_digest_229 : decode cX4_digest 229 = .ok (.invokevirtual 169, 3) := by decide +kernel
theorem dX4_digest_232 : decode cX4_digest 232 = .ok (.iconst 0, 1) := by decide +kernel
theorem dX4_digest_233 : decode cX4_digest 233 = .ok (.istore_n 1, 1) := by decide +kernel
theorem dX4_digest_234 : decode cX4_digest 234 = .ok (.iload_n 1, 1) := by decide +kernel
theorem dX4_digest_235 : decode cX4_digest 235 = .ok (.aload_n 0, 1) := by decide +kernel
theorem dX4_digest_236 : decode cX4_digest 236 = .ok (.getfield 113, 3) := by decide +kernel
theorem dX4_digest_239 : decode cX4_digest 239 = .ok (.if_icmp .ge 20, 3) := by decide +kernel
theorem dX4_digest_242 : decode cX4_digest 242 = .ok (.aload_n 0, 1) := by decide +kernel
theorem dX4_digest_243 : decode cX4_digest 243 = .ok (.aload_n 0, 1) := by decide +kernel
theorem dX4_digest_244 : decode cX4_digest 244 = .ok (.getfield 19, 3) := by decide +kernel
theorem dX4_digest_247 : decode cX4_digest 247 = .ok (.iload_n 1, 1) := by decide +kernel
theorem dX4_digest_248 : decode cX4_digest 248 = .ok (.iaload, 1) := by decide +kernel
theorem dX4_digest_249 : decode cX4_digest 249 = .ok (.i2l, 1) := by decide +kernel
theorem dX4_digest_250 : decode cX4_digest 250 = .ok (.invokevirtual 169, 3) := by decide +kernel
theorem dX4_digest_253 : decode cX4_digest 253 = .ok (.iinc 1 1, 3) := by decide +kernel
theorem dX4_digest_256 : decode cX4_digest 256 = .ok (.goto (-22), 3) := by decide +kernel
theorem dX4_digest_259 : decode cX4_digest 259 = .ok (.aload_n 0, 1) := by decide +kernel
theorem dX4_digest_260 : decode cX4_digest 260 = .ok (.getfield 163, 3) := by decide +kernel
theorem dX4_digest_263 : decode cX4_digest 263 = .ok (.lreturn, 1) := by decide +kernel
