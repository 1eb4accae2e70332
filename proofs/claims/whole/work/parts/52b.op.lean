theorem i_F_open_1 : am_I1 S_c M_F_open 1 3 (.invokevirtual 92) (xN) := ⟨sys_c, ok_F_open, rfl⟩
theorem i_F_open_17 : am_I1 S_c M_F_open 17 3 (.invokevirtual 98) (xN) := ⟨sys_c, ok_F_open, rfl⟩
theorem i_F_open_31 : am_I1 S_c M_F_open 31 1 (.aload_n 0) (xN) := ⟨sys_c, ok_F_open, rfl⟩
theorem i_F_open_32 : am_I1 S_c M_F_open 32 3 (.getfield 34) (xF 0 3 2) := ⟨sys_c, ok_F_open, rfl⟩
theorem i_F_open_35 : am_I1 S_c M_F_open 35 3 (.invokevirtual 102) (xN) := ⟨sys_c, ok_F_open, rfl⟩
theorem i_F_open_38 : am_I1 S_c M_F_open 38 3 (.ifCond .ne (11)) (xJ 49) := ⟨sys_c, ok_F_open, rfl⟩
theorem i_F_open_41 : am_I1 S_c M_F_open 41 1 (.aload_n 0) (xN) := ⟨sys_c, ok_F_open, rfl⟩
theorem i_F_open_42 : am_I1 S_c M_F_open 42 1 (.iconst 2) (xI (2)) := ⟨sys_c, ok_F_open, rfl⟩
theorem i_F_open_43 : am_I1 S_c M_F_open 43 3 (.putfield 95) (xF 0 12 0) := ⟨sys_c, ok_F_open, rfl⟩
theorem i_F_open_46 : am_I1 S_c M_F_open 46 3 (.goto (54)) (xJ 100) := ⟨sys_c, ok_F_open, rfl⟩
theorem i_F_open_49 : am_I1 S_c M_F_open 49 1 (.aload_n 0) (xN) := ⟨sys_c, ok_F_open, rfl⟩
theorem i_F_open_50 : am_I1 S_c M_F_open 50 3 (.getfield 50) (xF 0 5 2) := ⟨sys_c, ok_F_open, rfl⟩
theorem i_F_open_53 : am_I1 S_c M_F_open 53 3 (.invokevirtual 105) (xN) := ⟨sys_c, ok_F_open, rfl⟩
theorem i_F_open_56 : am_I1 S_c M_F_open 56 3 (.ifCond .ne (11)) (xJ 67) := ⟨sys_c, ok_F_open, rfl⟩
theorem i_F_open_59 : am_I1 S_c M_F_open 59 1 (.aload_n 0) (xN) := ⟨sys_c, ok_F_open, rfl⟩
theorem i_F_open_60 : am_I1 S_c M_F_open 60 1 (.iconst 3) (xI (3)) := ⟨sys_c, ok_F_open, rfl⟩
theorem i_F_open_61 : am_I1 S_c M_F_open 61 3 (.putfield 95) (xF 0 12 0) := ⟨sys_c, ok_F_open, rfl⟩
theorem i_F_open_64 : am_I1 S_c M_F_open 64 3 (.goto (36)) (xJ 100) := ⟨sys_c, ok_F_open, rfl⟩
theorem i_F_open_67 : am_I1 S_c M_F_open 67 1 (.aload_n 0) (xN) := ⟨sys_c, ok_F_open, rfl⟩
theorem i_F_open_68 : am_I1 S_c M_F_open 68 3 (.getfield 66) (xF 0 7 2) := ⟨sys_c, ok_F_open, rfl⟩
theorem i_F_open_71 : am_I1 S_c M_F_open 71 3 (.invokevirtual 106) (xN) := ⟨sys_c, ok_F_open, rfl⟩
theorem i_F_open_74 : am_I1 S_c M_F_open 74 3 (.ifCond .ne (11)) (xJ 85) := ⟨sys_c, ok_F_open, rfl⟩
theorem i_F_open_77 : am_I1 S_c M_F_open 77 1 (.aload_n 0) (xN) := ⟨sys_c, ok_F_open, rfl⟩
theorem i_F_open_78 : am_I1 S_c M_F_open 78 1 (.iconst 4) (xI (4)) := ⟨sys_c, ok_F_open, rfl⟩
theorem i_F_open_79 : am_I1 S_c M_F_open 79 3 (.putfield 95) (xF 0 12 0) := ⟨sys_c, ok_F_open, rfl⟩
theorem i_F_open_82 : am_I1 S_c M_F_open 82 3 (.goto (18)) (xJ 100) := ⟨sys_c, ok_F_open, rfl⟩
theorem i_F_open_85 : am_I1 S_c M_F_open 85 1 (.aload_n 0) (xN) := ⟨sys_c, ok_F_open, rfl⟩
theorem i_F_open_86 : am_I1 S_c M_F_open 86 3 (.getfield 75) (xF 0 8 2) := ⟨sys_c, ok_F_open, rfl⟩
theorem i_F_open_89 : am_I1 S_c M_F_open 89 3 (.invokevirtual 107) (xN) := ⟨sys_c, ok_F_open, rfl⟩
theorem i_F_open_92 : am_I1 S_c M_F_open 92 3 (.ifCond .ne (8)) (xJ 100) := ⟨sys_c, ok_F_open, rfl⟩
theorem i_F_open_95 : am_I1 S_c M_F_open 95 1 (.aload_n 0) (xN) := ⟨sys_c, ok_F_open, rfl⟩
theorem i_F_open_96 : am_I1 S_c M_F_open 96 1 (.iconst 5) (xI (5)) := ⟨sys_c, ok_F_open, rfl⟩
theorem i_F_open_97 : am_I1 S_c M_F_open 97 3 (.putfield 95) (xF 0 12 0) := ⟨sys_c, ok_F_open, rfl⟩
theorem i_F_open_107 : am_I1 S_c M_F_open 107 3 (.new 108) (xN) := ⟨sys_c, ok_F_open, rfl⟩
theorem i_F_open_115 : am_I1 S_c M_F_open 115 1 (.aload_n 0) (xN) := ⟨sys_c, ok_F_open, rfl⟩
theorem i_F_open_116 : am_I1 S_c M_F_open 116 1 (.iconst 1) (xI (1)) := ⟨sys_c, ok_F_open, rfl⟩
theorem i_F_open_117 : am_I1 S_c M_F_open 117 3 (.putfield 111) (xF 0 11 3) := ⟨sys_c, ok_F_open, rfl⟩
theorem i_F_open_120 : am_I1 S_c M_F_open 120 1 (.aload_n 0) (xN) := ⟨sys_c, ok_F_open, rfl⟩
theorem i_F_open_121 : am_I1 S_c M_F_open 121 3 (.getfield 25) (xF 0 2 2) := ⟨sys_c, ok_F_open, rfl⟩
theorem i_F_open_124 : am_I1 S_c M_F_open 124 3 (.getfield 115) (xF 3 10 0) := ⟨sys_c, ok_F_open, rfl⟩
theorem i_F_open_127 : am_I1 S_c M_F_open 127 1 (.ireturn) (xN) := ⟨sys_c, ok_F_open, rfl⟩
theorem i_F_find_7 : am_I1 S_c M_F_find 7 3 (.new 125) (xN) := ⟨sys_c, ok_F_find, rfl⟩
theorem i_F_find_15 : am_I1 S_c M_F_find 15 1 (.aload_n 0) (xN) := ⟨sys_c, ok_F_find, rfl⟩
theorem i_F_find_16 : am_I1 S_c M_F_find 16 3 (.getfield 84) (xF 0 9 2) := ⟨sys_c, ok_F_find, rfl⟩
theorem i_F_find_19 : am_I1 S_c M_F_find 19 1 (.lload_n 1) (xN) := ⟨sys_c, ok_F_find, rfl⟩
theorem i_F_find_20 : am_I1 S_c M_F_find 20 3 (.invokevirtual 128) (xN) := ⟨sys_c, ok_F_find, rfl⟩
theorem i_F_find_23 : am_I1 S_c M_F_find 23 1 (.ireturn) (xN) := ⟨sys_c, ok_F_find, rfl⟩
theorem i_Se_read_2 : am_I1 S_c M_Se_read 2 3 (.invokevirtual 45) (xN) := ⟨sys_c, ok_Se_read, rfl⟩
theorem i_Se_read_9 : am_I1 S_c M_Se_read 9 1 (.ireturn) (xN) := ⟨sys_c, ok_Se_read, rfl⟩
theorem i_Se_read_10 : am_I1 S_c M_Se_read 10 1 (.iconst 0) (xI (0)) := ⟨sys_c, ok_Se_read, rfl⟩
theorem i_Se_read_11 : am_I1 S_c M_Se_read 11 1 (.istore_n 2) (xN) := ⟨sys_c, ok_Se_read, rfl⟩
theorem i_Se_read_12 : am_I1 S_c M_Se_read 12 1 (.iload_n 2) (xN) := ⟨sys_c, ok_Se_read, rfl⟩
theorem i_Se_read_13 : am_I1 S_c M_Se_read 13 1 (.aload_n 0) (xN) := ⟨sys_c, ok_Se_read, rfl⟩
theorem i_Se_read_14 : am_I1 S_c M_Se_read 14 3 (.getfield 49) (xF 1 8 0) := ⟨sys_c, ok_Se_read, rfl⟩
theorem i_Se_read_17 : am_I1 S_c M_Se_read 17 3 (.if_icmp .ge (20)) (xJ 37) := ⟨sys_c, ok_Se_read, rfl⟩
theorem i_Se_read_20 : am_I1 S_c M_Se_read 20 1 (.aload_n 0) (xN) := ⟨sys_c, ok_Se_read, rfl⟩
theorem i_Se_read_21 : am_I1 S_c M_Se_read 21 1 (.iload_n 2) (xN) := ⟨sys_c, ok_Se_read, rfl⟩
theorem i_Se_read_22 : am_I1 S_c M_Se_read 22 1 (.iload_n 1) (xN) := ⟨sys_c, ok_Se_read, rfl⟩
theorem i_Se_read_23 : am_I1 S_c M_Se_read 23 3 (.invokevirtual 53) (xN) := ⟨sys_c, ok_Se_read, rfl⟩
theorem i_Se_read_26 : am_I1 S_c M_Se_read 26 3 (.ifCond .ne (5)) (xJ 31) := ⟨sys_c, ok_Se_read, rfl⟩
theorem i_Se_read_29 : am_I1 S_c M_Se_read 29 1 (.iconst 0) (xI (0)) := ⟨sys_c, ok_Se_read, rfl⟩
theorem i_Se_read_30 : am_I1 S_c M_Se_read 30 1 (.ireturn) (xN) := ⟨sys_c, ok_Se_read, rfl⟩
theorem i_Se_read_31 : am_I1 S_c M_Se_read 31 3 (.iinc 2 (1)) (xI (1)) := ⟨sys_c, ok_Se_read, rfl⟩
theorem i_Se_read_34 : am_I1 S_c M_Se_read 34 3 (.goto (-22)) (xJ 12) := ⟨sys_c, ok_Se_read, rfl⟩
theorem i_Se_read_37 : am_I1 S_c M_Se_read 37 1 (.aload_n 0) (xN) := ⟨sys_c, ok_Se_read, rfl⟩
theorem i_Se_read_38 : am_I1 S_c M_Se_read 38 3 (.invokevirtual 57) (xN) := ⟨sys_c, ok_Se_read, rfl⟩
theorem i_Se_read_41 : am_I1 S_c M_Se_read 41 1 (.ireturn) (xN) := ⟨sys_c, ok_Se_read, rfl⟩
theorem i_Se_readNames_0 : am_I1 S_c M_Se_readNames 0 1 (.iconst 0) (xI (0)) := ⟨sys_c, ok_Se_readNames, rfl⟩
theorem i_Se_readNames_1 : am_I1 S_c M_Se_readNames 1 1 (.istore_n 1) (xN) := ⟨sys_c, ok_Se_readNames, rfl⟩
theorem i_Se_readNames_2 : am_I1 S_c M_Se_readNames 2 1 (.iload_n 1) (xN) := ⟨sys_c, ok_Se_readNames, rfl⟩
theorem i_Se_readNames_3 : am_I1 S_c M_Se_readNames 3 2 (.bipush 10) (xI (10)) := ⟨sys_c, ok_Se_readNames, rfl⟩
theorem i_Se_readNames_5 : am_I1 S_c M_Se_readNames 5 3 (.if_icmp .ge (30)) (xJ 35) := ⟨sys_c, ok_Se_readNames, rfl⟩
theorem i_Se_readNames_8 : am_I1 S_c M_Se_readNames 8 1 (.aload_n 0) (xN) := ⟨sys_c, ok_Se_readNames, rfl⟩
theorem i_Se_readNames_9 : am_I1 S_c M_Se_readNames 9 3 (.getfield 22) (xF 1 5 2) := ⟨sys_c, ok_Se_readNames, rfl⟩
theorem i_Se_readNames_12 : am_I1 S_c M_Se_readNames 12 1 (.iload_n 1) (xN) := ⟨sys_c, ok_Se_readNames, rfl⟩
theorem i_Se_readNames_13 : am_I1 S_c M_Se_readNames 13 1 (.iconst 0) (xI (0)) := ⟨sys_c, ok_Se_readNames, rfl⟩
theorem i_Se_readNames_14 : am_I1 S_c M_Se_readNames 14 1 (.iastore) (xN) := ⟨sys_c, ok_Se_readNames, rfl⟩
theorem i_Se_readNames_15 : am_I1 S_c M_Se_readNames 15 1 (.aload_n 0) (xN) := ⟨sys_c, ok_Se_readNames, rfl⟩
theorem i_Se_readNames_16 : am_I1 S_c M_Se_readNames 16 3 (.getfield 25) (xF 1 6 2) := ⟨sys_c, ok_Se_readNames, rfl⟩
theorem i_Se_readNames_19 : am_I1 S_c M_Se_readNames 19 1 (.iload_n 1) (xN) := ⟨sys_c, ok_Se_readNames, rfl⟩
theorem i_Se_readNames_20 : am_I1 S_c M_Se_readNames 20 1 (.iconst 0) (xI (0)) := ⟨sys_c, ok_Se_readNames, rfl⟩
theorem i_Se_readNames_21 : am_I1 S_c M_Se_readNames 21 1 (.iastore) (xN) := ⟨sys_c, ok_Se_readNames, rfl⟩
theorem i_Se_readNames_22 : am_I1 S_c M_Se_readNames 22 1 (.aload_n 0) (xN) := ⟨sys_c, ok_Se_readNames, rfl⟩
theorem i_Se_readNames_23 : am_I1 S_c M_Se_readNames 23 3 (.getfield 28) (xF 1 7 2) := ⟨sys_c, ok_Se_readNames, rfl⟩
theorem i_Se_readNames_26 : am_I1 S_c M_Se_readNames 26 1 (.iload_n 1) (xN) := ⟨sys_c, ok_Se_readNames, rfl⟩
theorem i_Se_readNames_27 : am_I1 S_c M_Se_readNames 27 1 (.iconst 0) (xI (0)) := ⟨sys_c, ok_Se_readNames, rfl⟩
theorem i_Se_readNames_28 : am_I1 S_c M_Se_readNames 28 1 (.bastore) (xJ 3) := ⟨sys_c, ok_Se_readNames, rfl⟩
theorem i_Se_readNames_29 : am_I1 S_c M_Se_readNames 29 3 (.iinc 1 (1)) (xI (1)) := ⟨sys_c, ok_Se_readNames, rfl⟩
theorem i_Se_readNames_32 : am_I1 S_c M_Se_readNames 32 3 (.goto (-30)) (xJ 2) := ⟨sys_c, ok_Se_readNames, rfl⟩
theorem i_Se_readNames_35 : am_I1 S_c M_Se_readNames 35 1 (.iconst 0) (xI (0)) := ⟨sys_c, ok_Se_readNames, rfl⟩
theorem i_Se_readNames_36 : am_I1 S_c M_Se_readNames 36 1 (.istore_n 1) (xN) := ⟨sys_c, ok_Se_readNames, rfl⟩
theorem i_Se_readNames_37 : am_I1 S_c M_Se_readNames 37 1 (.iload_n 1) (xN) := ⟨sys_c, ok_Se_readNames, rfl⟩
theorem i_Se_readNames_38 : am_I1 S_c M_Se_readNames 38 1 (.aload_n 0) (xN) := ⟨sys_c, ok_Se_readNames, rfl⟩
theorem i_Se_readNames_39 : am_I1 S_c M_Se_readNames 39 3 (.getfield 49) (xF 1 8 0) := ⟨sys_c, ok_Se_readNames, rfl⟩
theorem i_Se_readNames_42 : am_I1 S_c M_Se_readNames 42 3 (.if_icmp .ge (82)) (xJ 124) := ⟨sys_c, ok_Se_readNames, rfl⟩
theorem i_Se_readNames_45 : am_I1 S_c M_Se_readNames 45 1 (.aload_n 0) (xN) := ⟨sys_c, ok_Se_readNames, rfl⟩
theorem i_Se_readNames_46 : am_I1 S_c M_Se_readNames 46 3 (.getfield 41) (xF 1 1 2) := ⟨sys_c, ok_Se_readNames, rfl⟩
theorem i_Se_readNames_49 : am_I1 S_c M_Se_readNames 49 1 (.aload_n 0) (xN) := ⟨sys_c, ok_Se_readNames, rfl⟩
theorem i_Se_readNames_50 : am_I1 S_c M_Se_readNames 50 3 (.getfield 9) (xF 1 2 2) := ⟨sys_c, ok_Se_readNames, rfl⟩
theorem i_Se_readNames_53 : am_I1 S_c M_Se_readNames 53 1 (.aload_n 0) (xN) := ⟨sys_c, ok_Se_readNames, rfl⟩
theorem i_Se_readNames_54 : am_I1 S_c M_Se_readNames 54 3 (.getfield 90) (xF 1 10 0) := ⟨sys_c, ok_Se_readNames, rfl⟩
theorem i_Se_readNames_57 : am_I1 S_c M_Se_readNames 57 1 (.iaload) (xN) := ⟨sys_c, ok_Se_readNames, rfl⟩
theorem i_Se_readNames_58 : am_I1 S_c M_Se_readNames 58 1 (.aload_n 0) (xN) := ⟨sys_c, ok_Se_readNames, rfl⟩
theorem i_Se_readNames_59 : am_I1 S_c M_Se_readNames 59 3 (.getfield 15) (xF 1 3 2) := ⟨sys_c, ok_Se_readNames, rfl⟩
theorem i_Se_readNames_62 : am_I1 S_c M_Se_readNames 62 1 (.aload_n 0) (xN) := ⟨sys_c, ok_Se_readNames, rfl⟩
theorem i_Se_readNames_63 : am_I1 S_c M_Se_readNames 63 3 (.getfield 90) (xF 1 10 0) := ⟨sys_c, ok_Se_readNames, rfl⟩
theorem i_Se_readNames_66 : am_I1 S_c M_Se_readNames 66 1 (.iaload) (xN) := ⟨sys_c, ok_Se_readNames, rfl⟩
theorem i_Se_readNames_67 : am_I1 S_c M_Se_readNames 67 3 (.invokevirtual 82) (xN) := ⟨sys_c, ok_Se_readNames, rfl⟩
theorem i_Se_readNames_70 : am_I1 S_c M_Se_readNames 70 1 (.aload_n 0) (xN) := ⟨sys_c, ok_Se_readNames, rfl⟩
theorem i_Se_readNames_71 : am_I1 S_c M_Se_readNames 71 3 (.getfield 41) (xF 1 1 2) := ⟨sys_c, ok_Se_readNames, rfl⟩
theorem i_Se_readNames_74 : am_I1 S_c M_Se_readNames 74 1 (.aload_n 0) (xN) := ⟨sys_c, ok_Se_readNames, rfl⟩
theorem i_Se_readNames_75 : am_I1 S_c M_Se_readNames 75 3 (.getfield 18) (xF 1 4 2) := ⟨sys_c, ok_Se_readNames, rfl⟩
theorem i_Se_readNames_78 : am_I1 S_c M_Se_readNames 78 1 (.iload_n 1) (xN) := ⟨sys_c, ok_Se_readNames, rfl⟩
theorem i_Se_readNames_79 : am_I1 S_c M_Se_readNames 79 1 (.laload) (xN) := ⟨sys_c, ok_Se_readNames, rfl⟩
theorem i_Se_readNames_80 : am_I1 S_c M_Se_readNames 80 3 (.invokevirtual 100) (xN) := ⟨sys_c, ok_Se_readNames, rfl⟩
theorem i_Se_readNames_83 : am_I1 S_c M_Se_readNames 83 1 (.aload_n 0) (xN) := ⟨sys_c, ok_Se_readNames, rfl⟩
theorem i_Se_readNames_84 : am_I1 S_c M_Se_readNames 84 3 (.getfield 41) (xF 1 1 2) := ⟨sys_c, ok_Se_readNames, rfl⟩
theorem i_Se_readNames_87 : am_I1 S_c M_Se_readNames 87 3 (.invokevirtual 75) (xN) := ⟨sys_c, ok_Se_readNames, rfl⟩
theorem i_Se_readNames_90 : am_I1 S_c M_Se_readNames 90 1 (.istore_n 2) (xN) := ⟨sys_c, ok_Se_readNames, rfl⟩
theorem i_Se_readNames_91 : am_I1 S_c M_Se_readNames 91 1 (.aload_n 0) (xN) := ⟨sys_c, ok_Se_readNames, rfl⟩
theorem i_Se_readNames_92 : am_I1 S_c M_Se_readNames 92 3 (.getfield 41) (xF 1 1 2) := ⟨sys_c, ok_Se_readNames, rfl⟩
theorem i_Se_readNames_95 : am_I1 S_c M_Se_readNames 95 3 (.getfield 67) (xF 2 3 3) := ⟨sys_c, ok_Se_readNames, rfl⟩
theorem i_Se_readNames_98 : am_I1 S_c M_Se_readNames 98 3 (.ifCond .eq (5)) (xJ 103) := ⟨sys_c, ok_Se_readNames, rfl⟩
theorem i_Se_readNames_101 : am_I1 S_c M_Se_readNames 101 1 (.iconst 0) (xI (0)) := ⟨sys_c, ok_Se_readNames, rfl⟩
theorem i_Se_readNames_102 : am_I1 S_c M_Se_readNames 102 1 (.ireturn) (xN) := ⟨sys_c, ok_Se_readNames, rfl⟩
theorem i_Se_readNames_103 : am_I1 S_c M_Se_readNames 103 1 (.aload_n 0) (xN) := ⟨sys_c, ok_Se_readNames, rfl⟩
theorem i_Se_readNames_104 : am_I1 S_c M_Se_readNames 104 1 (.iload_n 1) (xN) := ⟨sys_c, ok_Se_readNames, rfl⟩
theorem i_Se_readNames_105 : am_I1 S_c M_Se_readNames 105 1 (.iload_n 2) (xN) := ⟨sys_c, ok_Se_readNames, rfl⟩
theorem i_Se_readNames_106 : am_I1 S_c M_Se_readNames 106 1 (.aload_n 0) (xN) := ⟨sys_c, ok_Se_readNames, rfl⟩
theorem i_Se_readNames_107 : am_I1 S_c M_Se_readNames 107 3 (.getfield 41) (xF 1 1 2) := ⟨sys_c, ok_Se_readNames, rfl⟩
theorem i_Se_readNames_110 : am_I1 S_c M_Se_readNames 110 3 (.getfield 61) (xF 2 1 0) := ⟨sys_c, ok_Se_readNames, rfl⟩
theorem i_Se_readNames_113 : am_I1 S_c M_Se_readNames 113 1 (.iconst 1) (xI (1)) := ⟨sys_c, ok_Se_readNames, rfl⟩
theorem i_Se_readNames_114 : am_I1 S_c M_Se_readNames 114 1 (.isub) (xN) := ⟨sys_c, ok_Se_readNames, rfl⟩
theorem i_Se_readNames_115 : am_I1 S_c M_Se_readNames 115 3 (.invokevirtual 106) (xN) := ⟨sys_c, ok_Se_readNames, rfl⟩
theorem i_Se_readNames_118 : am_I1 S_c M_Se_readNames 118 3 (.iinc 1 (1)) (xI (1)) := ⟨sys_c, ok_Se_readNames, rfl⟩
theorem i_Se_readNames_121 : am_I1 S_c M_Se_readNames 121 3 (.goto (-84)) (xJ 37) := ⟨sys_c, ok_Se_readNames, rfl⟩
theorem i_Se_readNames_124 : am_I1 S_c M_Se_readNames 124 1 (.iconst 1) (xI (1)) := ⟨sys_c, ok_Se_readNames, rfl⟩
theorem i_Se_readNames_125 : am_I1 S_c M_Se_readNames 125 1 (.ireturn) (xN) := ⟨sys_c, ok_Se_readNames, rfl⟩
theorem i_Se_choose_0 : am_I1 S_c M_Se_choose 0 1 (.iconst 0) (xI (0)) := ⟨sys_c, ok_Se_choose, rfl⟩
theorem i_Se_choose_1 : am_I1 S_c M_Se_choose 1 2 (.istore 4) (xN) := ⟨sys_c, ok_Se_choose, rfl⟩
theorem i_Se_choose_3 : am_I1 S_c M_Se_choose 3 2 (.iload 4) (xN) := ⟨sys_c, ok_Se_choose, rfl⟩
theorem i_Se_choose_5 : am_I1 S_c M_Se_choose 5 2 (.bipush 10) (xI (10)) := ⟨sys_c, ok_Se_choose, rfl⟩
theorem i_Se_choose_7 : am_I1 S_c M_Se_choose 7 3 (.if_icmp .ge (67)) (xJ 74) := ⟨sys_c, ok_Se_choose, rfl⟩
theorem i_Se_choose_10 : am_I1 S_c M_Se_choose 10 1 (.aload_n 0) (xN) := ⟨sys_c, ok_Se_choose, rfl⟩
theorem i_Se_choose_11 : am_I1 S_c M_Se_choose 11 3 (.getfield 28) (xF 1 7 2) := ⟨sys_c, ok_Se_choose, rfl⟩
theorem i_Se_choose_14 : am_I1 S_c M_Se_choose 14 2 (.iload 4) (xN) := ⟨sys_c, ok_Se_choose, rfl⟩
theorem i_Se_choose_16 : am_I1 S_c M_Se_choose 16 1 (.baload) (xJ 3) := ⟨sys_c, ok_Se_choose, rfl⟩
theorem i_Se_choose_17 : am_I1 S_c M_Se_choose 17 3 (.ifCond .ne (51)) (xJ 68) := ⟨sys_c, ok_Se_choose, rfl⟩
theorem i_Se_choose_20 : am_I1 S_c M_Se_choose 20 1 (.aload_n 0) (xN) := ⟨sys_c, ok_Se_choose, rfl⟩
theorem i_Se_choose_21 : am_I1 S_c M_Se_choose 21 1 (.iload_n 2) (xN) := ⟨sys_c, ok_Se_choose, rfl⟩
theorem i_Se_choose_22 : am_I1 S_c M_Se_choose 22 1 (.iload_n 3) (xN) := ⟨sys_c, ok_Se_choose, rfl⟩
theorem i_Se_choose_23 : am_I1 S_c M_Se_choose 23 2 (.iload 4) (xN) := ⟨sys_c, ok_Se_choose, rfl⟩
theorem i_Se_choose_25 : am_I1 S_c M_Se_choose 25 3 (.invokestatic 110) (xN) := ⟨sys_c, ok_Se_choose, rfl⟩
theorem i_Se_choose_28 : am_I1 S_c M_Se_choose 28 3 (.invokevirtual 114) (xN) := ⟨sys_c, ok_Se_choose, rfl⟩
theorem i_Se_choose_31 : am_I1 S_c M_Se_choose 31 3 (.ifCond .eq (37)) (xJ 68) := ⟨sys_c, ok_Se_choose, rfl⟩
theorem i_Se_choose_34 : am_I1 S_c M_Se_choose 34 1 (.aload_n 0) (xN) := ⟨sys_c, ok_Se_choose, rfl⟩
theorem i_Se_choose_35 : am_I1 S_c M_Se_choose 35 3 (.getfield 28) (xF 1 7 2) := ⟨sys_c, ok_Se_choose, rfl⟩
theorem i_Se_choose_38 : am_I1 S_c M_Se_choose 38 2 (.iload 4) (xN) := ⟨sys_c, ok_Se_choose, rfl⟩
theorem i_Se_choose_40 : am_I1 S_c M_Se_choose 40 1 (.iconst 1) (xI (1)) := ⟨sys_c, ok_Se_choose, rfl⟩
theorem i_Se_choose_41 : am_I1 S_c M_Se_choose 41 1 (.bastore) (xJ 3) := ⟨sys_c, ok_Se_choose, rfl⟩
theorem i_Se_choose_42 : am_I1 S_c M_Se_choose 42 1 (.aload_n 0) (xN) := ⟨sys_c, ok_Se_choose, rfl⟩
theorem i_Se_choose_43 : am_I1 S_c M_Se_choose 43 3 (.getfield 22) (xF 1 5 2) := ⟨sys_c, ok_Se_choose, rfl⟩
theorem i_Se_choose_46 : am_I1 S_c M_Se_choose 46 2 (.iload 4) (xN) := ⟨sys_c, ok_Se_choose, rfl⟩
theorem i_Se_choose_48 : am_I1 S_c M_Se_choose 48 1 (.aload_n 0) (xN) := ⟨sys_c, ok_Se_choose, rfl⟩
theorem i_Se_choose_49 : am_I1 S_c M_Se_choose 49 3 (.getfield 9) (xF 1 2 2) := ⟨sys_c, ok_Se_choose, rfl⟩
theorem i_Se_choose_52 : am_I1 S_c M_Se_choose 52 1 (.iload_n 1) (xN) := ⟨sys_c, ok_Se_choose, rfl⟩
theorem i_Se_choose_53 : am_I1 S_c M_Se_choose 53 1 (.iaload) (xN) := ⟨sys_c, ok_Se_choose, rfl⟩
theorem i_Se_choose_54 : am_I1 S_c M_Se_choose 54 1 (.iastore) (xN) := ⟨sys_c, ok_Se_choose, rfl⟩
theorem i_Se_choose_55 : am_I1 S_c M_Se_choose 55 1 (.aload_n 0) (xN) := ⟨sys_c, ok_Se_choose, rfl⟩
theorem i_Se_choose_56 : am_I1 S_c M_Se_choose 56 3 (.getfield 25) (xF 1 6 2) := ⟨sys_c, ok_Se_choose, rfl⟩
theorem i_Se_choose_59 : am_I1 S_c M_Se_choose 59 2 (.iload 4) (xN) := ⟨sys_c, ok_Se_choose, rfl⟩
theorem i_Se_choose_61 : am_I1 S_c M_Se_choose 61 1 (.aload_n 0) (xN) := ⟨sys_c, ok_Se_choose, rfl⟩
theorem i_Se_choose_62 : am_I1 S_c M_Se_choose 62 3 (.getfield 15) (xF 1 3 2) := ⟨sys_c, ok_Se_choose, rfl⟩
theorem i_Se_choose_65 : am_I1 S_c M_Se_choose 65 1 (.iload_n 1) (xN) := ⟨sys_c, ok_Se_choose, rfl⟩
theorem i_Se_choose_66 : am_I1 S_c M_Se_choose 66 1 (.iaload) (xN) := ⟨sys_c, ok_Se_choose, rfl⟩
theorem i_Se_choose_67 : am_I1 S_c M_Se_choose 67 1 (.iastore) (xN) := ⟨sys_c, ok_Se_choose, rfl⟩
theorem i_Se_choose_68 : am_I1 S_c M_Se_choose 68 3 (.iinc 4 (1)) (xI (1)) := ⟨sys_c, ok_Se_choose, rfl⟩
theorem i_Se_choose_71 : am_I1 S_c M_Se_choose 71 3 (.goto (-68)) (xJ 3) := ⟨sys_c, ok_Se_choose, rfl⟩
theorem i_Se_choose_74 : am_I1 S_c M_Se_choose 74 1 (.return_) (xN) := ⟨sys_c, ok_Se_choose, rfl⟩
theorem c_F_find_20 : am_V S_c M_F_find M_Fr_build 20 1 11 := am_V_of (tl := lw_tbl) (idx := 128) (nest := false) (h1 := 1191) (h2 := 1194) (h3 := 125) (h4 := 1192) (h5 := 1193) sys_c ok_F_find ht_c hn_c rfl (by decide +kernel) (by decide +kernel)
theorem c_F_open_35 : am_V S_c M_F_open M_Ur_read 35 0 4 := am_V_of (tl := lw_tbl) (idx := 102) (nest := false) (h1 := 774) (h2 := 777) (h3 := 118) (h4 := 775) (h5 := 776) sys_c ok_F_open ht_c hn_c rfl (by decide +kernel) (by decide +kernel)
theorem c_F_open_53 : am_V S_c M_F_open M_Va_read 53 0 7 := am_V_of (tl := lw_tbl) (idx := 105) (nest := false) (h1 := 897) (h2 := 900) (h3 := 121) (h4 := 898) (h5 := 899) sys_c ok_F_open ht_c hn_c rfl (by decide +kernel) (by decide +kernel)
theorem c_F_open_71 : am_V S_c M_F_open M_Li_read 71 0 9 := am_V_of (tl := lw_tbl) (idx := 106) (nest := false) (h1 := 1003) (h2 := 1006) (h3 := 123) (h4 := 1004) (h5 := 1005) sys_c ok_F_open ht_c hn_c rfl (by decide +kernel) (by decide +kernel)
theorem c_F_open_89 : am_V S_c M_F_open M_Sy_read 89 0 10 := am_V_of (tl := lw_tbl) (idx := 107) (nest := false) (h1 := 1091) (h2 := 1094) (h3 := 124) (h4 := 1092) (h5 := 1093) sys_c ok_F_open ht_c hn_c rfl (by decide +kernel) (by decide +kernel)
theorem c_Se_choose_25 : am_T S_c M_Se_choose M_Se_titleOf 25 1 := am_T_of (tl := lw_tbl) (idx := 110) (nest := false) (h1 := 709) (h2 := 711) (h3 := 115) (h4 := 710) sys_c ok_Se_choose ht_c hn_c rfl (by decide +kernel) (by decide +kernel)
theorem c_Se_choose_28 : am_V S_c M_Se_choose M_Se_isCalled 28 3 1 := am_V_of (tl := lw_tbl) (idx := 114) (nest := false) (h1 := 722) (h2 := 725) (h3 := 115) (h4 := 724) (h5 := 6) sys_c ok_Se_choose ht_c hn_c rfl (by decide +kernel) (by decide +kernel)
theorem c_Se_readNames_115 : am_V S_c M_Se_readNames M_Se_choose 115 3 1 := am_V_of (tl := lw_tbl) (idx := 106) (nest := false) (h1 := 705) (h2 := 708) (h3 := 115) (h4 := 707) (h5 := 5) sys_c ok_Se_readNames ht_c hn_c rfl (by decide +kernel) (by decide +kernel)
theorem c_Se_readNames_67 : am_V S_c M_Se_readNames M_Cu_set 67 2 2 := am_V_of (tl := lw_tbl) (idx := 82) (nest := false) (h1 := 678) (h2 := 681) (h3 := 116) (h4 := 679) (h5 := 680) sys_c ok_Se_readNames ht_c hn_c rfl (by decide +kernel) (by decide +kernel)
theorem c_Se_readNames_80 : am_V S_c M_Se_readNames M_Cu_skip 80 1 2 := am_V_of (tl := lw_tbl) (idx := 100) (nest := false) (h1 := 692) (h2 := 695) (h3 := 116) (h4 := 693) (h5 := 694) sys_c ok_Se_readNames ht_c hn_c rfl (by decide +kernel) (by decide +kernel)
theorem c_Se_readNames_87 : am_V S_c M_Se_readNames M_Cu_text 87 0 2 := am_V_of (tl := lw_tbl) (idx := 75) (nest := false) (h1 := 701) (h2 := 704) (h3 := 116) (h4 := 702) (h5 := 703) sys_c ok_Se_readNames ht_c hn_c rfl (by decide +kernel) (by decide +kernel)
theorem c_Se_read_23 : am_V S_c M_Se_read M_Se_readHeader 23 2 1 := am_V_of (tl := lw_tbl) (idx := 53) (nest := false) (h1 := 687) (h2 := 690) (h3 := 115) (h4 := 689) (h5 := 3) sys_c ok_Se_read ht_c hn_c rfl (by decide +kernel) (by decide +kernel)
theorem c_Se_read_38 : am_V S_c M_Se_read M_Se_readNames 38 0 1 := am_V_of (tl := lw_tbl) (idx := 57) (nest := false) (h1 := 697) (h2 := 700) (h3 := 115) (h4 := 699) (h5 := 4) sys_c ok_Se_read ht_c hn_c rfl (by decide +kernel) (by decide +kernel)
def g_Se_choose_68 (go : Int32 → Int32 → Int32 → Int32 → am_S → Option (Unit × am_S)) (x1 : Int32) (x2 : Int32) (x3 : Int32) (x4 : Int32) (σ : am_S) : Option (Unit × am_S) :=
  go x1 x2 x3 (x4 + 1) σ
set_option maxHeartbeats 4000000 in
theorem t_Se_choose_68 {x1 : Int32} {x2 : Int32} {x3 : Int32} {x4 : Int32} {σ σ' : am_S} {r : Unit} {go : Int32 → Int32 → Int32 → Int32 → am_S → Option (Unit × am_S)} (hgo : ∀ {x1 : Int32} {x2 : Int32} {x3 : Int32} {x4 : Int32} {σ σ' : am_S} {r : Unit}, go x1 x2 x3 x4 σ = some (r, σ') → am_A S_c M_Se_choose (3, [some (.ref 2), some (.int x1), some (.int x2), some (.int x3), some (.int x4)], [], σ) (am_r S_c (fun q τ => q = none ∧ τ = σ'))) (h : g_Se_choose_68 go x1 x2 x3 x4 σ = some (r, σ')) : am_A S_c M_Se_choose (68, [some (.ref 2), some (.int x1), some (.int x2), some (.int x3), some (.int x4)], [], σ) (am_r S_c (fun q τ => q = none ∧ τ = σ')) := by
  unfold g_Se_choose_68 at h
  refine a_iinc i_Se_choose_68 rfl rfl ?_
  refine a_goto i_Se_choose_71 ?_
  exact hgo h
def g_Se_choose_3 : Nat → Int32 → Int32 → Int32 → Int32 → am_S → Option (Unit × am_S)
  | 0, _, _, _, _, _ => none
  | n + 1, x1, x2, x3, x4, σ =>
  if x4 < 10 then
    am_gd (inb x4 10) <|
    if (σ.2.1 8 x4.toNatClampNeg) = 0 then
      am_bd (g_Se_isCalled (tix x4) x2 x3 σ) fun v14 σ14 =>
      if v14 = 0 then
        g_Se_choose_68 (g_Se_choose_3 n) x1 x2 x3 x4 σ14
      else
        am_gd (inb x4 10) <|
        am_gd (inb x1 24) <|
        am_gd (inb x4 10) <|
        am_gd (inb x1 24) <|
        am_gd (inb x4 10) <|
        g_Se_choose_68 (g_Se_choose_3 n) x1 x2 x3 x4 (am_ai (am_ai (am_ai σ14 8 x4.toNatClampNeg (vp_nar .boolean 1)) 6 x4.toNatClampNeg ((am_ai σ14 8 x4.toNatClampNeg (vp_nar .boolean 1)).2.1 3 x1.toNatClampNeg)) 7 x4.toNatClampNeg ((am_ai (am_ai σ14 8 x4.toNatClampNeg (vp_nar .boolean 1)) 6 x4.toNatClampNeg ((am_ai σ14 8 x4.toNatClampNeg (vp_nar .boolean 1)).2.1 3 x1.toNatClampNeg)).2.1 4 x1.toNatClampNeg))
    else
      g_Se_choose_68 (g_Se_choose_3 n) x1 x2 x3 x4 σ
  else
    some ((), σ)
set_option maxHeartbeats 4000000 in
theorem t_Se_choose_3 : ∀ (n : Nat) {x1 : Int32} {x2 : Int32} {x3 : Int32} {x4 : Int32} {σ σ' : am_S} {r : Unit} (h : g_Se_choose_3 n x1 x2 x3 x4 σ = some (r, σ')), am_A S_c M_Se_choose (3, [some (.ref 2), some (.int x1), some (.int x2), some (.int x3), some (.int x4)], [], σ) (am_r S_c (fun q τ => q = none ∧ τ = σ')) := by
  intro n
  induction n with
  | zero =>
    intro x1 x2 x3 x4 σ σ' r h
    cases h
  | succ n ih =>
  intro x1 x2 x3 x4 σ σ' r h
  unfold g_Se_choose_3 at h
  refine a_iload i_Se_choose_3 rfl ?_
  refine a_bipush i_Se_choose_5 ?_
  by_cases c3 : x4 < 10
  · rw [if_pos c3] at h
    refine a_icf i_Se_choose_7 (Int32.not_le.mpr c3) ?_
    refine a_aload_n i_Se_choose_10 rfl ?_
    refine a_get (v := .ref 8) i_Se_choose_11 rfl rfl ?_
    refine a_iload i_Se_choose_14 rfl ?_
    obtain ⟨c7, h⟩ := gd_some h
    refine a_bal (n := 10) i_Se_choose_16 rfl rfl (inb_in c7) ?_
    by_cases c8 : (σ.2.1 8 x4.toNatClampNeg) = 0
    · rw [if_pos c8] at h
      refine a_iff i_Se_choose_17 c8 ?_
      refine a_aload_n i_Se_choose_20 rfl ?_
      refine a_iload_n i_Se_choose_21 rfl ?_
      refine a_iload_n i_Se_choose_22 rfl ?_
      refine a_iload i_Se_choose_23 rfl ?_
      refine am_csd (rest := [.int x3, .int x2, .ref 2]) [.int x4] c_Se_choose_25 rfl (Nat.le_of_ble_eq_true rfl) t_Se_titleOf ?_
      obtain ⟨v14, σ14, e14, h⟩ := am_bd_some h
      refine am_cvd (rest := []) [.int x2, .int x3, .ref (68 + tix x4)] c_Se_choose_28 ⟨by decide, _, rfl⟩ rfl (Nat.le_of_ble_eq_true rfl) (t_Se_isCalled (tix_lt _) e14) ?_
      by_cases c15 : v14 = 0
      · rw [if_pos c15] at h
        refine a_ift i_Se_choose_31 c15 ?_
        exact t_Se_choose_68 (fun h => ih h) h
      · rw [if_neg c15] at h
        refine a_iff i_Se_choose_31 c15 ?_
        refine a_aload_n i_Se_choose_34 rfl ?_
        refine a_get (v := .ref 8) i_Se_choose_35 rfl rfl ?_
        refine a_iload i_Se_choose_38 rfl ?_
        refine a_iconst i_Se_choose_40 ?_
        obtain ⟨c20, h⟩ := gd_some h
        refine a_bas (n := 10) i_Se_choose_41 rfl rfl (inb_in c20) ?_
        refine a_aload_n i_Se_choose_42 rfl ?_
        refine a_get (v := .ref 6) i_Se_choose_43 rfl rfl ?_
        refine a_iload i_Se_choose_46 rfl ?_
        refine a_aload_n i_Se_choose_48 rfl ?_
        refine a_get (v := .ref 3) i_Se_choose_49 rfl rfl ?_
        refine a_iload_n i_Se_choose_52 rfl ?_
        obtain ⟨c27, h⟩ := gd_some h
        refine a_ial (n := 24) i_Se_choose_53 (by decide) rfl rfl (inb_in c27) ?_
        obtain ⟨c28, h⟩ := gd_some h
        refine a_ias (n := 10) i_Se_choose_54 rfl rfl (inb_in c28) ?_
        refine a_aload_n i_Se_choose_55 rfl ?_
        refine a_get (v := .ref 7) i_Se_choose_56 rfl rfl ?_
        refine a_iload i_Se_choose_59 rfl ?_
        refine a_aload_n i_Se_choose_61 rfl ?_
        refine a_get (v := .ref 4) i_Se_choose_62 rfl rfl ?_
        refine a_iload_n i_Se_choose_65 rfl ?_
        obtain ⟨c35, h⟩ := gd_some h
        refine a_ial (n := 24) i_Se_choose_66 (by decide) rfl rfl (inb_in c35) ?_
        obtain ⟨c36, h⟩ := gd_some h
        refine a_ias (n := 10) i_Se_choose_67 rfl rfl (inb_in c36) ?_
        exact t_Se_choose_68 (fun h => ih h) h
    · rw [if_neg c8] at h
      refine a_ift i_Se_choose_17 c8 ?_
      exact t_Se_choose_68 (fun h => ih h) h
  · rw [if_neg c3] at h
    refine a_ict i_Se_choose_7 (Int32.not_lt.mp c3) ?_
    exact am_ret_v ok_Se_choose rfl rfl (am_lf_v h)
def g_Se_choose (x1 : Int32) (x2 : Int32) (x3 : Int32) (σ : am_S) : Option (Unit × am_S) :=
  g_Se_choose_3 4000 x1 x2 x3 (0) σ
set_option maxHeartbeats 4000000 in
theorem t_Se_choose_0 {x1 : Int32} {x2 : Int32} {x3 : Int32} {σ σ' : am_S} {r : Unit} (h : g_Se_choose x1 x2 x3 σ = some (r, σ')) : am_A S_c M_Se_choose (0, [some (.ref 2), some (.int x1), some (.int x2), some (.int x3), none], [], σ) (am_r S_c (fun q τ => q = none ∧ τ = σ')) := by
  unfold g_Se_choose at h
  refine a_iconst i_Se_choose_0 ?_
  refine a_istore i_Se_choose_1 rfl ?_
  exact t_Se_choose_3 4000 h
theorem t_Se_choose {x1 : Int32} {x2 : Int32} {x3 : Int32} {σ σ' : am_S} {r : Unit} (h : g_Se_choose x1 x2 x3 σ = some (r, σ')) : am_Mt S_c M_Se_choose [.ref 2, .int x1, .int x2, .int x3] σ (fun q τ => q = none ∧ τ = σ') :=
  am_M_of ok_Se_choose (Nat.le_of_ble_eq_true rfl) (t_Se_choose_0 h)
def g_Se_readNames_37 : Nat → Int32 → am_S → Option (Int32 × am_S)
  | 0, _, _ => none
  | n + 1, x1, σ =>
  if x1 < (σ.1.1 2 8) then
    am_gd (inb (σ.1.1 2 10) 24) <|
    am_gd (inb (σ.1.1 2 10) 24) <|
    am_bd (g_Cu_set 9 (σ.2.1 3 (σ.1.1 2 10).toNatClampNeg) (σ.2.1 4 (σ.1.1 2 10).toNatClampNeg) σ) fun _ σ17 =>
    am_gd (inb x1 24) <|
    am_bd (g_Cu_skip 9 (σ17.2.2 5 x1.toNatClampNeg) σ17) fun _ σ24 =>
    am_bd (g_Cu_text 9 σ24) fun v27 σ27 =>
    if (σ27.1.1 9 3) = 0 then
      am_bd (g_Se_choose x1 v27 ((σ27.1.1 9 1) - 1) σ27) fun _ σ41 =>
      g_Se_readNames_37 n (x1 + 1) σ41
    else
      some (0, σ27)
  else
    some (1, σ)
set_option maxHeartbeats 4000000 in
theorem t_Se_readNames_37 : ∀ (n : Nat) {x1 : Int32} {σ σ' : am_S} {r : Int32} (h : g_Se_readNames_37 n x1 σ = some (r, σ')), am_A S_c M_Se_readNames (37, [some (.ref 2), some (.int x1), none], [], σ) (am_r S_c (fun q τ => q = some (.int r) ∧ τ = σ')) := by
  intro n
  induction n with
  | zero =>
    intro x1 σ σ' r h
    cases h
  | succ n ih =>
  intro x1 σ σ' r h
  unfold g_Se_readNames_37 at h
  refine a_iload_n i_Se_readNames_37 rfl ?_
  refine a_aload_n i_Se_readNames_38 rfl ?_
  refine a_get (v := .int (σ.1.1 2 8)) i_Se_readNames_39 rfl rfl ?_
  by_cases c4 : x1 < (σ.1.1 2 8)
  · rw [if_pos c4] at h
    refine a_icf i_Se_readNames_42 (Int32.not_le.mpr c4) ?_
    refine a_aload_n i_Se_readNames_45 rfl ?_
    refine a_get (v := .ref 9) i_Se_readNames_46 rfl rfl ?_
    refine a_aload_n i_Se_readNames_49 rfl ?_
    refine a_get (v := .ref 3) i_Se_readNames_50 rfl rfl ?_
    refine a_aload_n i_Se_readNames_53 rfl ?_
    refine a_get (v := .int (σ.1.1 2 10)) i_Se_readNames_54 rfl rfl ?_
    obtain ⟨c11, h⟩ := gd_some h
    refine a_ial (n := 24) i_Se_readNames_57 (by decide) rfl rfl (inb_in c11) ?_
    refine a_aload_n i_Se_readNames_58 rfl ?_
    refine a_get (v := .ref 4) i_Se_readNames_59 rfl rfl ?_
    refine a_aload_n i_Se_readNames_62 rfl ?_
    refine a_get (v := .int (σ.1.1 2 10)) i_Se_readNames_63 rfl rfl ?_
    obtain ⟨c16, h⟩ := gd_some h
    refine a_ial (n := 24) i_Se_readNames_66 (by decide) rfl rfl (inb_in c16) ?_
    obtain ⟨v17, σ17, e17, h⟩ := am_bd_some h
    refine am_cvd (rest := []) [.int (σ.2.1 3 (σ.1.1 2 10).toNatClampNeg), .int (σ.2.1 4 (σ.1.1 2 10).toNatClampNeg)] c_Se_readNames_67 ⟨by decide, _, rfl⟩ rfl (Nat.le_of_ble_eq_true rfl) (t_Cu_set cu_9 e17) ?_
    refine a_aload_n i_Se_readNames_70 rfl ?_
    refine a_get (v := .ref 9) i_Se_readNames_71 rfl rfl ?_
    refine a_aload_n i_Se_readNames_74 rfl ?_
    refine a_get (v := .ref 5) i_Se_readNames_75 rfl rfl ?_
    refine a_iload_n i_Se_readNames_78 rfl ?_
    obtain ⟨c23, h⟩ := gd_some h
    refine a_lal (n := 24) i_Se_readNames_79 rfl rfl (inb_in c23) ?_
    obtain ⟨v24, σ24, e24, h⟩ := am_bd_some h
    refine am_cvd (rest := []) [.long (σ17.2.2 5 x1.toNatClampNeg)] c_Se_readNames_80 ⟨by decide, _, rfl⟩ rfl (Nat.le_of_ble_eq_true rfl) (t_Cu_skip cu_9 e24) ?_
    refine a_aload_n i_Se_readNames_83 rfl ?_
    refine a_get (v := .ref 9) i_Se_readNames_84 rfl rfl ?_
    obtain ⟨v27, σ27, e27, h⟩ := am_bd_some h
    refine am_cvd (rest := []) [] c_Se_readNames_87 ⟨by decide, _, rfl⟩ rfl (Nat.le_of_ble_eq_true rfl) (t_Cu_text cu_9 e27) ?_
    refine a_istore_n i_Se_readNames_90 rfl ?_
    refine a_aload_n i_Se_readNames_91 rfl ?_
    refine a_get (v := .ref 9) i_Se_readNames_92 rfl rfl ?_
    refine a_get (v := .int (σ27.1.1 9 3)) i_Se_readNames_95 rfl rfl ?_
    by_cases c32 : (σ27.1.1 9 3) = 0
    · rw [if_pos c32] at h
      refine a_ift i_Se_readNames_98 c32 ?_
      refine a_aload_n i_Se_readNames_103 rfl ?_
      refine a_iload_n i_Se_readNames_104 rfl ?_
      refine a_iload_n i_Se_readNames_105 rfl ?_
      refine a_aload_n i_Se_readNames_106 rfl ?_
      refine a_get (v := .ref 9) i_Se_readNames_107 rfl rfl ?_
      refine a_get (v := .int (σ27.1.1 9 1)) i_Se_readNames_110 rfl rfl ?_
      refine a_iconst i_Se_readNames_113 ?_
      refine a_isub i_Se_readNames_114 ?_
      obtain ⟨v41, σ41, e41, h⟩ := am_bd_some h
      refine am_cvd (rest := []) [.int x1, .int v27, .int ((σ27.1.1 9 1) - 1)] c_Se_readNames_115 ⟨by decide, _, rfl⟩ rfl (Nat.le_of_ble_eq_true rfl) (t_Se_choose e41) ?_
      refine a_iinc i_Se_readNames_118 rfl rfl ?_
      refine a_goto i_Se_readNames_121 ?_
      exact am_wk (ih h) ⟨Or.inr rfl, Or.inr rfl, Or.inl rfl, trivial⟩
    · rw [if_neg c32] at h
      refine a_iff i_Se_readNames_98 c32 ?_
      refine a_iconst i_Se_readNames_101 ?_
      exact am_ret_z ok_Se_readNames rfl rfl (Or.inl rfl) (am_lf_i h)
  · rw [if_neg c4] at h
    refine a_ict i_Se_readNames_42 (Int32.not_lt.mp c4) ?_
    refine a_iconst i_Se_readNames_124 ?_
    exact am_ret_z ok_Se_readNames rfl rfl (Or.inr rfl) (am_lf_i h)
def g_Se_readNames_2 : Nat → Int32 → am_S → Option (Int32 × am_S)
  | 0, _, _ => none
  | n + 1, x1, σ =>
  if x1 < 10 then
    am_gd (inb x1 10) <|
    am_gd (inb x1 10) <|
    am_gd (inb x1 10) <|
    g_Se_readNames_2 n (x1 + 1) (am_ai (am_ai (am_ai σ 6 x1.toNatClampNeg 0) 7 x1.toNatClampNeg 0) 8 x1.toNatClampNeg (vp_nar .boolean 0))
  else
    g_Se_readNames_37 4000 (0) σ
set_option maxHeartbeats 4000000 in
theorem t_Se_readNames_2 : ∀ (n : Nat) {x1 : Int32} {σ σ' : am_S} {r : Int32} (h : g_Se_readNames_2 n x1 σ = some (r, σ')), am_A S_c M_Se_readNames (2, [some (.ref 2), some (.int x1), none], [], σ) (am_r S_c (fun q τ => q = some (.int r) ∧ τ = σ')) := by
  intro n
  induction n with
  | zero =>
    intro x1 σ σ' r h
    cases h
  | succ n ih =>
  intro x1 σ σ' r h
  unfold g_Se_readNames_2 at h
  refine a_iload_n i_Se_readNames_2 rfl ?_
  refine a_bipush i_Se_readNames_3 ?_
  by_cases c3 : x1 < 10
  · rw [if_pos c3] at h
    refine a_icf i_Se_readNames_5 (Int32.not_le.mpr c3) ?_
    refine a_aload_n i_Se_readNames_8 rfl ?_
    refine a_get (v := .ref 6) i_Se_readNames_9 rfl rfl ?_
    refine a_iload_n i_Se_readNames_12 rfl ?_
    refine a_iconst i_Se_readNames_13 ?_
    obtain ⟨c8, h⟩ := gd_some h
    refine a_ias (n := 10) i_Se_readNames_14 rfl rfl (inb_in c8) ?_
    refine a_aload_n i_Se_readNames_15 rfl ?_
    refine a_get (v := .ref 7) i_Se_readNames_16 rfl rfl ?_
    refine a_iload_n i_Se_readNames_19 rfl ?_
    refine a_iconst i_Se_readNames_20 ?_
    obtain ⟨c13, h⟩ := gd_some h
    refine a_ias (n := 10) i_Se_readNames_21 rfl rfl (inb_in c13) ?_
    refine a_aload_n i_Se_readNames_22 rfl ?_
    refine a_get (v := .ref 8) i_Se_readNames_23 rfl rfl ?_
    refine a_iload_n i_Se_readNames_26 rfl ?_
    refine a_iconst i_Se_readNames_27 ?_
    obtain ⟨c18, h⟩ := gd_some h
    refine a_bas (n := 10) i_Se_readNames_28 rfl rfl (inb_in c18) ?_
    refine a_iinc i_Se_readNames_29 rfl rfl ?_
    refine a_goto i_Se_readNames_32 ?_
    exact ih h
  · rw [if_neg c3] at h
    refine a_ict i_Se_readNames_5 (Int32.not_lt.mp c3) ?_
    refine a_iconst i_Se_readNames_35 ?_
    refine a_istore_n i_Se_readNames_36 rfl ?_
    exact t_Se_readNames_37 4000 h
def g_Se_readNames (σ : am_S) : Option (Int32 × am_S) :=
  g_Se_readNames_2 4000 (0) σ
set_option maxHeartbeats 4000000 in
theorem t_Se_readNames_0 {σ σ' : am_S} {r : Int32} (h : g_Se_readNames σ = some (r, σ')) : am_A S_c M_Se_readNames (0, [some (.ref 2), none, none], [], σ) (am_r S_c (fun q τ => q = some (.int r) ∧ τ = σ')) := by
  unfold g_Se_readNames at h
  refine a_iconst i_Se_readNames_0 ?_
  refine a_istore_n i_Se_readNames_1 rfl ?_
  exact t_Se_readNames_2 4000 h
theorem t_Se_readNames {σ σ' : am_S} {r : Int32} (h : g_Se_readNames σ = some (r, σ')) : am_Mt S_c M_Se_readNames [.ref 2] σ (fun q τ => q = some (.int r) ∧ τ = σ') :=
  am_M_of ok_Se_readNames (Nat.le_of_ble_eq_true rfl) (t_Se_readNames_0 h)
def g_Se_read_12 : Nat → Int32 → Int32 → am_S → Option (Int32 × am_S)
  | 0, _, _, _ => none
  | n + 1, x1, x2, σ =>
  if x2 < (σ.1.1 2 8) then
    am_bd (g_Se_readHeader x2 x1 σ) fun v8 σ8 =>
    if v8 = 0 then
      some (0, σ8)
    else
      g_Se_read_12 n x1 (x2 + 1) σ8
  else
    am_bd (g_Se_readNames σ) fun v6 σ6 =>
    am_gd (z01 v6) <|
    some (v6, σ6)
set_option maxHeartbeats 4000000 in
theorem t_Se_read_12 : ∀ (n : Nat) {x1 : Int32} {x2 : Int32} {σ σ' : am_S} {r : Int32} (h : g_Se_read_12 n x1 x2 σ = some (r, σ')), am_A S_c M_Se_read (12, [some (.ref 2), some (.int x1), some (.int x2)], [], σ) (am_r S_c (fun q τ => q = some (.int r) ∧ τ = σ')) := by
  intro n
  induction n with
  | zero =>
    intro x1 x2 σ σ' r h
    cases h
  | succ n ih =>
  intro x1 x2 σ σ' r h
  unfold g_Se_read_12 at h
  refine a_iload_n i_Se_read_12 rfl ?_
  refine a_aload_n i_Se_read_13 rfl ?_
  refine a_get (v := .int (σ.1.1 2 8)) i_Se_read_14 rfl rfl ?_
  by_cases c4 : x2 < (σ.1.1 2 8)
  · rw [if_pos c4] at h
    refine a_icf i_Se_read_17 (Int32.not_le.mpr c4) ?_
    refine a_aload_n i_Se_read_20 rfl ?_
    refine a_iload_n i_Se_read_21 rfl ?_
    refine a_iload_n i_Se_read_22 rfl ?_
    obtain ⟨v8, σ8, e8, h⟩ := am_bd_some h
    refine am_cvd (rest := []) [.int x2, .int x1] c_Se_read_23 ⟨by decide, _, rfl⟩ rfl (Nat.le_of_ble_eq_true rfl) (t_Se_readHeader e8) ?_
    by_cases c9 : v8 = 0
    · rw [if_pos c9] at h
      refine a_iff i_Se_read_26 c9 ?_
      refine a_iconst i_Se_read_29 ?_
      exact am_ret_z ok_Se_read rfl rfl (Or.inl rfl) (am_lf_i h)
    · rw [if_neg c9] at h
      refine a_ift i_Se_read_26 c9 ?_
      refine a_iinc i_Se_read_31 rfl rfl ?_
      refine a_goto i_Se_read_34 ?_
      exact ih h
  · rw [if_neg c4] at h
    refine a_ict i_Se_read_17 (Int32.not_lt.mp c4) ?_
    refine a_aload_n i_Se_read_37 rfl ?_
    obtain ⟨v6, σ6, e6, h⟩ := am_bd_some h
    refine am_cvd (rest := []) [] c_Se_read_38 ⟨by decide, _, rfl⟩ rfl (Nat.le_of_ble_eq_true rfl) (t_Se_readNames e6) ?_
    obtain ⟨c7, h⟩ := gd_some h
    exact am_ret_z ok_Se_read rfl rfl (z01_or c7) (am_lf_i h)
def g_Se_read (x1 : Int32) (σ : am_S) : Option (Int32 × am_S) :=
  am_bd (g_Se_readHead x1 σ) fun v3 σ3 =>
  if v3 = 0 then
    some (0, σ3)
  else
    g_Se_read_12 4000 x1 (0) σ3
set_option maxHeartbeats 4000000 in
theorem t_Se_read_0 {x1 : Int32} {σ σ' : am_S} {r : Int32} (h : g_Se_read x1 σ = some (r, σ')) : am_A S_c M_Se_read (0, [some (.ref 2), some (.int x1), none], [], σ) (am_r S_c (fun q τ => q = some (.int r) ∧ τ = σ')) := by
  unfold g_Se_read at h
  refine a_aload_n i_Se_read_0 rfl ?_
  refine a_iload_n i_Se_read_1 rfl ?_
  obtain ⟨v3, σ3, e3, h⟩ := am_bd_some h
  refine am_cvd (rest := []) [.int x1] c_Se_read_2 ⟨by decide, _, rfl⟩ rfl (Nat.le_of_ble_eq_true rfl) (t_Se_readHead e3) ?_
  by_cases c4 : v3 = 0
  · rw [if_pos c4] at h
    refine a_iff i_Se_read_5 c4 ?_
    refine a_iconst i_Se_read_8 ?_
    exact am_ret_z ok_Se_read rfl rfl (Or.inl rfl) (am_lf_i h)
  · rw [if_neg c4] at h
    refine a_ift i_Se_read_5 c4 ?_
    refine a_iconst i_Se_read_10 ?_
    refine a_istore_n i_Se_read_11 rfl ?_
    exact t_Se_read_12 4000 h
theorem t_Se_read {x1 : Int32} {σ σ' : am_S} {r : Int32} (h : g_Se_read x1 σ = some (r, σ')) : am_Mt S_c M_Se_read [.ref 2, .int x1] σ (fun q τ => q = some (.int r) ∧ τ = σ') :=
  am_M_of ok_Se_read (Nat.le_of_ble_eq_true rfl) (t_Se_read_0 h)
def g_F_open_100 (σ : am_S) : Option ((Option Int32) × am_S) :=
  if (σ.1.1 0 12) = 0 then
    some (some (σ.1.1 10 10), am_fi σ 0 11 1)
  else
    some (none, σ)
set_option maxHeartbeats 4000000 in
theorem t_F_open_100 {σ σ' : am_S} {r : (Option Int32)} (h : g_F_open_100 σ = some (r, σ')) : am_A S_c M_F_open (100, [some (.ref 0)], [], σ) (am_tF S_c (fun q τ => ∃ w : Int32, r = some w ∧ q = some (.int w) ∧ τ = σ') (fun τ => r = none ∧ τ = σ') "java/lang/IllegalArgumentException") := by
  unfold g_F_open_100 at h
  refine a_aload_n i_F_open_100 rfl ?_
  refine a_get (v := .int (σ.1.1 0 12)) i_F_open_101 rfl rfl ?_
  by_cases c3 : (σ.1.1 0 12) = 0
  · rw [if_pos c3] at h
    refine a_ift i_F_open_104 c3 ?_
    refine a_aload_n i_F_open_115 rfl ?_
    refine a_iconst i_F_open_116 ?_
    refine a_puti i_F_open_117 rfl (Or.inr rfl) ?_
    refine a_aload_n i_F_open_120 rfl ?_
    refine a_get (v := .ref 10) i_F_open_121 rfl rfl ?_
    refine a_get (v := .int (σ.1.1 10 10)) i_F_open_124 rfl rfl ?_
    exact am_A_tr (am_ret_i ok_F_open rfl rfl (am_lf_s h))
  · rw [if_neg c3] at h
    refine a_iff i_F_open_104 c3 ?_
    exact f_throw_iae (am_lf_t h)
def g_F_open (σ : am_S) : Option ((Option Int32) × am_S) :=
  am_bd (g_F_forget σ) fun _ σ2 =>
  am_bd (g_Se_read (σ2.1.1 0 10) (am_fi σ2 0 12 0)) fun v10 σ10 =>
  if v10 = 0 then
    g_F_open_100 (am_fi σ10 0 12 1)
  else
    am_bd (g_Ur_read σ10) fun v14 σ14 =>
    if v14 = 0 then
      g_F_open_100 (am_fi σ14 0 12 2)
    else
      am_bd (g_Va_read σ14) fun v18 σ18 =>
      if v18 = 0 then
        g_F_open_100 (am_fi σ18 0 12 3)
      else
        am_bd (g_Li_read σ18) fun v22 σ22 =>
        if v22 = 0 then
          g_F_open_100 (am_fi σ22 0 12 4)
        else
          am_bd (g_Sy_read σ22) fun v26 σ26 =>
          if v26 = 0 then
            g_F_open_100 (am_fi σ26 0 12 5)
          else
            g_F_open_100 σ26
set_option maxHeartbeats 4000000 in
theorem t_F_open_0 {σ σ' : am_S} {r : (Option Int32)} (h : g_F_open σ = some (r, σ')) : am_A S_c M_F_open (0, [some (.ref 0)], [], σ) (am_tF S_c (fun q τ => ∃ w : Int32, r = some w ∧ q = some (.int w) ∧ τ = σ') (fun τ => r = none ∧ τ = σ') "java/lang/IllegalArgumentException") := by
  unfold g_F_open at h
  refine a_aload_n i_F_open_0 rfl ?_
  obtain ⟨v2, σ2, e2, h⟩ := am_bd_some h
  refine am_cvd (rest := []) [] c_F_open_1 ⟨by decide, _, rfl⟩ rfl (Nat.le_of_ble_eq_true rfl) (t_F_forget e2) ?_
  refine a_aload_n i_F_open_4 rfl ?_
  refine a_iconst i_F_open_5 ?_
  refine a_puti i_F_open_6 rfl trivial ?_
  refine a_aload_n i_F_open_9 rfl ?_
  refine a_get (v := .ref 2) i_F_open_10 rfl rfl ?_
  refine a_aload_n i_F_open_13 rfl ?_
  refine a_get (v := .int (σ2.1.1 0 10)) i_F_open_14 rfl rfl ?_
  obtain ⟨v10, σ10, e10, h⟩ := am_bd_some h
  refine am_cvd (rest := []) [.int (σ2.1.1 0 10)] c_F_open_17 ⟨by decide, _, rfl⟩ rfl (Nat.le_of_ble_eq_true rfl) (t_Se_read e10) ?_
  by_cases c11 : v10 = 0
  · rw [if_pos c11] at h
    refine a_iff i_F_open_20 c11 ?_
    refine a_aload_n i_F_open_23 rfl ?_
    refine a_iconst i_F_open_24 ?_
    refine a_puti i_F_open_25 rfl trivial ?_
    refine a_goto i_F_open_28 ?_
    exact t_F_open_100 h
  · rw [if_neg c11] at h
    refine a_ift i_F_open_20 c11 ?_
    refine a_aload_n i_F_open_31 rfl ?_
    refine a_get (v := .ref 21) i_F_open_32 rfl rfl ?_
    obtain ⟨v14, σ14, e14, h⟩ := am_bd_some h
    refine am_cvd (rest := []) [] c_F_open_35 ⟨by decide, _, rfl⟩ rfl (Nat.le_of_ble_eq_true rfl) (t_Ur_read e14) ?_
    by_cases c15 : v14 = 0
    · rw [if_pos c15] at h
      refine a_iff i_F_open_38 c15 ?_
      refine a_aload_n i_F_open_41 rfl ?_
      refine a_iconst i_F_open_42 ?_
      refine a_puti i_F_open_43 rfl trivial ?_
      refine a_goto i_F_open_46 ?_
      exact t_F_open_100 h
    · rw [if_neg c15] at h
      refine a_ift i_F_open_38 c15 ?_
      refine a_aload_n i_F_open_49 rfl ?_
      refine a_get (v := .ref 37) i_F_open_50 rfl rfl ?_
      obtain ⟨v18, σ18, e18, h⟩ := am_bd_some h
      refine am_cvd (rest := []) [] c_F_open_53 ⟨by decide, _, rfl⟩ rfl (Nat.le_of_ble_eq_true rfl) (t_Va_read e18) ?_
      by_cases c19 : v18 = 0
      · rw [if_pos c19] at h
        refine a_iff i_F_open_56 c19 ?_
        refine a_aload_n i_F_open_59 rfl ?_
        refine a_iconst i_F_open_60 ?_
        refine a_puti i_F_open_61 rfl trivial ?_
        refine a_goto i_F_open_64 ?_
        exact t_F_open_100 h
      · rw [if_neg c19] at h
        refine a_ift i_F_open_56 c19 ?_
        refine a_aload_n i_F_open_67 rfl ?_
        refine a_get (v := .ref 49) i_F_open_68 rfl rfl ?_
        obtain ⟨v22, σ22, e22, h⟩ := am_bd_some h
        refine am_cvd (rest := []) [] c_F_open_71 ⟨by decide, _, rfl⟩ rfl (Nat.le_of_ble_eq_true rfl) (t_Li_read e22) ?_
        by_cases c23 : v22 = 0
        · rw [if_pos c23] at h
          refine a_iff i_F_open_74 c23 ?_
          refine a_aload_n i_F_open_77 rfl ?_
          refine a_iconst i_F_open_78 ?_
          refine a_puti i_F_open_79 rfl trivial ?_
          refine a_goto i_F_open_82 ?_
          exact t_F_open_100 h
        · rw [if_neg c23] at h
          refine a_ift i_F_open_74 c23 ?_
          refine a_aload_n i_F_open_85 rfl ?_
          refine a_get (v := .ref 52) i_F_open_86 rfl rfl ?_
          obtain ⟨v26, σ26, e26, h⟩ := am_bd_some h
          refine am_cvd (rest := []) [] c_F_open_89 ⟨by decide, _, rfl⟩ rfl (Nat.le_of_ble_eq_true rfl) (t_Sy_read e26) ?_
          by_cases c27 : v26 = 0
          · rw [if_pos c27] at h
            refine a_iff i_F_open_92 c27 ?_
            refine a_aload_n i_F_open_95 rfl ?_
            refine a_iconst i_F_open_96 ?_
            refine a_puti i_F_open_97 rfl trivial ?_
            exact t_F_open_100 h
          · rw [if_neg c27] at h
            refine a_ift i_F_open_92 c27 ?_
            exact t_F_open_100 h
theorem t_F_open {σ σ' : am_S} {r : (Option Int32)} (h : g_F_open σ = some (r, σ')) : am_MtT S_c M_F_open [.ref 0] σ (fun q τ => ∃ w : Int32, r = some w ∧ q = some (.int w) ∧ τ = σ') (fun τ => r = none ∧ τ = σ') "java/lang/IllegalArgumentException" :=
  am_MT_of ok_F_open (Nat.le_of_ble_eq_true rfl) (t_F_open_0 h)
def g_F_find (x1 : Int64) (σ : am_S) : Option ((Option Int32) × am_S) :=
  if (σ.1.1 0 11) = 0 then
    some (none, σ)
  else
    am_bd (g_Fr_build x1 σ) fun v7 σ7 =>
    some (some v7, σ7)
set_option maxHeartbeats 4000000 in
theorem t_F_find_0 {x1 : Int64} {σ σ' : am_S} {r : (Option Int32)} (h : g_F_find x1 σ = some (r, σ')) : am_A S_c M_F_find (0, [some (.ref 0), some (.long x1), none], [], σ) (am_tF S_c (fun q τ => ∃ w : Int32, r = some w ∧ q = some (.int w) ∧ τ = σ') (fun τ => r = none ∧ τ = σ') "java/lang/IllegalStateException") := by
  unfold g_F_find at h
  refine a_aload_n i_F_find_0 rfl ?_
  refine a_get (v := .int (σ.1.1 0 11)) i_F_find_1 rfl rfl ?_
  by_cases c3 : (σ.1.1 0 11) = 0
  · rw [if_pos c3] at h
    refine a_iff i_F_find_4 c3 ?_
    exact f_throw_ise (am_lf_t h)
  · rw [if_neg c3] at h
    refine a_ift i_F_find_4 c3 ?_
    refine a_aload_n i_F_find_15 rfl ?_
    refine a_get (v := .ref 58) i_F_find_16 rfl rfl ?_
    refine a_lload_n i_F_find_19 rfl ?_
    obtain ⟨v7, σ7, e7, h⟩ := am_bd_some h
    refine am_cvd (rest := []) [.long x1] c_F_find_20 ⟨by decide, _, rfl⟩ rfl (Nat.le_of_ble_eq_true rfl) (t_Fr_build e7) ?_
    exact am_A_tr (am_ret_i ok_F_find rfl rfl (am_lf_s h))
theorem t_F_find {x1 : Int64} {σ σ' : am_S} {r : (Option Int32)} (h : g_F_find x1 σ = some (r, σ')) : am_MtT S_c M_F_find [.ref 0, .long x1] σ (fun q τ => ∃ w : Int32, r = some w ∧ q = some (.int w) ∧ τ = σ') (fun τ => r = none ∧ τ = σ') "java/lang/IllegalStateException" :=
  am_MT_of ok_F_find (Nat.le_of_ble_eq_true rfl) (t_F_find_0 h)
