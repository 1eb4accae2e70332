theorem i_F_open_0 : am_I1 S_c M_F_open 0 1 (.aload_n 0) (xN) := ⟨sys_c, ok_F_open, rfl⟩
theorem i_F_open_4 : am_I1 S_c M_F_open 4 1 (.aload_n 0) (xN) := ⟨sys_c, ok_F_open, rfl⟩
theorem i_F_open_5 : am_I1 S_c M_F_open 5 1 (.iconst 0) (xI (0)) := ⟨sys_c, ok_F_open, rfl⟩
theorem i_F_open_6 : am_I1 S_c M_F_open 6 3 (.putfield 95) (xF 0 12 0) := ⟨sys_c, ok_F_open, rfl⟩
theorem i_F_open_9 : am_I1 S_c M_F_open 9 1 (.aload_n 0) (xN) := ⟨sys_c, ok_F_open, rfl⟩
theorem i_F_open_10 : am_I1 S_c M_F_open 10 3 (.getfield 18) (xF 0 1 2) := ⟨sys_c, ok_F_open, rfl⟩
theorem i_F_open_13 : am_I1 S_c M_F_open 13 1 (.aload_n 0) (xN) := ⟨sys_c, ok_F_open, rfl⟩
theorem i_F_open_14 : am_I1 S_c M_F_open 14 3 (.getfield 88) (xF 0 10 0) := ⟨sys_c, ok_F_open, rfl⟩
theorem i_F_open_20 : am_I1 S_c M_F_open 20 3 (.ifCond .ne (11)) (xJ 31) := ⟨sys_c, ok_F_open, rfl⟩
theorem i_F_open_23 : am_I1 S_c M_F_open 23 1 (.aload_n 0) (xN) := ⟨sys_c, ok_F_open, rfl⟩
theorem i_F_open_24 : am_I1 S_c M_F_open 24 1 (.iconst 1) (xI (1)) := ⟨sys_c, ok_F_open, rfl⟩
theorem i_F_open_25 : am_I1 S_c M_F_open 25 3 (.putfield 95) (xF 0 12 0) := ⟨sys_c, ok_F_open, rfl⟩
theorem i_F_open_28 : am_I1 S_c M_F_open 28 3 (.goto (72)) (xJ 100) := ⟨sys_c, ok_F_open, rfl⟩
theorem i_F_open_100 : am_I1 S_c M_F_open 100 1 (.aload_n 0) (xN) := ⟨sys_c, ok_F_open, rfl⟩
theorem i_F_open_101 : am_I1 S_c M_F_open 101 3 (.getfield 95) (xF 0 12 0) := ⟨sys_c, ok_F_open, rfl⟩
theorem i_F_open_104 : am_I1 S_c M_F_open 104 3 (.ifCond .eq (11)) (xJ 115) := ⟨sys_c, ok_F_open, rfl⟩
theorem i_F_find_0 : am_I1 S_c M_F_find 0 1 (.aload_n 0) (xN) := ⟨sys_c, ok_F_find, rfl⟩
theorem i_F_find_1 : am_I1 S_c M_F_find 1 3 (.getfield 111) (xF 0 11 3) := ⟨sys_c, ok_F_find, rfl⟩
theorem i_F_find_4 : am_I1 S_c M_F_find 4 3 (.ifCond .ne (11)) (xJ 15) := ⟨sys_c, ok_F_find, rfl⟩
theorem i_F_name_0 : am_I1 S_c M_F_name 0 1 (.aload_n 0) (xN) := ⟨sys_c, ok_F_name, rfl⟩
theorem i_F_name_1 : am_I1 S_c M_F_name 1 3 (.getfield 84) (xF 0 9 2) := ⟨sys_c, ok_F_name, rfl⟩
theorem i_F_name_4 : am_I1 S_c M_F_name 4 1 (.iload_n 1) (xN) := ⟨sys_c, ok_F_name, rfl⟩
theorem i_F_name_8 : am_I1 S_c M_F_name 8 3 (.ifCond .eq (29)) (xJ 37) := ⟨sys_c, ok_F_name, rfl⟩
theorem i_F_name_37 : am_I1 S_c M_F_name 37 1 (.iconst (-1)) (xI (-1)) := ⟨sys_c, ok_F_name, rfl⟩
theorem i_F_file_0 : am_I1 S_c M_F_file 0 1 (.aload_n 0) (xN) := ⟨sys_c, ok_F_file, rfl⟩
theorem i_F_file_1 : am_I1 S_c M_F_file 1 3 (.getfield 84) (xF 0 9 2) := ⟨sys_c, ok_F_file, rfl⟩
theorem i_F_file_4 : am_I1 S_c M_F_file 4 1 (.iload_n 1) (xN) := ⟨sys_c, ok_F_file, rfl⟩
theorem i_F_file_8 : am_I1 S_c M_F_file 8 3 (.ifCond .eq (29)) (xJ 37) := ⟨sys_c, ok_F_file, rfl⟩
theorem i_F_file_37 : am_I1 S_c M_F_file 37 1 (.iconst (-1)) (xI (-1)) := ⟨sys_c, ok_F_file, rfl⟩
theorem i_F_line_0 : am_I1 S_c M_F_line 0 1 (.aload_n 0) (xN) := ⟨sys_c, ok_F_line, rfl⟩
theorem i_F_line_1 : am_I1 S_c M_F_line 1 3 (.getfield 84) (xF 0 9 2) := ⟨sys_c, ok_F_line, rfl⟩
theorem i_F_line_4 : am_I1 S_c M_F_line 4 1 (.iload_n 1) (xN) := ⟨sys_c, ok_F_line, rfl⟩
theorem i_F_line_8 : am_I1 S_c M_F_line 8 3 (.ifCond .eq (15)) (xJ 23) := ⟨sys_c, ok_F_line, rfl⟩
theorem i_F_line_23 : am_I1 S_c M_F_line 23 1 (.iconst (-1)) (xI (-1)) := ⟨sys_c, ok_F_line, rfl⟩
theorem i_Se_read_0 : am_I1 S_c M_Se_read 0 1 (.aload_n 0) (xN) := ⟨sys_c, ok_Se_read, rfl⟩
theorem i_Se_read_1 : am_I1 S_c M_Se_read 1 1 (.iload_n 1) (xN) := ⟨sys_c, ok_Se_read, rfl⟩
theorem i_Se_read_5 : am_I1 S_c M_Se_read 5 3 (.ifCond .ne (5)) (xJ 10) := ⟨sys_c, ok_Se_read, rfl⟩
theorem i_Se_read_8 : am_I1 S_c M_Se_read 8 1 (.iconst 0) (xI (0)) := ⟨sys_c, ok_Se_read, rfl⟩
theorem i_Se_readHead_0 : am_I1 S_c M_Se_readHead 0 1 (.iload_n 1) (xN) := ⟨sys_c, ok_Se_readHead, rfl⟩
theorem i_Se_readHead_1 : am_I1 S_c M_Se_readHead 1 2 (.bipush 64) (xI (64)) := ⟨sys_c, ok_Se_readHead, rfl⟩
theorem i_Se_readHead_3 : am_I1 S_c M_Se_readHead 3 3 (.if_icmp .ge (5)) (xJ 8) := ⟨sys_c, ok_Se_readHead, rfl⟩
theorem i_Se_readHead_6 : am_I1 S_c M_Se_readHead 6 1 (.iconst 0) (xI (0)) := ⟨sys_c, ok_Se_readHead, rfl⟩
theorem c_F_name_5 : am_V S_c M_F_name M_Fr_has 5 1 11 := am_V_of (tl := lw_tbl) (idx := 132) (nest := false) (h1 := 644) (h2 := 647) (h3 := 125) (h4 := 645) (h5 := 646) sys_c ok_F_name ht_c hn_c rfl (by decide +kernel) (by decide +kernel)
theorem c_F_file_5 : am_V S_c M_F_file M_Fr_has 5 1 11 := am_V_of (tl := lw_tbl) (idx := 132) (nest := false) (h1 := 644) (h2 := 647) (h3 := 125) (h4 := 645) (h5 := 646) sys_c ok_F_file ht_c hn_c rfl (by decide +kernel) (by decide +kernel)
theorem c_F_line_5 : am_V S_c M_F_line M_Fr_has 5 1 11 := am_V_of (tl := lw_tbl) (idx := 132) (nest := false) (h1 := 644) (h2 := 647) (h3 := 125) (h4 := 645) (h5 := 646) sys_c ok_F_line ht_c hn_c rfl (by decide +kernel) (by decide +kernel)
theorem c_Se_read_2 : am_V S_c M_Se_read M_Se_readHead 2 1 1 := am_V_of (tl := lw_tbl) (idx := 45) (nest := false) (h1 := 672) (h2 := 675) (h3 := 115) (h4 := 674) (h5 := 2) sys_c ok_Se_read ht_c hn_c rfl (by decide +kernel) (by decide +kernel)
theorem c_F_open_1 : am_V S_c M_F_open M_F_forget 1 0 0 := am_V_of (tl := lw_tbl) (idx := 92) (nest := false) (h1 := 624) (h2 := 627) (h3 := 114) (h4 := 626) (h5 := 0) sys_c ok_F_open ht_c hn_c rfl (by decide +kernel) (by decide +kernel)
theorem c_F_open_17 : am_V S_c M_F_open M_Se_read 17 1 1 := am_V_of (tl := lw_tbl) (idx := 98) (nest := false) (h1 := 668) (h2 := 671) (h3 := 115) (h4 := 669) (h5 := 670) sys_c ok_F_open ht_c hn_c rfl (by decide +kernel) (by decide +kernel)
