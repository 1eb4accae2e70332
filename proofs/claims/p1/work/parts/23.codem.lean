def cd_Mo_thrown : List (Option am_I) := [some (.aload_n 0, 1, xN), some (.getfield 144, 3, xF 0 1 0), none, none, some (.ireturn, 1, xN)]
def M_Mo_thrown : am_Me := (⟨R_Mo, "thrown", "()I"⟩, prog_14_method_2_code, 1, (some .int), Y_Mo, cd_Mo_thrown, 0, 0, 0, 0)
set_option maxRecDepth 100000 in
theorem ok_Mo_thrown : am_ok S_m M_Mo_thrown := am_ok_ofY (Y := Y_Mo) (cd := cd_Mo_thrown) (by decide +kernel) rfl rfl rfl oY_Mo (by decide +kernel)
def cd_Mo_load : List (Option am_I) := [some (.aload_n 0, 1, xN), some (.iconst 0, 1, xI (0)), some (.putfield 144, 3, xF 0 1 0), none, none, some (.iload_n 1, 1, xN), some (.iconst 1, 1, xI (1)), some (.if_icmp .lt (21), 3, xJ 28),
  none, none, some (.iload_n 1, 1, xN), some (.bipush 8, 2, xI (8)), none, some (.if_icmp .gt (15), 3, xJ 28), none, none,
  some (.aload_n 0, 1, xN), some (.getfield 148, 3, xF 0 3 0), none, none, some (.iload_n 1, 1, xN), some (.iadd, 1, xN), some (.sipush 3000, 3, xI (3000)), none,
  none, some (.if_icmp .le (5), 3, xJ 30), none, none, some (.iconst 0, 1, xI (0)), some (.ireturn, 1, xN), some (.iconst 0, 1, xI (0)), some (.istore 4, 2, xN),
  none, some (.iload 4, 2, xN), none, some (.iload_n 1, 1, xN), some (.if_icmp .ge (37), 3, xJ 73), none, none, some (.aload_n 0, 1, xN),
  some (.getfield 45, 3, xF 0 2 2), none, none, some (.aload_n 0, 1, xN), some (.getfield 148, 3, xF 0 3 0), none, none, some (.lload_n 2, 1, xN),
  some (.bipush 8, 2, xI (8)), none, some (.iload 4, 2, xN), none, some (.imul, 1, xN), some (.lshr, 1, xN), some (.l2i, 1, xN), some (.i2b, 1, xN),
  some (.bastore, 1, xJ 2), some (.aload_n 0, 1, xN), some (.dup, 1, xN), some (.getfield 148, 3, xF 0 3 0), none, none, some (.iconst 1, 1, xI (1)), some (.iadd, 1, xN),
  some (.putfield 148, 3, xF 0 3 0), none, none, some (.iinc 4 (1), 3, xI (1)), none, none, some (.goto (-37), 3, xJ 33), none,
  none, some (.aload_n 0, 1, xN), some (.invokevirtual 151, 3, xN), none, none, some (.iconst 1, 1, xI (1)), some (.ireturn, 1, xN)]
def M_Mo_load : am_Me := (⟨R_Mo, "load", "(IJ)Z"⟩, prog_14_method_3_code, 5, (some .boolean), Y_Mo, cd_Mo_load, 1, 20, 0, 0)
set_option maxRecDepth 100000 in
theorem ok_Mo_load : am_ok S_m M_Mo_load := am_ok_ofY (Y := Y_Mo) (cd := cd_Mo_load) (by decide +kernel) rfl rfl rfl oY_Mo (by decide +kernel)
def cd_Mo_clear : List (Option am_I) := [some (.aload_n 0, 1, xN), some (.iconst 0, 1, xI (0)), some (.putfield 144, 3, xF 0 1 0), none, none, some (.aload_n 0, 1, xN), some (.iconst 0, 1, xI (0)), some (.putfield 148, 3, xF 0 3 0),
  none, none, some (.aload_n 0, 1, xN), some (.invokevirtual 151, 3, xN), none, none, some (.return_, 1, xN)]
def M_Mo_clear : am_Me := (⟨R_Mo, "clear", "()V"⟩, prog_14_method_4_code, 1, none, Y_Mo, cd_Mo_clear, 1, 20, 0, 0)
set_option maxRecDepth 100000 in
theorem ok_Mo_clear : am_ok S_m M_Mo_clear := am_ok_ofY (Y := Y_Mo) (cd := cd_Mo_clear) (by decide +kernel) rfl rfl rfl oY_Mo (by decide +kernel)
def cd_Mo_forget : List (Option am_I) := [some (.aload_n 0, 1, xN), some (.iconst 0, 1, xI (0)), some (.putfield 154, 3, xF 0 5 3), none, none, some (.aload_n 0, 1, xN), some (.iconst 0, 1, xI (0)), some (.putfield 158, 3, xF 0 56 0),
  none, none, some (.aload_n 0, 1, xN), some (.iconst 0, 1, xI (0)), some (.putfield 161, 3, xF 0 55 0), none, none, some (.return_, 1, xN)]
def M_Mo_forget : am_Me := (⟨R_Mo, "forget", "()V"⟩, prog_14_method_5_code, 1, none, Y_Mo, cd_Mo_forget, 0, 0, 0, 0)
set_option maxRecDepth 100000 in
theorem ok_Mo_forget : am_ok S_m M_Mo_forget := am_ok_ofY (Y := Y_Mo) (cd := cd_Mo_forget) (by decide +kernel) rfl rfl rfl oY_Mo (by decide +kernel)
def cd_Mo_u : List (Option am_I) := [some (.aload_n 0, 1, xN), some (.getfield 164, 3, xF 0 8 3), none, none, some (.ifCond .ne (16), 3, xJ 20), none, none, some (.aload_n 0, 1, xN),
  some (.getfield 167, 3, xF 0 6 0), none, none, some (.iload_n 1, 1, xN), some (.iadd, 1, xN), some (.aload_n 0, 1, xN), some (.getfield 170, 3, xF 0 7 0), none,
  none, some (.if_icmp .le (10), 3, xJ 27), none, none, some (.aload_n 0, 1, xN), some (.iconst 1, 1, xI (1)), some (.putfield 164, 3, xF 0 8 3), none,
  none, some (.lconst 0, 1, xL 0), some (.lreturn, 1, xN), some (.aload_n 0, 1, xN), some (.dup, 1, xN), some (.getfield 167, 3, xF 0 6 0), none, none,
  some (.iload_n 1, 1, xN), some (.iadd, 1, xN), some (.putfield 167, 3, xF 0 6 0), none, none, some (.aload_n 0, 1, xN), some (.aload_n 0, 1, xN), some (.getfield 167, 3, xF 0 6 0),
  none, none, some (.iload_n 1, 1, xN), some (.isub, 1, xN), some (.iload_n 1, 1, xN), some (.invokevirtual 173, 3, xN), none, none,
  some (.lreturn, 1, xN)]
def M_Mo_u : am_Me := (⟨R_Mo, "u", "(I)J"⟩, prog_14_method_6_code, 2, (some .long), Y_Mo, cd_Mo_u, 1, 25, 0, 0)
set_option maxRecDepth 100000 in
theorem ok_Mo_u : am_ok S_m M_Mo_u := am_ok_ofY (Y := Y_Mo) (cd := cd_Mo_u) (by decide +kernel) rfl rfl rfl oY_Mo (by decide +kernel)
def cd_Mo_leb : List (Option am_I) := [some (.lconst 0, 1, xL 0), some (.lstore_n 2, 1, xN), some (.iconst 0, 1, xI (0)), some (.istore 4, 2, xN), none, some (.sipush 128, 3, xI (128)), none, none,
  some (.istore 5, 2, xN), none, some (.iload 5, 2, xN), none, some (.bipush 127, 2, xI (127)), none, some (.if_icmp .le (69), 3, xJ 83), none,
  none, some (.aload_n 0, 1, xN), some (.getfield 164, 3, xF 0 8 3), none, none, some (.ifCond .ne (62), 3, xJ 83), none, none,
  some (.aload_n 0, 1, xN), some (.iconst 1, 1, xI (1)), some (.invokevirtual 177, 3, xN), none, none, some (.l2i, 1, xN), some (.istore 5, 2, xN), none,
  some (.aload_n 0, 1, xN), some (.aload_n 0, 1, xN), some (.getfield 164, 3, xF 0 8 3), none, none, some (.ifCond .ne (17), 3, xJ 54), none, none,
  some (.iload 4, 2, xN), none, some (.bipush 9, 2, xI (9)), none, some (.if_icmp .ne (14), 3, xJ 58), none, none, some (.iload 5, 2, xN),
  none, some (.bipush 127, 2, xI (127)), none, some (.if_icmp .le (7), 3, xJ 58), none, none, some (.iconst 1, 1, xI (1)), some (.goto (4), 3, xJ 59),
  none, none, some (.iconst 0, 1, xI (0)), some (.putfield 164, 3, xF 0 8 3), none, none, some (.lload_n 2, 1, xN), some (.iload 5, 2, xN),
  none, some (.bipush 127, 2, xI (127)), none, some (.iand, 1, xN), some (.i2l, 1, xN), some (.bipush 7, 2, xI (7)), none, some (.iload 4, 2, xN),
  none, some (.imul, 1, xN), some (.lshl, 1, xN), some (.lor, 1, xN), some (.lstore_n 2, 1, xN), some (.iinc 4 (1), 3, xI (1)), none, none,
  some (.goto (-70), 3, xJ 10), none, none, some (.iload_n 1, 1, xN), some (.ifCond .eq (32), 3, xJ 116), none, none, some (.iload 5, 2, xN),
  none, some (.bipush 64, 2, xI (64)), none, some (.iand, 1, xN), some (.ifCond .le (24), 3, xJ 116), none, none, some (.iload 4, 2, xN),
  none, some (.bipush 10, 2, xI (10)), none, some (.if_icmp .ge (17), 3, xJ 116), none, none, some (.lload_n 2, 1, xN), some (.ldc2_w 181, 3, xL (-1)),
  none, none, some (.bipush 7, 2, xI (7)), none, some (.iload 4, 2, xN), none, some (.imul, 1, xN), some (.lshl, 1, xN),
  some (.lor, 1, xN), some (.goto (4), 3, xJ 117), none, none, some (.lload_n 2, 1, xN), some (.lreturn, 1, xN)]
def M_Mo_leb : am_Me := (⟨R_Mo, "leb", "(Z)J"⟩, prog_14_method_7_code, 6, (some .long), Y_Mo, cd_Mo_leb, 2, 46, 0, 0)
set_option maxRecDepth 100000 in
theorem ok_Mo_leb : am_ok S_m M_Mo_leb := am_ok_ofY (Y := Y_Mo) (cd := cd_Mo_leb) (by decide +kernel) rfl rfl rfl oY_Mo (by decide +kernel)
def cd_Mo_textEnd : List (Option am_I) := [some (.iload_n 1, 1, xN), some (.istore_n 3, 1, xN), some (.iload_n 3, 1, xN), some (.iload_n 2, 1, xN), some (.if_icmp .ge (18), 3, xJ 22), none, none, some (.aload_n 0, 1, xN),
  some (.getfield 45, 3, xF 0 2 2), none, none, some (.iload_n 3, 1, xN), some (.baload, 1, xJ 2), some (.ifCond .eq (9), 3, xJ 22), none, none,
  some (.iinc 3 (1), 3, xI (1)), none, none, some (.goto (-17), 3, xJ 2), none, none, some (.iload_n 3, 1, xN), some (.iload_n 2, 1, xN),
  some (.if_icmp .ge (7), 3, xJ 31), none, none, some (.iload_n 3, 1, xN), some (.goto (4), 3, xJ 32), none, none, some (.iconst (-1), 1, xI (-1)),
  some (.ireturn, 1, xN)]
def M_Mo_textEnd : am_Me := (⟨R_Mo, "textEnd", "(II)I"⟩, prog_14_method_8_code, 4, (some .int), Y_Mo, cd_Mo_textEnd, 0, 0, 0, 0)
set_option maxRecDepth 100000 in
theorem ok_Mo_textEnd : am_ok S_m M_Mo_textEnd := am_ok_ofY (Y := Y_Mo) (cd := cd_Mo_textEnd) (by decide +kernel) rfl rfl rfl oY_Mo (by decide +kernel)
def cd_Mo_text : List (Option am_I) := [some (.aload_n 0, 1, xN), some (.getfield 167, 3, xF 0 6 0), none, none, some (.istore_n 1, 1, xN), some (.aload_n 0, 1, xN), some (.getfield 164, 3, xF 0 8 3), none,
  none, some (.ifCond .eq (7), 3, xJ 16), none, none, some (.iconst (-1), 1, xI (-1)), some (.goto (15), 3, xJ 28), none, none,
  some (.aload_n 0, 1, xN), some (.aload_n 0, 1, xN), some (.getfield 167, 3, xF 0 6 0), none, none, some (.aload_n 0, 1, xN), some (.getfield 170, 3, xF 0 7 0), none,
  none, some (.invokevirtual 183, 3, xN), none, none, some (.istore_n 2, 1, xN), some (.aload_n 0, 1, xN), some (.iload_n 2, 1, xN), some (.iconst (-1), 1, xI (-1)),
  some (.if_icmp .ne (7), 3, xJ 39), none, none, some (.iconst 1, 1, xI (1)), some (.goto (4), 3, xJ 40), none, none, some (.iconst 0, 1, xI (0)),
  some (.putfield 164, 3, xF 0 8 3), none, none, some (.aload_n 0, 1, xN), some (.aload_n 0, 1, xN), some (.getfield 164, 3, xF 0 8 3), none, none,
  some (.ifCond .eq (10), 3, xJ 58), none, none, some (.aload_n 0, 1, xN), some (.getfield 167, 3, xF 0 6 0), none, none, some (.goto (6), 3, xJ 61),
  none, none, some (.iload_n 2, 1, xN), some (.iconst 1, 1, xI (1)), some (.iadd, 1, xN), some (.putfield 167, 3, xF 0 6 0), none, none,
  some (.iload_n 1, 1, xN), some (.ireturn, 1, xN)]
def M_Mo_text : am_Me := (⟨R_Mo, "text", "()I"⟩, prog_14_method_9_code, 3, (some .int), Y_Mo, cd_Mo_text, 1, 23, 0, 0)
set_option maxRecDepth 100000 in
theorem ok_Mo_text : am_ok S_m M_Mo_text := am_ok_ofY (Y := Y_Mo) (cd := cd_Mo_text) (by decide +kernel) rfl rfl rfl oY_Mo (by decide +kernel)
def cd_Mo_pass : List (Option am_I) := [some (.aload_n 0, 1, xN), some (.aload_n 0, 1, xN), some (.getfield 164, 3, xF 0 8 3), none, none, some (.ifCond .ne (24), 3, xJ 29), none, none,
  some (.lload_n 1, 1, xN), some (.lconst 0, 1, xL 0), some (.lcmp, 1, xN), some (.ifCond .lt (18), 3, xJ 29), none, none, some (.lload_n 1, 1, xN), some (.aload_n 0, 1, xN),
  some (.getfield 170, 3, xF 0 7 0), none, none, some (.aload_n 0, 1, xN), some (.getfield 167, 3, xF 0 6 0), none, none, some (.isub, 1, xN),
  some (.i2l, 1, xN), some (.lcmp, 1, xN), some (.ifCond .le (7), 3, xJ 33), none, none, some (.iconst 1, 1, xI (1)), some (.goto (4), 3, xJ 34), none,
  none, some (.iconst 0, 1, xI (0)), some (.putfield 164, 3, xF 0 8 3), none, none, some (.aload_n 0, 1, xN), some (.aload_n 0, 1, xN), some (.getfield 164, 3, xF 0 8 3),
  none, none, some (.ifCond .eq (10), 3, xJ 52), none, none, some (.aload_n 0, 1, xN), some (.getfield 167, 3, xF 0 6 0), none,
  none, some (.goto (10), 3, xJ 59), none, none, some (.aload_n 0, 1, xN), some (.getfield 167, 3, xF 0 6 0), none, none,
  some (.lload_n 1, 1, xN), some (.l2i, 1, xN), some (.iadd, 1, xN), some (.putfield 167, 3, xF 0 6 0), none, none, some (.return_, 1, xN)]
def M_Mo_pass : am_Me := (⟨R_Mo, "pass", "(J)V"⟩, prog_14_method_10_code, 3, none, Y_Mo, cd_Mo_pass, 0, 0, 0, 0)
set_option maxRecDepth 100000 in
theorem ok_Mo_pass : am_ok S_m M_Mo_pass := am_ok_ofY (Y := Y_Mo) (cd := cd_Mo_pass) (by decide +kernel) rfl rfl rfl oY_Mo (by decide +kernel)
def cd_Mo_enter : List (Option am_I) := [some (.aload_n 0, 1, xN), some (.aload_n 0, 1, xN), some (.getfield 49, 3, xF 0 10 2), none, none, some (.iload_n 1, 1, xN), some (.iaload, 1, xN), some (.putfield 167, 3, xF 0 6 0),
  none, none, some (.aload_n 0, 1, xN), some (.aload_n 0, 1, xN), some (.getfield 167, 3, xF 0 6 0), none, none, some (.aload_n 0, 1, xN),
  some (.getfield 53, 3, xF 0 11 2), none, none, some (.iload_n 1, 1, xN), some (.iaload, 1, xN), some (.iadd, 1, xN), some (.putfield 170, 3, xF 0 7 0), none,
  none, some (.aload_n 0, 1, xN), some (.iconst 0, 1, xI (0)), some (.putfield 164, 3, xF 0 8 3), none, none, some (.aload_n 0, 1, xN), some (.lload_n 2, 1, xN),
  some (.invokevirtual 187, 3, xN), none, none, some (.return_, 1, xN)]
def M_Mo_enter : am_Me := (⟨R_Mo, "enter", "(IJ)V"⟩, prog_14_method_11_code, 4, none, Y_Mo, cd_Mo_enter, 1, 22, 0, 0)
set_option maxRecDepth 100000 in
theorem ok_Mo_enter : am_ok S_m M_Mo_enter := am_ok_ofY (Y := Y_Mo) (cd := cd_Mo_enter) (by decide +kernel) rfl rfl rfl oY_Mo (by decide +kernel)
def cd_Mo_in : List (Option am_I) := [some (.lload_n 0, 1, xN), some (.lload_n 2, 1, xN), some (.lcmp, 1, xN), some (.ifCond .lt (14), 3, xJ 17), none, none, some (.lload_n 0, 1, xN), some (.lload 4, 2, xN),
  none, some (.lcmp, 1, xN), some (.ifCond .gt (7), 3, xJ 17), none, none, some (.iconst 1, 1, xI (1)), some (.goto (4), 3, xJ 18), none,
  none, some (.iconst 0, 1, xI (0)), some (.ireturn, 1, xN)]
def M_Mo_in : am_Me := (⟨R_Mo, "in", "(JJJ)Z"⟩, prog_14_method_12_code, 6, (some .boolean), Y_Mo, cd_Mo_in, 0, 0, 0, 0)
set_option maxRecDepth 100000 in
theorem ok_Mo_in : am_ok S_m M_Mo_in := am_ok_ofY (Y := Y_Mo) (cd := cd_Mo_in) (by decide +kernel) rfl rfl rfl oY_Mo (by decide +kernel)
def cd_Mo_placeIn : List (Option am_I) := [some (.lload_n 2, 1, xN), some (.lconst 0, 1, xL 0), some (.lcmp, 1, xN), some (.ifCond .lt (30), 3, xJ 33), none, none, some (.lload_n 2, 1, xN), some (.aload_n 0, 1, xN),
  some (.getfield 53, 3, xF 0 11 2), none, none, some (.iload_n 1, 1, xN), some (.iaload, 1, xN), some (.iload 4, 2, xN), none, some (.isub, 1, xN),
  some (.i2l, 1, xN), some (.lcmp, 1, xN), some (.ifCond .gt (15), 3, xJ 33), none, none, some (.aload_n 0, 1, xN), some (.getfield 49, 3, xF 0 10 2), none,
  none, some (.iload_n 1, 1, xN), some (.iaload, 1, xN), some (.lload_n 2, 1, xN), some (.l2i, 1, xN), some (.iadd, 1, xN), some (.goto (4), 3, xJ 34), none,
  none, some (.iconst (-1), 1, xI (-1)), some (.ireturn, 1, xN)]
def M_Mo_placeIn : am_Me := (⟨R_Mo, "placeIn", "(IJI)I"⟩, prog_14_method_13_code, 5, (some .int), Y_Mo, cd_Mo_placeIn, 0, 0, 0, 0)
set_option maxRecDepth 100000 in
theorem ok_Mo_placeIn : am_ok S_m M_Mo_placeIn := am_ok_ofY (Y := Y_Mo) (cd := cd_Mo_placeIn) (by decide +kernel) rfl rfl rfl oY_Mo (by decide +kernel)
def cd_Mo_textIn : List (Option am_I) := [some (.aload_n 0, 1, xN), some (.iload_n 1, 1, xN), some (.lload_n 2, 1, xN), some (.iconst 1, 1, xI (1)), some (.invokevirtual 191, 3, xN), none, none, some (.istore 4, 2, xN),
  none, some (.iload 4, 2, xN), none, some (.iconst (-1), 1, xI (-1)), some (.if_icmp .eq (31), 3, xJ 43), none, none, some (.aload_n 0, 1, xN),
  some (.iload 4, 2, xN), none, some (.aload_n 0, 1, xN), some (.getfield 49, 3, xF 0 10 2), none, none, some (.iload_n 1, 1, xN), some (.iaload, 1, xN),
  some (.aload_n 0, 1, xN), some (.getfield 53, 3, xF 0 11 2), none, none, some (.iload_n 1, 1, xN), some (.iaload, 1, xN), some (.iadd, 1, xN), some (.invokevirtual 183, 3, xN),
  none, none, some (.iconst (-1), 1, xI (-1)), some (.if_icmp .eq (8), 3, xJ 43), none, none, some (.iload 4, 2, xN), none,
  some (.goto (4), 3, xJ 44), none, none, some (.iconst (-1), 1, xI (-1)), some (.ireturn, 1, xN)]
def M_Mo_textIn : am_Me := (⟨R_Mo, "textIn", "(IJ)I"⟩, prog_14_method_14_code, 5, (some .int), Y_Mo, cd_Mo_textIn, 1, 24, 0, 0)
set_option maxRecDepth 100000 in
theorem ok_Mo_textIn : am_ok S_m M_Mo_textIn := am_ok_ofY (Y := Y_Mo) (cd := cd_Mo_textIn) (by decide +kernel) rfl rfl rfl oY_Mo (by decide +kernel)
def cd_Mo_peek : List (Option am_I) := [some (.lconst 0, 1, xL 0), some (.lstore_n 3, 1, xN), some (.iload_n 2, 1, xN), some (.iconst 1, 1, xI (1)), some (.isub, 1, xN), some (.istore 5, 2, xN), none, some (.iload 5, 2, xN),
  none, some (.ifCond .lt (29), 3, xJ 38), none, none, some (.lload_n 3, 1, xN), some (.bipush 8, 2, xI (8)), none, some (.lshl, 1, xN),
  some (.aload_n 0, 1, xN), some (.getfield 45, 3, xF 0 2 2), none, none, some (.iload_n 1, 1, xN), some (.iload 5, 2, xN), none, some (.iadd, 1, xN),
  some (.baload, 1, xJ 2), some (.sipush 255, 3, xI (255)), none, none, some (.iand, 1, xN), some (.i2l, 1, xN), some (.lor, 1, xN), some (.lstore_n 3, 1, xN),
  some (.iinc 5 (-1), 3, xI (-1)), none, none, some (.goto (-28), 3, xJ 7), none, none, some (.lload_n 3, 1, xN), some (.lreturn, 1, xN)]
def M_Mo_peek : am_Me := (⟨R_Mo, "peek", "(II)J"⟩, prog_14_method_15_code, 6, (some .long), Y_Mo, cd_Mo_peek, 0, 0, 0, 0)
set_option maxRecDepth 100000 in
theorem ok_Mo_peek : am_ok S_m M_Mo_peek := am_ok_ofY (Y := Y_Mo) (cd := cd_Mo_peek) (by decide +kernel) rfl rfl rfl oY_Mo (by decide +kernel)
def cd_Mo_isHead : List (Option am_I) := [some (.aload_n 0, 1, xN), some (.getfield 148, 3, xF 0 3 0), none, none, some (.bipush 64, 2, xI (64)), none, some (.if_icmp .lt (70), 3, xJ 76), none,
  none, some (.aload_n 0, 1, xN), some (.iconst 0, 1, xI (0)), some (.bipush 7, 2, xI (7)), none, some (.invokevirtual 173, 3, xN), none, none,
  some (.ldc2_w 195, 3, xL (282584257676671)), none, none, some (.lcmp, 1, xN), some (.ifCond .ne (56), 3, xJ 76), none, none, some (.aload_n 0, 1, xN),
  some (.bipush 58, 2, xI (58)), none, some (.iconst 2, 1, xI (2)), some (.invokevirtual 173, 3, xN), none, none, some (.ldc2_w 197, 3, xL (64)), none,
  none, some (.lcmp, 1, xN), some (.ifCond .ne (42), 3, xJ 76), none, none, some (.aload_n 0, 1, xN), some (.bipush 60, 2, xI (60)), none,
  some (.iconst 2, 1, xI (2)), some (.invokevirtual 173, 3, xN), none, none, some (.lconst 1, 1, xL 1), some (.ldc2_w 199, 3, xL (24)), none, none,
  some (.invokestatic 201, 3, xN), none, none, some (.ifCond .eq (25), 3, xJ 76), none, none, some (.aload_n 0, 1, xN), some (.bipush 62, 2, xI (62)),
  none, some (.iconst 2, 1, xI (2)), some (.invokevirtual 173, 3, xN), none, none, some (.aload_n 0, 1, xN), some (.bipush 60, 2, xI (60)), none,
  some (.iconst 2, 1, xI (2)), some (.invokevirtual 173, 3, xN), none, none, some (.lcmp, 1, xN), some (.ifCond .ge (7), 3, xJ 76), none, none,
  some (.iconst 1, 1, xI (1)), some (.goto (4), 3, xJ 77), none, none, some (.iconst 0, 1, xI (0)), some (.ireturn, 1, xN)]
def M_Mo_isHead : am_Me := (⟨R_Mo, "isHead", "()Z"⟩, prog_14_method_16_code, 1, (some .boolean), Y_Mo, cd_Mo_isHead, 1, 25, 0, 0)
set_option maxRecDepth 100000 in
theorem ok_Mo_isHead : am_ok S_m M_Mo_isHead := am_ok_ofY (Y := Y_Mo) (cd := cd_Mo_isHead) (by decide +kernel) rfl rfl rfl oY_Mo (by decide +kernel)
def cd_Mo_isName : List (Option am_I) := [some (.iconst 0, 1, xI (0)), some (.istore 4, 2, xN), none, some (.iload 4, 2, xN), none, some (.bipush 24, 2, xI (24)), none, some (.if_icmp .ge (67), 3, xJ 74),
  none, none, some (.aload_n 0, 1, xN), some (.getfield 39, 3, xF 0 0 2), none, none, some (.iconst 3, 1, xI (3)), some (.iload_n 3, 1, xN),
  some (.imul, 1, xN), some (.iload 4, 2, xN), none, some (.bipush 8, 2, xI (8)), none, some (.idiv, 1, xN), some (.iadd, 1, xN), some (.laload, 1, xN),
  some (.bipush 8, 2, xI (8)), none, some (.iload 4, 2, xN), none, some (.bipush 8, 2, xI (8)), none, some (.irem, 1, xN), some (.imul, 1, xN),
  some (.lshr, 1, xN), some (.ldc2_w 205, 3, xL (255)), none, none, some (.land, 1, xN), some (.l2i, 1, xN), some (.istore 5, 2, xN), none,
  some (.iload 5, 2, xN), none, some (.iload_n 1, 1, xN), some (.iload 4, 2, xN), none, some (.iadd, 1, xN), some (.iload_n 2, 1, xN), some (.if_icmp .ge (15), 3, xJ 62),
  none, none, some (.aload_n 0, 1, xN), some (.getfield 45, 3, xF 0 2 2), none, none, some (.iload_n 1, 1, xN), some (.iload 4, 2, xN),
  none, some (.iadd, 1, xN), some (.baload, 1, xJ 2), some (.goto (4), 3, xJ 63), none, none, some (.iconst 0, 1, xI (0)), some (.if_icmp .eq (5), 3, xJ 68),
  none, none, some (.iconst 0, 1, xI (0)), some (.ireturn, 1, xN), some (.iinc 4 (1), 3, xI (1)), none, none, some (.goto (-68), 3, xJ 3),
  none, none, some (.iload_n 2, 1, xN), some (.iload_n 1, 1, xN), some (.isub, 1, xN), some (.bipush 24, 2, xI (24)), none, some (.if_icmp .ge (7), 3, xJ 86),
  none, none, some (.iconst 1, 1, xI (1)), some (.goto (4), 3, xJ 87), none, none, some (.iconst 0, 1, xI (0)), some (.ireturn, 1, xN)]
def M_Mo_isName : am_Me := (⟨R_Mo, "isName", "(III)Z"⟩, prog_14_method_17_code, 6, (some .boolean), Y_Mo, cd_Mo_isName, 0, 0, 0, 0)
set_option maxRecDepth 100000 in
theorem ok_Mo_isName : am_ok S_m M_Mo_isName := am_ok_ofY (Y := Y_Mo) (cd := cd_Mo_isName) (by decide +kernel) rfl rfl rfl oY_Mo (by decide +kernel)
def cd_Mo_lies : List (Option am_I) := [some (.aload_n 0, 1, xN), some (.iload_n 1, 1, xN), some (.bipush 24, 2, xI (24)), none, some (.iadd, 1, xN), some (.bipush 8, 2, xI (8)), none, some (.invokevirtual 173, 3, xN),
  none, none, some (.lstore_n 2, 1, xN), some (.aload_n 0, 1, xN), some (.iload_n 1, 1, xN), some (.bipush 32, 2, xI (32)), none, some (.iadd, 1, xN),
  some (.bipush 8, 2, xI (8)), none, some (.invokevirtual 173, 3, xN), none, none, some (.lstore 4, 2, xN), none, some (.aload_n 0, 1, xN),
  some (.iload_n 1, 1, xN), some (.iconst 4, 1, xI (4)), some (.iadd, 1, xN), some (.iconst 4, 1, xI (4)), some (.invokevirtual 173, 3, xN), none, none, some (.ldc2_w 207, 3, xL (8)),
  none, none, some (.lcmp, 1, xN), some (.ifCond .eq (32), 3, xJ 67), none, none, some (.lload_n 2, 1, xN), some (.lconst 0, 1, xL 0),
  some (.aload_n 0, 1, xN), some (.getfield 148, 3, xF 0 3 0), none, none, some (.i2l, 1, xN), some (.invokestatic 201, 3, xN), none, none,
  some (.ifCond .eq (23), 3, xJ 71), none, none, some (.lload 4, 2, xN), none, some (.lconst 0, 1, xL 0), some (.aload_n 0, 1, xN), some (.getfield 148, 3, xF 0 3 0),
  none, none, some (.i2l, 1, xN), some (.lload_n 2, 1, xN), some (.lsub, 1, xN), some (.invokestatic 201, 3, xN), none, none,
  some (.ifCond .eq (7), 3, xJ 71), none, none, some (.iconst 1, 1, xI (1)), some (.goto (4), 3, xJ 72), none, none, some (.iconst 0, 1, xI (0)),
  some (.ireturn, 1, xN)]
def M_Mo_lies : am_Me := (⟨R_Mo, "lies", "(I)Z"⟩, prog_14_method_18_code, 6, (some .boolean), Y_Mo, cd_Mo_lies, 1, 25, 0, 0)
set_option maxRecDepth 100000 in
theorem ok_Mo_lies : am_ok S_m M_Mo_lies := am_ok_ofY (Y := Y_Mo) (cd := cd_Mo_lies) (by decide +kernel) rfl rfl rfl oY_Mo (by decide +kernel)
def cd_Mo_readSections : List (Option am_I) := [some (.aload_n 0, 1, xN), some (.invokevirtual 209, 3, xN), none, none, some (.ifCond .ne (5), 3, xJ 9), none, none, some (.iconst 0, 1, xI (0)),
  some (.ireturn, 1, xN), some (.aload_n 0, 1, xN), some (.aload_n 0, 1, xN), some (.bipush 60, 2, xI (60)), none, some (.iconst 2, 1, xI (2)), some (.invokevirtual 173, 3, xN), none,
  none, some (.l2i, 1, xN), some (.putfield 213, 3, xF 0 9 0), none, none, some (.aload_n 0, 1, xN), some (.bipush 40, 2, xI (40)), none,
  some (.bipush 8, 2, xI (8)), none, some (.invokevirtual 173, 3, xN), none, none, some (.lstore_n 1, 1, xN), some (.lload_n 1, 1, xN), some (.lconst 0, 1, xL 0),
  some (.aload_n 0, 1, xN), some (.getfield 148, 3, xF 0 3 0), none, none, some (.bipush 64, 2, xI (64)), none, some (.aload_n 0, 1, xN), some (.getfield 213, 3, xF 0 9 0),
  none, none, some (.imul, 1, xN), some (.isub, 1, xN), some (.i2l, 1, xN), some (.invokestatic 201, 3, xN), none, none,
  some (.ifCond .ne (5), 3, xJ 53), none, none, some (.iconst 0, 1, xI (0)), some (.ireturn, 1, xN), some (.lload_n 1, 1, xN), some (.l2i, 1, xN), some (.istore_n 3, 1, xN),
  some (.iconst 0, 1, xI (0)), some (.istore 4, 2, xN), none, some (.iload 4, 2, xN), none, some (.bipush 10, 2, xI (10)), none, some (.if_icmp .ge (33), 3, xJ 96),
  none, none, some (.aload_n 0, 1, xN), some (.getfield 56, 3, xF 0 12 2), none, none, some (.iload 4, 2, xN), none,
  some (.iconst 0, 1, xI (0)), some (.bastore, 1, xJ 3), some (.aload_n 0, 1, xN), some (.getfield 49, 3, xF 0 10 2), none, none, some (.iload 4, 2, xN), none,
  some (.iconst 0, 1, xI (0)), some (.iastore, 1, xN), some (.aload_n 0, 1, xN), some (.getfield 53, 3, xF 0 11 2), none, none, some (.iload 4, 2, xN), none,
  some (.iconst 0, 1, xI (0)), some (.iastore, 1, xN), some (.iinc 4 (1), 3, xI (1)), none, none, some (.goto (-34), 3, xJ 59), none, none,
  some (.iconst 0, 1, xI (0)), some (.istore 4, 2, xN), none, some (.iload 4, 2, xN), none, some (.aload_n 0, 1, xN), some (.getfield 213, 3, xF 0 9 0), none,
  none, some (.if_icmp .ge (25), 3, xJ 130), none, none, some (.aload_n 0, 1, xN), some (.iload_n 3, 1, xN), some (.bipush 64, 2, xI (64)), none,
  some (.iload 4, 2, xN), none, some (.imul, 1, xN), some (.iadd, 1, xN), some (.invokevirtual 216, 3, xN), none, none, some (.ifCond .ne (5), 3, xJ 124),
  none, none, some (.iconst 0, 1, xI (0)), some (.ireturn, 1, xN), some (.iinc 4 (1), 3, xI (1)), none, none, some (.goto (-28), 3, xJ 99),
  none, none, some (.iload_n 3, 1, xN), some (.bipush 64, 2, xI (64)), none, some (.aload_n 0, 1, xN), some (.bipush 62, 2, xI (62)), none,
  some (.iconst 2, 1, xI (2)), some (.invokevirtual 173, 3, xN), none, none, some (.l2i, 1, xN), some (.imul, 1, xN), some (.iadd, 1, xN), some (.istore 4, 2, xN),
  none, some (.aload_n 0, 1, xN), some (.iload 4, 2, xN), none, some (.iconst 4, 1, xI (4)), some (.iadd, 1, xN), some (.iconst 4, 1, xI (4)), some (.invokevirtual 173, 3, xN),
  none, none, some (.ldc2_w 207, 3, xL (8)), none, none, some (.lcmp, 1, xN), some (.ifCond .ne (7), 3, xJ 165), none,
  none, some (.iconst 1, 1, xI (1)), some (.goto (4), 3, xJ 166), none, none, some (.iconst 0, 1, xI (0)), some (.istore 5, 2, xN), none,
  some (.iload 5, 2, xN), none, some (.ifCond .eq (7), 3, xJ 177), none, none, some (.iconst 0, 1, xI (0)), some (.goto (15), 3, xJ 189), none,
  none, some (.aload_n 0, 1, xN), some (.iload 4, 2, xN), none, some (.bipush 24, 2, xI (24)), none, some (.iadd, 1, xN), some (.bipush 8, 2, xI (8)),
  none, some (.invokevirtual 173, 3, xN), none, none, some (.l2i, 1, xN), some (.istore 6, 2, xN), none, some (.iload 5, 2, xN),
  none, some (.ifCond .eq (7), 3, xJ 200), none, none, some (.iconst 0, 1, xI (0)), some (.goto (18), 3, xJ 215), none, none,
  some (.iload 6, 2, xN), none, some (.aload_n 0, 1, xN), some (.iload 4, 2, xN), none, some (.bipush 32, 2, xI (32)), none, some (.iadd, 1, xN),
  some (.bipush 8, 2, xI (8)), none, some (.invokevirtual 173, 3, xN), none, none, some (.l2i, 1, xN), some (.iadd, 1, xN), some (.istore 7, 2, xN),
  none, some (.iconst 1, 1, xI (1)), some (.istore 8, 2, xN), none, some (.iconst 0, 1, xI (0)), some (.istore 9, 2, xN), none, some (.iload 9, 2, xN),
  none, some (.aload_n 0, 1, xN), some (.getfield 213, 3, xF 0 9 0), none, none, some (.if_icmp .ge (31), 3, xJ 260), none, none,
  some (.iload 8, 2, xN), none, some (.ifCond .eq (26), 3, xJ 260), none, none, some (.aload_n 0, 1, xN), some (.iload_n 3, 1, xN), some (.bipush 64, 2, xI (64)),
  none, some (.iload 9, 2, xN), none, some (.imul, 1, xN), some (.iadd, 1, xN), some (.iload 6, 2, xN), none, some (.iload 7, 2, xN),
  none, some (.invokevirtual 220, 3, xN), none, none, some (.istore 8, 2, xN), none, some (.iinc 9 (1), 3, xI (1)), none,
  none, some (.goto (-34), 3, xJ 223), none, none, some (.iload 8, 2, xN), none, some (.ireturn, 1, xN)]
def M_Mo_readSections : am_Me := (⟨R_Mo, "readSections", "()Z"⟩, prog_14_method_19_code, 10, (some .boolean), Y_Mo, cd_Mo_readSections, 2, 54, 0, 0)
set_option maxRecDepth 100000 in
theorem ok_Mo_readSections : am_ok S_m M_Mo_readSections := am_ok_ofY (Y := Y_Mo) (cd := cd_Mo_readSections) (by decide +kernel) rfl rfl rfl oY_Mo (by decide +kernel)
def cd_Mo_names : List (Option am_I) := [some (.aload_n 0, 1, xN), some (.iload_n 1, 1, xN), some (.iconst 4, 1, xI (4)), some (.invokevirtual 173, 3, xN), none, none, some (.lstore 4, 2, xN), none,
  some (.lload 4, 2, xN), none, some (.iload_n 3, 1, xN), some (.iload_n 2, 1, xN), some (.isub, 1, xN), some (.i2l, 1, xN), some (.lcmp, 1, xN), some (.ifCond .lt (5), 3, xJ 20),
  none, none, some (.iconst 0, 1, xI (0)), some (.ireturn, 1, xN), some (.iload_n 2, 1, xN), some (.lload 4, 2, xN), none, some (.l2i, 1, xN),
  some (.iadd, 1, xN), some (.istore 6, 2, xN), none, some (.aload_n 0, 1, xN), some (.iload 6, 2, xN), none, some (.iload_n 3, 1, xN), some (.invokevirtual 183, 3, xN),
  none, none, some (.istore 7, 2, xN), none, some (.iconst 0, 1, xI (0)), some (.istore 8, 2, xN), none, some (.iload 8, 2, xN),
  none, some (.bipush 10, 2, xI (10)), none, some (.if_icmp .ge (122), 3, xJ 165), none, none, some (.iload 7, 2, xN), none,
  some (.iconst (-1), 1, xI (-1)), some (.if_icmp .eq (116), 3, xJ 165), none, none, some (.aload_n 0, 1, xN), some (.getfield 56, 3, xF 0 12 2), none, none,
  some (.iload 8, 2, xN), none, some (.baload, 1, xJ 3), some (.ifCond .ne (100), 3, xJ 159), none, none, some (.aload_n 0, 1, xN), some (.iload 6, 2, xN),
  none, some (.iload 7, 2, xN), none, some (.iload 8, 2, xN), none, some (.invokevirtual 224, 3, xN), none, none,
  some (.ifCond .eq (87), 3, xJ 159), none, none, some (.aload_n 0, 1, xN), some (.iload_n 1, 1, xN), some (.iconst 4, 1, xI (4)), some (.iadd, 1, xN), some (.iconst 4, 1, xI (4)),
  some (.invokevirtual 173, 3, xN), none, none, some (.ldc2_w 207, 3, xL (8)), none, none, some (.lcmp, 1, xN), some (.ifCond .ne (7), 3, xJ 94),
  none, none, some (.iconst 1, 1, xI (1)), some (.goto (4), 3, xJ 95), none, none, some (.iconst 0, 1, xI (0)), some (.istore 9, 2, xN),
  none, some (.aload_n 0, 1, xN), some (.getfield 56, 3, xF 0 12 2), none, none, some (.iload 8, 2, xN), none, some (.iconst 1, 1, xI (1)),
  some (.bastore, 1, xJ 3), some (.aload_n 0, 1, xN), some (.getfield 49, 3, xF 0 10 2), none, none, some (.iload 8, 2, xN), none, some (.iload 9, 2, xN),
  none, some (.ifCond .eq (7), 3, xJ 120), none, none, some (.iconst 0, 1, xI (0)), some (.goto (14), 3, xJ 131), none, none,
  some (.aload_n 0, 1, xN), some (.iload_n 1, 1, xN), some (.bipush 24, 2, xI (24)), none, some (.iadd, 1, xN), some (.bipush 8, 2, xI (8)), none, some (.invokevirtual 173, 3, xN),
  none, none, some (.l2i, 1, xN), some (.iastore, 1, xN), some (.aload_n 0, 1, xN), some (.getfield 53, 3, xF 0 11 2), none, none,
  some (.iload 8, 2, xN), none, some (.iload 9, 2, xN), none, some (.ifCond .eq (7), 3, xJ 147), none, none, some (.iconst 0, 1, xI (0)),
  some (.goto (14), 3, xJ 158), none, none, some (.aload_n 0, 1, xN), some (.iload_n 1, 1, xN), some (.bipush 32, 2, xI (32)), none, some (.iadd, 1, xN),
  some (.bipush 8, 2, xI (8)), none, some (.invokevirtual 173, 3, xN), none, none, some (.l2i, 1, xN), some (.iastore, 1, xN), some (.iinc 8 (1), 3, xI (1)),
  none, none, some (.goto (-123), 3, xJ 39), none, none, some (.iload 7, 2, xN), none, some (.iconst (-1), 1, xI (-1)),
  some (.if_icmp .eq (7), 3, xJ 175), none, none, some (.iconst 1, 1, xI (1)), some (.goto (4), 3, xJ 176), none, none, some (.iconst 0, 1, xI (0)),
  some (.ireturn, 1, xN)]
def M_Mo_names : am_Me := (⟨R_Mo, "names", "(III)Z"⟩, prog_14_method_20_code, 10, (some .boolean), Y_Mo, cd_Mo_names, 1, 25, 0, 0)
set_option maxRecDepth 100000 in
theorem ok_Mo_names : am_ok S_m M_Mo_names := am_ok_ofY (Y := Y_Mo) (cd := cd_Mo_names) (by decide +kernel) rfl rfl rfl oY_Mo (by decide +kernel)
def cd_Mo_isForm : List (Option am_I) := [some (.lload_n 0, 1, xN), some (.lconst 0, 1, xL 0), some (.lcmp, 1, xN), some (.ifCond .lt (11), 3, xJ 14), none, none, some (.lload_n 0, 1, xN), some (.ldc2_w 205, 3, xL (255)),
  none, none, some (.lcmp, 1, xN), some (.ifCond .le (7), 3, xJ 18), none, none, some (.lconst 0, 1, xL 0), some (.goto (4), 3, xJ 19),
  none, none, some (.lload_n 0, 1, xN), some (.l2i, 1, xN), some (.tableswitch (168) (1) (37) #[164, 168, 168, 168, 164, 164, 164, 164, 168, 168, 164, 168, 164, 164, 164, 168, 168, 168, 166, 168, 168, 168, 166, 166, 166, 168, 166, 168, 168, 168, 166, 168, 166, 168, 166, 168, 166], 164, xN), none, none, none,
  none, none, none, none, none, none, none, none,
  none, none, none, none, none, none, none, none,
  none, none, none, none, none, none, none, none,
  none, none, none, none, none, none, none, none,
  none, none, none, none, none, none, none, none,
  none, none, none, none, none, none, none, none,
  none, none, none, none, none, none, none, none,
  none, none, none, none, none, none, none, none,
  none, none, none, none, none, none, none, none,
  none, none, none, none, none, none, none, none,
  none, none, none, none, none, none, none, none,
  none, none, none, none, none, none, none, none,
  none, none, none, none, none, none, none, none,
  none, none, none, none, none, none, none, none,
  none, none, none, none, none, none, none, none,
  none, none, none, none, none, none, none, none,
  none, none, none, none, none, none, none, none,
  none, none, none, none, none, none, none, none,
  none, none, none, none, none, none, none, none,
  none, none, none, none, none, none, none, none,
  some (.iconst 1, 1, xI (1)), some (.ireturn, 1, xN), some (.iconst 1, 1, xI (1)), some (.ireturn, 1, xN), some (.iconst 0, 1, xI (0)), some (.ireturn, 1, xN)]
def M_Mo_isForm : am_Me := (⟨R_Mo, "isForm", "(J)Z"⟩, prog_14_method_21_code, 2, (some .boolean), Y_Mo, cd_Mo_isForm, 0, 0, 0, 0)
set_option maxRecDepth 100000 in
theorem ok_Mo_isForm : am_ok S_m M_Mo_isForm := am_ok_ofY (Y := Y_Mo) (cd := cd_Mo_isForm) (by decide +kernel) rfl rfl rfl oY_Mo (by decide +kernel)
def cd_Mo_readAttributes : List (Option am_I) := [some (.aload_n 0, 1, xN), some (.getfield 75, 3, xF 0 19 2), none, none, some (.iload_n 1, 1, xN), some (.iconst 0, 1, xI (0)), some (.iastore, 1, xN), some (.iconst 1, 1, xI (1)),
  some (.istore_n 2, 1, xN), some (.iload_n 2, 1, xN), some (.ifCond .eq (140), 3, xJ 150), none, none, some (.aload_n 0, 1, xN), some (.iconst 0, 1, xI (0)), some (.invokevirtual 227, 3, xN),
  none, none, some (.lstore_n 3, 1, xN), some (.aload_n 0, 1, xN), some (.iconst 0, 1, xI (0)), some (.invokevirtual 227, 3, xN), none, none,
  some (.lstore 5, 2, xN), none, some (.aload_n 0, 1, xN), some (.getfield 164, 3, xF 0 8 3), none, none, some (.ifCond .ne (20), 3, xJ 50), none,
  none, some (.lload_n 3, 1, xN), some (.lconst 0, 1, xL 0), some (.lcmp, 1, xN), some (.ifCond .ne (10), 3, xJ 46), none, none, some (.lload 5, 2, xN),
  none, some (.lconst 0, 1, xL 0), some (.lcmp, 1, xN), some (.ifCond .eq (7), 3, xJ 50), none, none, some (.iconst 1, 1, xI (1)), some (.goto (4), 3, xJ 51),
  none, none, some (.iconst 0, 1, xI (0)), some (.istore_n 2, 1, xN), some (.iload_n 2, 1, xN), some (.ifCond .eq (24), 3, xJ 77), none, none,
  some (.aload_n 0, 1, xN), some (.getfield 75, 3, xF 0 19 2), none, none, some (.iload_n 1, 1, xN), some (.iaload, 1, xN), some (.bipush 12, 2, xI (12)), none,
  some (.if_icmp .eq (11), 3, xJ 75), none, none, some (.lload 5, 2, xN), none, some (.invokestatic 231, 3, xN), none, none,
  some (.ifCond .ne (5), 3, xJ 77), none, none, some (.iconst 0, 1, xI (0)), some (.ireturn, 1, xN), some (.iload_n 2, 1, xN), some (.ifCond .eq (69), 3, xJ 147), none,
  none, some (.bipush 12, 2, xI (12)), none, some (.iload_n 1, 1, xN), some (.imul, 1, xN), some (.aload_n 0, 1, xN), some (.getfield 75, 3, xF 0 19 2), none,
  none, some (.iload_n 1, 1, xN), some (.iaload, 1, xN), some (.iadd, 1, xN), some (.istore 7, 2, xN), none, some (.aload_n 0, 1, xN), some (.getfield 66, 3, xF 0 16 2),
  none, none, some (.iload 7, 2, xN), none, some (.lload_n 3, 1, xN), some (.lastore, 1, xN), some (.aload_n 0, 1, xN), some (.getfield 78, 3, xF 0 20 2),
  none, none, some (.iload 7, 2, xN), none, some (.lload 5, 2, xN), none, some (.l2i, 1, xN), some (.iastore, 1, xN),
  some (.aload_n 0, 1, xN), some (.getfield 69, 3, xF 0 17 2), none, none, some (.iload 7, 2, xN), none, some (.lload 5, 2, xN), none,
  some (.ldc2_w 235, 3, xL (33)), none, none, some (.lcmp, 1, xN), some (.ifCond .ne (11), 3, xJ 135), none, none, some (.aload_n 0, 1, xN),
  some (.iconst 1, 1, xI (1)), some (.invokevirtual 227, 3, xN), none, none, some (.goto (4), 3, xJ 136), none, none, some (.lconst 0, 1, xL 0),
  some (.lastore, 1, xN), some (.aload_n 0, 1, xN), some (.getfield 75, 3, xF 0 19 2), none, none, some (.iload_n 1, 1, xN), some (.dup2, 1, xN), some (.iaload, 1, xN),
  some (.iconst 1, 1, xI (1)), some (.iadd, 1, xN), some (.iastore, 1, xN), some (.goto (-138), 3, xJ 9), none, none, some (.aload_n 0, 1, xN), some (.getfield 164, 3, xF 0 8 3),
  none, none, some (.ifCond .ne (7), 3, xJ 161), none, none, some (.iconst 1, 1, xI (1)), some (.goto (4), 3, xJ 162), none,
  none, some (.iconst 0, 1, xI (0)), some (.ireturn, 1, xN)]
def M_Mo_readAttributes : am_Me := (⟨R_Mo, "readAttributes", "(I)Z"⟩, prog_14_method_22_code, 8, (some .boolean), Y_Mo, cd_Mo_readAttributes, 3, 71, 0, 0)
set_option maxRecDepth 100000 in
theorem ok_Mo_readAttributes : am_ok S_m M_Mo_readAttributes := am_ok_ofY (Y := Y_Mo) (cd := cd_Mo_readAttributes) (by decide +kernel) rfl rfl rfl oY_Mo (by decide +kernel)
def cd_Mo_abbreviation : List (Option am_I) := [some (.iconst 0, 1, xI (0)), some (.istore_n 3, 1, xN), some (.iload_n 3, 1, xN), some (.aload_n 0, 1, xN), some (.getfield 237, 3, xF 0 13 0), none, none, some (.if_icmp .ge (22), 3, xJ 29),
  none, none, some (.aload_n 0, 1, xN), some (.getfield 60, 3, xF 0 14 2), none, none, some (.iload_n 3, 1, xN), some (.laload, 1, xN),
  some (.lload_n 1, 1, xN), some (.lcmp, 1, xN), some (.ifCond .ne (5), 3, xJ 23), none, none, some (.iload_n 3, 1, xN), some (.ireturn, 1, xN), some (.iinc 3 (1), 3, xI (1)),
  none, none, some (.goto (-24), 3, xJ 2), none, none, some (.iconst (-1), 1, xI (-1)), some (.ireturn, 1, xN)]
def M_Mo_abbreviation : am_Me := (⟨R_Mo, "abbreviation", "(J)I"⟩, prog_14_method_23_code, 4, (some .int), Y_Mo, cd_Mo_abbreviation, 0, 0, 0, 0)
set_option maxRecDepth 100000 in
theorem ok_Mo_abbreviation : am_ok S_m M_Mo_abbreviation := am_ok_ofY (Y := Y_Mo) (cd := cd_Mo_abbreviation) (by decide +kernel) rfl rfl rfl oY_Mo (by decide +kernel)
def cd_Mo_readAbbreviations : List (Option am_I) := [some (.aload_n 0, 1, xN), some (.iconst 0, 1, xI (0)), some (.lload_n 1, 1, xN), some (.invokevirtual 240, 3, xN), none, none, some (.aload_n 0, 1, xN), some (.iconst 0, 1, xI (0)),
  some (.putfield 237, 3, xF 0 13 0), none, none, some (.iconst 1, 1, xI (1)), some (.istore_n 3, 1, xN), some (.iconst 1, 1, xI (1)), some (.istore 4, 2, xN), none,
  some (.iload 4, 2, xN), none, some (.ifCond .eq (171), 3, xJ 189), none, none, some (.iload_n 3, 1, xN), some (.ifCond .eq (167), 3, xJ 189), none,
  none, some (.aload_n 0, 1, xN), some (.iconst 0, 1, xI (0)), some (.invokevirtual 227, 3, xN), none, none, some (.lstore 5, 2, xN), none,
  some (.aload_n 0, 1, xN), some (.getfield 164, 3, xF 0 8 3), none, none, some (.ifCond .ne (14), 3, xJ 50), none, none, some (.lload 5, 2, xN),
  none, some (.lconst 0, 1, xL 0), some (.lcmp, 1, xN), some (.ifCond .eq (7), 3, xJ 50), none, none, some (.iconst 1, 1, xI (1)), some (.goto (4), 3, xJ 51),
  none, none, some (.iconst 0, 1, xI (0)), some (.istore 4, 2, xN), none, some (.aload_n 0, 1, xN), some (.getfield 164, 3, xF 0 8 3), none,
  none, some (.ifCond .ne (31), 3, xJ 88), none, none, some (.iload 4, 2, xN), none, some (.ifCond .eq (22), 3, xJ 84), none,
  none, some (.aload_n 0, 1, xN), some (.getfield 237, 3, xF 0 13 0), none, none, some (.bipush 40, 2, xI (40)), none, some (.if_icmp .ge (17), 3, xJ 88),
  none, none, some (.aload_n 0, 1, xN), some (.lload 5, 2, xN), none, some (.invokevirtual 244, 3, xN), none, none,
  some (.iconst (-1), 1, xI (-1)), some (.if_icmp .ne (7), 3, xJ 88), none, none, some (.iconst 1, 1, xI (1)), some (.goto (4), 3, xJ 89), none, none,
  some (.iconst 0, 1, xI (0)), some (.istore_n 3, 1, xN), some (.iload 4, 2, xN), none, some (.ifCond .eq (94), 3, xJ 186), none, none, some (.iload_n 3, 1, xN),
  some (.ifCond .eq (90), 3, xJ 186), none, none, some (.aload_n 0, 1, xN), some (.getfield 237, 3, xF 0 13 0), none, none, some (.istore 7, 2, xN),
  none, some (.aload_n 0, 1, xN), some (.getfield 60, 3, xF 0 14 2), none, none, some (.iload 7, 2, xN), none, some (.lload 5, 2, xN),
  none, some (.lastore, 1, xN), some (.aload_n 0, 1, xN), some (.getfield 63, 3, xF 0 15 2), none, none, some (.iload 7, 2, xN), none,
  some (.aload_n 0, 1, xN), some (.iconst 0, 1, xI (0)), some (.invokevirtual 227, 3, xN), none, none, some (.lastore, 1, xN), some (.aload_n 0, 1, xN), some (.iconst 1, 1, xI (1)),
  some (.invokevirtual 177, 3, xN), none, none, some (.lstore 8, 2, xN), none, some (.aload_n 0, 1, xN), some (.getfield 72, 3, xF 0 18 2), none,
  none, some (.iload 7, 2, xN), none, some (.lload 8, 2, xN), none, some (.lconst 1, 1, xL 1), some (.lcmp, 1, xN), some (.ifCond .ne (7), 3, xJ 150),
  none, none, some (.iconst 1, 1, xI (1)), some (.goto (4), 3, xJ 151), none, none, some (.iconst 0, 1, xI (0)), some (.bastore, 1, xJ 3),
  some (.lload 8, 2, xN), none, some (.ldc2_w 248, 3, xL (2)), none, none, some (.lcmp, 1, xN), some (.ifCond .ge (16), 3, xJ 174), none,
  none, some (.aload_n 0, 1, xN), some (.iload 7, 2, xN), none, some (.invokevirtual 250, 3, xN), none, none, some (.ifCond .eq (7), 3, xJ 174),
  none, none, some (.iconst 1, 1, xI (1)), some (.goto (4), 3, xJ 175), none, none, some (.iconst 0, 1, xI (0)), some (.istore_n 3, 1, xN),
  some (.aload_n 0, 1, xN), some (.dup, 1, xN), some (.getfield 237, 3, xF 0 13 0), none, none, some (.iconst 1, 1, xI (1)), some (.iadd, 1, xN), some (.putfield 237, 3, xF 0 13 0),
  none, none, some (.goto (-170), 3, xJ 16), none, none, some (.iload_n 3, 1, xN), some (.ireturn, 1, xN)]
def M_Mo_readAbbreviations : am_Me := (⟨R_Mo, "readAbbreviations", "(J)Z"⟩, prog_14_method_24_code, 10, (some .boolean), Y_Mo, cd_Mo_readAbbreviations, 4, 98, 0, 0)
set_option maxRecDepth 100000 in
theorem ok_Mo_readAbbreviations : am_ok S_m M_Mo_readAbbreviations := am_ok_ofY (Y := Y_Mo) (cd := cd_Mo_readAbbreviations) (by decide +kernel) rfl rfl rfl oY_Mo (by decide +kernel)
def cd_Mo_known : List (Option am_I) := [some (.lload_n 0, 1, xN), some (.lconst 0, 1, xL 0), some (.lcmp, 1, xN), some (.ifCond .lt (11), 3, xJ 14), none, none, some (.lload_n 0, 1, xN), some (.ldc2_w 205, 3, xL (255)),
  none, none, some (.lcmp, 1, xN), some (.ifCond .le (7), 3, xJ 18), none, none, some (.lconst 0, 1, xL 0), some (.goto (4), 3, xJ 19),
  none, none, some (.lload_n 0, 1, xN), some (.l2i, 1, xN), some (.lookupswitch (127) #[(3, 100), (16, 115), (17, 102), (18, 104), (49, 108), (85, 106), (88, 110), (89, 112), (114, 118), (115, 121), (116, 124)], 100, xN), none, none, none,
  none, none, none, none, none, none, none, none,
  none, none, none, none, none, none, none, none,
  none, none, none, none, none, none, none, none,
  none, none, none, none, none, none, none, none,
  none, none, none, none, none, none, none, none,
  none, none, none, none, none, none, none, none,
  none, none, none, none, none, none, none, none,
  none, none, none, none, none, none, none, none,
  none, none, none, none, none, none, none, none,
  none, none, none, none, none, none, none, none,
  none, none, none, none, none, none, none, none,
  none, none, none, none, none, none, none, none,
  some (.iconst 0, 1, xI (0)), some (.ireturn, 1, xN), some (.iconst 1, 1, xI (1)), some (.ireturn, 1, xN), some (.iconst 2, 1, xI (2)), some (.ireturn, 1, xN), some (.iconst 3, 1, xI (3)), some (.ireturn, 1, xN),
  some (.iconst 4, 1, xI (4)), some (.ireturn, 1, xN), some (.iconst 5, 1, xI (5)), some (.ireturn, 1, xN), some (.bipush 6, 2, xI (6)), none, some (.ireturn, 1, xN), some (.bipush 7, 2, xI (7)),
  none, some (.ireturn, 1, xN), some (.bipush 8, 2, xI (8)), none, some (.ireturn, 1, xN), some (.bipush 9, 2, xI (9)), none, some (.ireturn, 1, xN),
  some (.bipush 10, 2, xI (10)), none, some (.ireturn, 1, xN), some (.iconst (-1), 1, xI (-1)), some (.ireturn, 1, xN)]
def M_Mo_known : am_Me := (⟨R_Mo, "known", "(J)I"⟩, prog_14_method_25_code, 2, (some .int), Y_Mo, cd_Mo_known, 0, 0, 0, 0)
set_option maxRecDepth 100000 in
theorem ok_Mo_known : am_ok S_m M_Mo_known := am_ok_ofY (Y := Y_Mo) (cd := cd_Mo_known) (by decide +kernel) rfl rfl rfl oY_Mo (by decide +kernel)
def cd_Mo_readValue : List (Option am_I) := [some (.iload_n 1, 1, xN), some (.tableswitch (210) (1) (37) #[163, 210, 210, 210, 176, 182, 163, 204, 210, 210, 170, 210, 188, 182, 194, 210, 210, 210, 182, 210, 210, 210, 182, 210, 202, 210, 194, 210, 210, 210, 182, 210, 200, 210, 194, 210, 170], 163, xN), none, none, none, none, none, none,
  none, none, none, none, none, none, none, none,
  none, none, none, none, none, none, none, none,
  none, none, none, none, none, none, none, none,
  none, none, none, none, none, none, none, none,
  none, none, none, none, none, none, none, none,
  none, none, none, none, none, none, none, none,
  none, none, none, none, none, none, none, none,
  none, none, none, none, none, none, none, none,
  none, none, none, none, none, none, none, none,
  none, none, none, none, none, none, none, none,
  none, none, none, none, none, none, none, none,
  none, none, none, none, none, none, none, none,
  none, none, none, none, none, none, none, none,
  none, none, none, none, none, none, none, none,
  none, none, none, none, none, none, none, none,
  none, none, none, none, none, none, none, none,
  none, none, none, none, none, none, none, none,
  none, none, none, none, none, none, none, none,
  none, none, none, none, none, none, none, none,
  none, none, none, none, some (.aload_n 0, 1, xN), some (.bipush 8, 2, xI (8)), none, some (.invokevirtual 177, 3, xN),
  none, none, some (.lreturn, 1, xN), some (.aload_n 0, 1, xN), some (.iconst 1, 1, xI (1)), some (.invokevirtual 177, 3, xN), none, none,
  some (.lreturn, 1, xN), some (.aload_n 0, 1, xN), some (.iconst 2, 1, xI (2)), some (.invokevirtual 177, 3, xN), none, none, some (.lreturn, 1, xN), some (.aload_n 0, 1, xN),
  some (.iconst 4, 1, xI (4)), some (.invokevirtual 177, 3, xN), none, none, some (.lreturn, 1, xN), some (.aload_n 0, 1, xN), some (.iconst 1, 1, xI (1)), some (.invokevirtual 227, 3, xN),
  none, none, some (.lreturn, 1, xN), some (.aload_n 0, 1, xN), some (.iconst 0, 1, xI (0)), some (.invokevirtual 227, 3, xN), none, none,
  some (.lreturn, 1, xN), some (.lload_n 2, 1, xN), some (.lreturn, 1, xN), some (.lconst 1, 1, xL 1), some (.lreturn, 1, xN), some (.aload_n 0, 1, xN), some (.invokevirtual 253, 3, xN), none,
  none, some (.i2l, 1, xN), some (.lreturn, 1, xN), some (.aload_n 0, 1, xN), some (.aload_n 0, 1, xN), some (.iconst 0, 1, xI (0)), some (.invokevirtual 227, 3, xN), none,
  none, some (.invokevirtual 187, 3, xN), none, none, some (.lconst 0, 1, xL 0), some (.lreturn, 1, xN)]
def M_Mo_readValue : am_Me := (⟨R_Mo, "readValue", "(IJ)J"⟩, prog_14_method_26_code, 4, (some .long), Y_Mo, cd_Mo_readValue, 3, 71, 0, 0)
set_option maxRecDepth 100000 in
theorem ok_Mo_readValue : am_ok S_m M_Mo_readValue := am_ok_ofY (Y := Y_Mo) (cd := cd_Mo_readValue) (by decide +kernel) rfl rfl rfl oY_Mo (by decide +kernel)
def cd_Mo_readEntry : List (Option am_I) := [some (.aload_n 0, 1, xN), some (.getfield 257, 3, xF 0 22 0), none, none, some (.istore_n 3, 1, xN), some (.aload_n 0, 1, xN), some (.getfield 90, 3, xF 0 27 2), none,
  none, some (.iload_n 3, 1, xN), some (.iload_n 1, 1, xN), some (.iastore, 1, xN), some (.aload_n 0, 1, xN), some (.getfield 93, 3, xF 0 28 2), none, none,
  some (.iload_n 3, 1, xN), some (.aload_n 0, 1, xN), some (.getfield 63, 3, xF 0 15 2), none, none, some (.iload_n 2, 1, xN), some (.laload, 1, xN), some (.lconst 0, 1, xL 0),
  some (.ldc2_w 205, 3, xL (255)), none, none, some (.invokestatic 201, 3, xN), none, none, some (.ifCond .eq (12), 3, xJ 42), none,
  none, some (.aload_n 0, 1, xN), some (.getfield 63, 3, xF 0 15 2), none, none, some (.iload_n 2, 1, xN), some (.laload, 1, xN), some (.goto (4), 3, xJ 43),
  none, none, some (.lconst 0, 1, xL 0), some (.l2i, 1, xN), some (.iastore, 1, xN), some (.aload_n 0, 1, xN), some (.getfield 96, 3, xF 0 29 2), none,
  none, some (.iload_n 3, 1, xN), some (.aload_n 0, 1, xN), some (.getfield 260, 3, xF 0 23 0), none, none, some (.ifCond .ne (7), 3, xJ 61), none,
  none, some (.iconst (-1), 1, xI (-1)), some (.goto (14), 3, xJ 72), none, none, some (.aload_n 0, 1, xN), some (.getfield 87, 3, xF 0 26 2), none,
  none, some (.aload_n 0, 1, xN), some (.getfield 260, 3, xF 0 23 0), none, none, some (.iconst 1, 1, xI (1)), some (.isub, 1, xN), some (.iaload, 1, xN),
  some (.iastore, 1, xN), some (.aload_n 0, 1, xN), some (.getfield 99, 3, xF 0 30 2), none, none, some (.iload_n 3, 1, xN), some (.aload_n 0, 1, xN), some (.getfield 263, 3, xF 0 21 0),
  none, none, some (.iconst 1, 1, xI (1)), some (.isub, 1, xN), some (.iastore, 1, xN), some (.iconst 0, 1, xI (0)), some (.istore 4, 2, xN), none,
  some (.iload 4, 2, xN), none, some (.bipush 11, 2, xI (11)), none, some (.if_icmp .ge (22), 3, xJ 114), none, none, some (.aload_n 0, 1, xN),
  some (.getfield 102, 3, xF 0 31 2), none, none, some (.bipush 11, 2, xI (11)), none, some (.iload_n 3, 1, xN), some (.imul, 1, xN), some (.iload 4, 2, xN),
  none, some (.iadd, 1, xN), some (.iconst 0, 1, xI (0)), some (.iastore, 1, xN), some (.iinc 4 (1), 3, xI (1)), none, none, some (.goto (-23), 3, xJ 88),
  none, none, some (.bipush 12, 2, xI (12)), none, some (.iload_n 2, 1, xN), some (.imul, 1, xN), some (.istore 4, 2, xN), none,
  some (.iload 4, 2, xN), none, some (.bipush 12, 2, xI (12)), none, some (.iload_n 2, 1, xN), some (.imul, 1, xN), some (.aload_n 0, 1, xN), some (.getfield 75, 3, xF 0 19 2),
  none, none, some (.iload_n 2, 1, xN), some (.iaload, 1, xN), some (.iadd, 1, xN), some (.if_icmp .ge (102), 3, xJ 235), none, none,
  some (.aload_n 0, 1, xN), some (.getfield 164, 3, xF 0 8 3), none, none, some (.ifCond .ne (95), 3, xJ 235), none, none, some (.aload_n 0, 1, xN),
  some (.aload_n 0, 1, xN), some (.getfield 78, 3, xF 0 20 2), none, none, some (.iload 4, 2, xN), none, some (.iaload, 1, xN), some (.aload_n 0, 1, xN),
  some (.getfield 69, 3, xF 0 17 2), none, none, some (.iload 4, 2, xN), none, some (.laload, 1, xN), some (.invokevirtual 266, 3, xN), none,
  none, some (.lstore 5, 2, xN), none, some (.aload_n 0, 1, xN), some (.getfield 66, 3, xF 0 16 2), none, none, some (.iload 4, 2, xN),
  none, some (.laload, 1, xN), some (.invokestatic 270, 3, xN), none, none, some (.istore 7, 2, xN), none, some (.iload 7, 2, xN),
  none, some (.iconst (-1), 1, xI (-1)), some (.if_icmp .eq (51), 3, xJ 229), none, none, some (.aload_n 0, 1, xN), some (.getfield 102, 3, xF 0 31 2), none,
  none, some (.bipush 11, 2, xI (11)), none, some (.iload_n 3, 1, xN), some (.imul, 1, xN), some (.iload 7, 2, xN), none, some (.iadd, 1, xN),
  some (.iaload, 1, xN), some (.ifCond .ne (36), 3, xJ 229), none, none, some (.aload_n 0, 1, xN), some (.getfield 102, 3, xF 0 31 2), none, none,
  some (.bipush 11, 2, xI (11)), none, some (.iload_n 3, 1, xN), some (.imul, 1, xN), some (.iload 7, 2, xN), none, some (.iadd, 1, xN), some (.aload_n 0, 1, xN),
  some (.getfield 78, 3, xF 0 20 2), none, none, some (.iload 4, 2, xN), none, some (.iaload, 1, xN), some (.iastore, 1, xN), some (.aload_n 0, 1, xN),
  some (.getfield 105, 3, xF 0 32 2), none, none, some (.bipush 11, 2, xI (11)), none, some (.iload_n 3, 1, xN), some (.imul, 1, xN), some (.iload 7, 2, xN),
  none, some (.iadd, 1, xN), some (.lload 5, 2, xN), none, some (.lastore, 1, xN), some (.iinc 4 (1), 3, xI (1)), none, none,
  some (.goto (-112), 3, xJ 120), none, none, some (.aload_n 0, 1, xN), some (.dup, 1, xN), some (.getfield 257, 3, xF 0 22 0), none, none,
  some (.iconst 1, 1, xI (1)), some (.iadd, 1, xN), some (.putfield 257, 3, xF 0 22 0), none, none, some (.return_, 1, xN)]
def M_Mo_readEntry : am_Me := (⟨R_Mo, "readEntry", "(II)V"⟩, prog_14_method_27_code, 8, none, Y_Mo, cd_Mo_readEntry, 4, 94, 0, 0)
set_option maxRecDepth 100000 in
theorem ok_Mo_readEntry : am_ok S_m M_Mo_readEntry := am_ok_ofY (Y := Y_Mo) (cd := cd_Mo_readEntry) (by decide +kernel) rfl rfl rfl oY_Mo (by decide +kernel)
def cd_Mo_readEntries : List (Option am_I) := [some (.aload_n 0, 1, xN), some (.getfield 257, 3, xF 0 22 0), none, none, some (.istore_n 1, 1, xN), some (.aload_n 0, 1, xN), some (.iconst 0, 1, xI (0)), some (.putfield 260, 3, xF 0 23 0),
  none, none, some (.iconst 1, 1, xI (1)), some (.istore_n 2, 1, xN), some (.iload_n 2, 1, xN), some (.ifCond .eq (257), 3, xJ 270), none, none,
  some (.aload_n 0, 1, xN), some (.getfield 167, 3, xF 0 6 0), none, none, some (.aload_n 0, 1, xN), some (.getfield 170, 3, xF 0 7 0), none, none,
  some (.if_icmp .ge (246), 3, xJ 270), none, none, some (.aload_n 0, 1, xN), some (.getfield 167, 3, xF 0 6 0), none, none, some (.istore_n 3, 1, xN),
  some (.aload_n 0, 1, xN), some (.iconst 0, 1, xI (0)), some (.invokevirtual 227, 3, xN), none, none, some (.lstore 4, 2, xN), none, some (.aload_n 0, 1, xN),
  some (.getfield 164, 3, xF 0 8 3), none, none, some (.ifCond .ne (10), 3, xJ 53), none, none, some (.lload 4, 2, xN), none,
  some (.lconst 0, 1, xL 0), some (.lcmp, 1, xN), some (.ifCond .ne (7), 3, xJ 57), none, none, some (.iconst (-1), 1, xI (-1)), some (.goto (9), 3, xJ 63), none,
  none, some (.aload_n 0, 1, xN), some (.lload 4, 2, xN), none, some (.invokevirtual 244, 3, xN), none, none, some (.istore 6, 2, xN),
  none, some (.aload_n 0, 1, xN), some (.getfield 164, 3, xF 0 8 3), none, none, some (.ifCond .ne (36), 3, xJ 105), none, none,
  some (.lload 4, 2, xN), none, some (.lconst 0, 1, xL 0), some (.lcmp, 1, xN), some (.ifCond .ne (29), 3, xJ 105), none, none, some (.aload_n 0, 1, xN),
  some (.getfield 260, 3, xF 0 23 0), none, none, some (.ifCond .le (7), 3, xJ 90), none, none, some (.iconst 1, 1, xI (1)), some (.goto (4), 3, xJ 91),
  none, none, some (.iconst 0, 1, xI (0)), some (.istore_n 2, 1, xN), some (.aload_n 0, 1, xN), some (.dup, 1, xN), some (.getfield 260, 3, xF 0 23 0), none,
  none, some (.iconst 1, 1, xI (1)), some (.isub, 1, xN), some (.putfield 260, 3, xF 0 23 0), none, none, some (.goto (165), 3, xJ 267), none,
  none, some (.aload_n 0, 1, xN), some (.getfield 257, 3, xF 0 22 0), none, none, some (.iload_n 1, 1, xN), some (.if_icmp .ne (7), 3, xJ 117), none,
  none, some (.iconst 1, 1, xI (1)), some (.goto (4), 3, xJ 118), none, none, some (.iconst 0, 1, xI (0)), some (.istore 7, 2, xN), none,
  some (.iload 6, 2, xN), none, some (.iconst (-1), 1, xI (-1)), some (.if_icmp .eq (60), 3, xJ 183), none, none, some (.aload_n 0, 1, xN), some (.getfield 257, 3, xF 0 22 0),
  none, none, some (.sipush 200, 3, xI (200)), none, none, some (.if_icmp .ge (50), 3, xJ 183), none, none,
  some (.iload 7, 2, xN), none, some (.ifCond .eq (20), 3, xJ 158), none, none, some (.aload_n 0, 1, xN), some (.getfield 63, 3, xF 0 15 2), none,
  none, some (.iload 6, 2, xN), none, some (.laload, 1, xN), some (.ldc2_w 273, 3, xL (17)), none, none, some (.lcmp, 1, xN),
  some (.ifCond .ne (31), 3, xJ 183), none, none, some (.goto (24), 3, xJ 179), none, none, some (.aload_n 0, 1, xN), some (.getfield 260, 3, xF 0 23 0),
  none, none, some (.ifCond .le (21), 3, xJ 183), none, none, some (.aload_n 0, 1, xN), some (.getfield 63, 3, xF 0 15 2), none,
  none, some (.iload 6, 2, xN), none, some (.laload, 1, xN), some (.ldc2_w 273, 3, xL (17)), none, none, some (.lcmp, 1, xN),
  some (.ifCond .eq (7), 3, xJ 183), none, none, some (.iconst 1, 1, xI (1)), some (.goto (4), 3, xJ 184), none, none, some (.iconst 0, 1, xI (0)),
  some (.istore_n 2, 1, xN), some (.iload_n 2, 1, xN), some (.ifCond .eq (42), 3, xJ 228), none, none, some (.aload_n 0, 1, xN), some (.iload_n 3, 1, xN), some (.iload 6, 2, xN),
  none, some (.invokevirtual 275, 3, xN), none, none, some (.aload_n 0, 1, xN), some (.getfield 164, 3, xF 0 8 3), none, none,
  some (.ifCond .ne (26), 3, xJ 226), none, none, some (.aload_n 0, 1, xN), some (.getfield 72, 3, xF 0 18 2), none, none, some (.iload 6, 2, xN),
  none, some (.baload, 1, xJ 3), some (.ifCond .eq (12), 3, xJ 222), none, none, some (.aload_n 0, 1, xN), some (.getfield 260, 3, xF 0 23 0), none,
  none, some (.bipush 16, 2, xI (16)), none, some (.if_icmp .ge (7), 3, xJ 226), none, none, some (.iconst 1, 1, xI (1)), some (.goto (4), 3, xJ 227),
  none, none, some (.iconst 0, 1, xI (0)), some (.istore_n 2, 1, xN), some (.iload_n 2, 1, xN), some (.ifCond .eq (38), 3, xJ 267), none, none,
  some (.aload_n 0, 1, xN), some (.getfield 72, 3, xF 0 18 2), none, none, some (.iload 6, 2, xN), none, some (.baload, 1, xJ 3), some (.ifCond .eq (28), 3, xJ 267),
  none, none, some (.aload_n 0, 1, xN), some (.getfield 87, 3, xF 0 26 2), none, none, some (.aload_n 0, 1, xN), some (.getfield 260, 3, xF 0 23 0),
  none, none, some (.aload_n 0, 1, xN), some (.getfield 257, 3, xF 0 22 0), none, none, some (.iconst 1, 1, xI (1)), some (.isub, 1, xN),
  some (.iastore, 1, xN), some (.aload_n 0, 1, xN), some (.dup, 1, xN), some (.getfield 260, 3, xF 0 23 0), none, none, some (.iconst 1, 1, xI (1)), some (.iadd, 1, xN),
  some (.putfield 260, 3, xF 0 23 0), none, none, some (.goto (-255), 3, xJ 12), none, none, some (.iload_n 2, 1, xN), some (.ifCond .eq (29), 3, xJ 300),
  none, none, some (.aload_n 0, 1, xN), some (.getfield 164, 3, xF 0 8 3), none, none, some (.ifCond .ne (22), 3, xJ 300), none,
  none, some (.aload_n 0, 1, xN), some (.getfield 257, 3, xF 0 22 0), none, none, some (.iload_n 1, 1, xN), some (.if_icmp .le (14), 3, xJ 300), none,
  none, some (.aload_n 0, 1, xN), some (.getfield 260, 3, xF 0 23 0), none, none, some (.ifCond .ne (7), 3, xJ 300), none, none,
  some (.iconst 1, 1, xI (1)), some (.goto (4), 3, xJ 301), none, none, some (.iconst 0, 1, xI (0)), some (.ireturn, 1, xN)]
def M_Mo_readEntries : am_Me := (⟨R_Mo, "readEntries", "()Z"⟩, prog_14_method_28_code, 8, (some .boolean), Y_Mo, cd_Mo_readEntries, 5, 121, 0, 0)
set_option maxRecDepth 100000 in
theorem ok_Mo_readEntries : am_ok S_m M_Mo_readEntries := am_ok_ofY (Y := Y_Mo) (cd := cd_Mo_readEntries) (by decide +kernel) rfl rfl rfl oY_Mo (by decide +kernel)
def cd_Mo_readUnits : List (Option am_I) := [some (.aload_n 0, 1, xN), some (.getfield 49, 3, xF 0 10 2), none, none, some (.iconst 1, 1, xI (1)), some (.iaload, 1, xN), some (.aload_n 0, 1, xN), some (.getfield 53, 3, xF 0 11 2),
  none, none, some (.iconst 1, 1, xI (1)), some (.iaload, 1, xN), some (.iadd, 1, xN), some (.istore_n 1, 1, xN), some (.aload_n 0, 1, xN), some (.getfield 49, 3, xF 0 10 2),
  none, none, some (.iconst 1, 1, xI (1)), some (.iaload, 1, xN), some (.istore_n 2, 1, xN), some (.iconst 1, 1, xI (1)), some (.istore_n 3, 1, xN), some (.iload_n 3, 1, xN),
  some (.ifCond .eq (94), 3, xJ 118), none, none, some (.iload_n 2, 1, xN), some (.iload_n 1, 1, xN), some (.if_icmp .ge (89), 3, xJ 118), none, none,
  some (.aload_n 0, 1, xN), some (.iload_n 2, 1, xN), some (.putfield 167, 3, xF 0 6 0), none, none, some (.aload_n 0, 1, xN), some (.iload_n 1, 1, xN), some (.putfield 170, 3, xF 0 7 0),
  none, none, some (.aload_n 0, 1, xN), some (.iconst 0, 1, xI (0)), some (.putfield 164, 3, xF 0 8 3), none, none, some (.aload_n 0, 1, xN),
  some (.iconst 4, 1, xI (4)), some (.invokevirtual 177, 3, xN), none, none, some (.lstore 4, 2, xN), none, some (.aload_n 0, 1, xN), some (.getfield 263, 3, xF 0 21 0),
  none, none, some (.iconst 4, 1, xI (4)), some (.if_icmp .ge (27), 3, xJ 86), none, none, some (.aload_n 0, 1, xN), some (.getfield 164, 3, xF 0 8 3),
  none, none, some (.ifCond .ne (20), 3, xJ 86), none, none, some (.lload 4, 2, xN), none, some (.iload_n 1, 1, xN),
  some (.aload_n 0, 1, xN), some (.getfield 167, 3, xF 0 6 0), none, none, some (.isub, 1, xN), some (.i2l, 1, xN), some (.lcmp, 1, xN), some (.ifCond .gt (7), 3, xJ 86),
  none, none, some (.iconst 1, 1, xI (1)), some (.goto (4), 3, xJ 87), none, none, some (.iconst 0, 1, xI (0)), some (.istore_n 3, 1, xN),
  some (.iload_n 3, 1, xN), some (.ifCond .eq (26), 3, xJ 115), none, none, some (.aload_n 0, 1, xN), some (.aload_n 0, 1, xN), some (.getfield 167, 3, xF 0 6 0), none,
  none, some (.lload 4, 2, xN), none, some (.l2i, 1, xN), some (.iadd, 1, xN), some (.putfield 170, 3, xF 0 7 0), none, none,
  some (.aload_n 0, 1, xN), some (.iload_n 2, 1, xN), some (.invokevirtual 279, 3, xN), none, none, some (.istore_n 3, 1, xN), some (.aload_n 0, 1, xN), some (.getfield 170, 3, xF 0 7 0),
  none, none, some (.istore_n 2, 1, xN), some (.goto (-92), 3, xJ 23), none, none, some (.iload_n 3, 1, xN), some (.ireturn, 1, xN)]
def M_Mo_readUnits : am_Me := (⟨R_Mo, "readUnits", "()Z"⟩, prog_14_method_29_code, 6, (some .boolean), Y_Mo, cd_Mo_readUnits, 7, 179, 0, 0)
set_option maxRecDepth 100000 in
theorem ok_Mo_readUnits : am_ok S_m M_Mo_readUnits := am_ok_ofY (Y := Y_Mo) (cd := cd_Mo_readUnits) (by decide +kernel) rfl rfl rfl oY_Mo (by decide +kernel)
def cd_Mo_readUnit : List (Option am_I) := [some (.aload_n 0, 1, xN), some (.getfield 170, 3, xF 0 7 0), none, none, some (.istore_n 2, 1, xN), some (.aload_n 0, 1, xN), some (.iconst 2, 1, xI (2)), some (.invokevirtual 177, 3, xN),
  none, none, some (.lstore_n 3, 1, xN), some (.aload_n 0, 1, xN), some (.iconst 1, 1, xI (1)), some (.invokevirtual 177, 3, xN), none, none,
  some (.lstore 5, 2, xN), none, some (.aload_n 0, 1, xN), some (.iconst 1, 1, xI (1)), some (.invokevirtual 177, 3, xN), none, none, some (.lstore 7, 2, xN),
  none, some (.aload_n 0, 1, xN), some (.iconst 4, 1, xI (4)), some (.invokevirtual 177, 3, xN), none, none, some (.lstore 9, 2, xN), none,
  some (.aload_n 0, 1, xN), some (.getfield 167, 3, xF 0 6 0), none, none, some (.istore 11, 2, xN), none, some (.aload_n 0, 1, xN), some (.getfield 164, 3, xF 0 8 3),
  none, none, some (.ifCond .ne (36), 3, xJ 78), none, none, some (.lload_n 3, 1, xN), some (.ldc2_w 282, 3, xL (5)), none,
  none, some (.lcmp, 1, xN), some (.ifCond .ne (28), 3, xJ 78), none, none, some (.lload 5, 2, xN), none, some (.lconst 1, 1, xL 1),
  some (.lcmp, 1, xN), some (.ifCond .ne (21), 3, xJ 78), none, none, some (.lload 7, 2, xN), none, some (.ldc2_w 207, 3, xL (8)), none,
  none, some (.lcmp, 1, xN), some (.ifCond .ne (12), 3, xJ 78), none, none, some (.aload_n 0, 1, xN), some (.lload 9, 2, xN), none,
  some (.invokevirtual 284, 3, xN), none, none, some (.ifCond .ne (5), 3, xJ 80), none, none, some (.iconst 0, 1, xI (0)), some (.ireturn, 1, xN),
  some (.aload_n 0, 1, xN), some (.iload 11, 2, xN), none, some (.putfield 167, 3, xF 0 6 0), none, none, some (.aload_n 0, 1, xN), some (.iload_n 2, 1, xN),
  some (.putfield 170, 3, xF 0 7 0), none, none, some (.aload_n 0, 1, xN), some (.iconst 0, 1, xI (0)), some (.putfield 164, 3, xF 0 8 3), none, none,
  some (.aload_n 0, 1, xN), some (.getfield 81, 3, xF 0 24 2), none, none, some (.aload_n 0, 1, xN), some (.getfield 263, 3, xF 0 21 0), none, none,
  some (.iload_n 1, 1, xN), some (.iastore, 1, xN), some (.aload_n 0, 1, xN), some (.getfield 84, 3, xF 0 25 2), none, none, some (.aload_n 0, 1, xN), some (.getfield 263, 3, xF 0 21 0),
  none, none, some (.aload_n 0, 1, xN), some (.getfield 257, 3, xF 0 22 0), none, none, some (.iastore, 1, xN), some (.aload_n 0, 1, xN),
  some (.dup, 1, xN), some (.getfield 263, 3, xF 0 21 0), none, none, some (.iconst 1, 1, xI (1)), some (.iadd, 1, xN), some (.putfield 263, 3, xF 0 21 0), none,
  none, some (.aload_n 0, 1, xN), some (.invokevirtual 287, 3, xN), none, none, some (.ireturn, 1, xN)]
def M_Mo_readUnit : am_Me := (⟨R_Mo, "readUnit", "(I)Z"⟩, prog_14_method_30_code, 12, (some .boolean), Y_Mo, cd_Mo_readUnit, 6, 148, 0, 0)
set_option maxRecDepth 100000 in
theorem ok_Mo_readUnit : am_ok S_m M_Mo_readUnit := am_ok_ofY (Y := Y_Mo) (cd := cd_Mo_readUnit) (by decide +kernel) rfl rfl rfl oY_Mo (by decide +kernel)
def cd_Mo_formAt : List (Option am_I) := [some (.aload_n 0, 1, xN), some (.getfield 102, 3, xF 0 31 2), none, none, some (.bipush 11, 2, xI (11)), none, some (.iload_n 1, 1, xN), some (.imul, 1, xN),
  some (.iload_n 2, 1, xN), some (.iadd, 1, xN), some (.iaload, 1, xN), some (.ireturn, 1, xN)]
def M_Mo_formAt : am_Me := (⟨R_Mo, "formAt", "(II)I"⟩, prog_14_method_31_code, 3, (some .int), Y_Mo, cd_Mo_formAt, 0, 0, 0, 0)
set_option maxRecDepth 100000 in
theorem ok_Mo_formAt : am_ok S_m M_Mo_formAt := am_ok_ofY (Y := Y_Mo) (cd := cd_Mo_formAt) (by decide +kernel) rfl rfl rfl oY_Mo (by decide +kernel)
def cd_Mo_has : List (Option am_I) := [some (.aload_n 0, 1, xN), some (.getfield 102, 3, xF 0 31 2), none, none, some (.bipush 11, 2, xI (11)), none, some (.iload_n 1, 1, xN), some (.imul, 1, xN),
  some (.iload_n 2, 1, xN), some (.iadd, 1, xN), some (.iaload, 1, xN), some (.ifCond .le (7), 3, xJ 18), none, none, some (.iconst 1, 1, xI (1)), some (.goto (4), 3, xJ 19),
  none, none, some (.iconst 0, 1, xI (0)), some (.ireturn, 1, xN)]
def M_Mo_has : am_Me := (⟨R_Mo, "has", "(II)Z"⟩, prog_14_method_32_code, 3, (some .boolean), Y_Mo, cd_Mo_has, 0, 0, 0, 0)
set_option maxRecDepth 100000 in
theorem ok_Mo_has : am_ok S_m M_Mo_has := am_ok_ofY (Y := Y_Mo) (cd := cd_Mo_has) (by decide +kernel) rfl rfl rfl oY_Mo (by decide +kernel)
def cd_Mo_valueAt : List (Option am_I) := [some (.aload_n 0, 1, xN), some (.getfield 105, 3, xF 0 32 2), none, none, some (.bipush 11, 2, xI (11)), none, some (.iload_n 1, 1, xN), some (.imul, 1, xN),
  some (.iload_n 2, 1, xN), some (.iadd, 1, xN), some (.laload, 1, xN), some (.lreturn, 1, xN)]
def M_Mo_valueAt : am_Me := (⟨R_Mo, "valueAt", "(II)J"⟩, prog_14_method_33_code, 3, (some .long), Y_Mo, cd_Mo_valueAt, 0, 0, 0, 0)
set_option maxRecDepth 100000 in
theorem ok_Mo_valueAt : am_ok S_m M_Mo_valueAt := am_ok_ofY (Y := Y_Mo) (cd := cd_Mo_valueAt) (by decide +kernel) rfl rfl rfl oY_Mo (by decide +kernel)
def cd_Mo_isConstant : List (Option am_I) := [some (.iload_n 0, 1, xN), some (.bipush 11, 2, xI (11)), none, some (.if_icmp .eq (44), 3, xJ 47), none, none, some (.iload_n 0, 1, xN), some (.iconst 5, 1, xI (5)),
  some (.if_icmp .eq (39), 3, xJ 47), none, none, some (.iload_n 0, 1, xN), some (.bipush 6, 2, xI (6)), none, some (.if_icmp .eq (33), 3, xJ 47), none,
  none, some (.iload_n 0, 1, xN), some (.bipush 7, 2, xI (7)), none, some (.if_icmp .eq (27), 3, xJ 47), none, none, some (.iload_n 0, 1, xN),
  some (.bipush 13, 2, xI (13)), none, some (.if_icmp .eq (21), 3, xJ 47), none, none, some (.iload_n 0, 1, xN), some (.bipush 15, 2, xI (15)), none,
  some (.if_icmp .eq (15), 3, xJ 47), none, none, some (.iload_n 0, 1, xN), some (.bipush 33, 2, xI (33)), none, some (.if_icmp .eq (9), 3, xJ 47), none,
  none, some (.iload_n 0, 1, xN), some (.bipush 25, 2, xI (25)), none, some (.if_icmp .ne (7), 3, xJ 51), none, none, some (.iconst 1, 1, xI (1)),
  some (.goto (4), 3, xJ 52), none, none, some (.iconst 0, 1, xI (0)), some (.ireturn, 1, xN)]
def M_Mo_isConstant : am_Me := (⟨R_Mo, "isConstant", "(I)Z"⟩, prog_14_method_34_code, 1, (some .boolean), Y_Mo, cd_Mo_isConstant, 0, 0, 0, 0)
set_option maxRecDepth 100000 in
theorem ok_Mo_isConstant : am_ok S_m M_Mo_isConstant := am_ok_ofY (Y := Y_Mo) (cd := cd_Mo_isConstant) (by decide +kernel) rfl rfl rfl oY_Mo (by decide +kernel)
def cd_Mo_isAddress : List (Option am_I) := [some (.iload_n 0, 1, xN), some (.iconst 1, 1, xI (1)), some (.if_icmp .eq (9), 3, xJ 11), none, none, some (.iload_n 0, 1, xN), some (.bipush 27, 2, xI (27)), none,
  some (.if_icmp .ne (7), 3, xJ 15), none, none, some (.iconst 1, 1, xI (1)), some (.goto (4), 3, xJ 16), none, none, some (.iconst 0, 1, xI (0)),
  some (.ireturn, 1, xN)]
def M_Mo_isAddress : am_Me := (⟨R_Mo, "isAddress", "(I)Z"⟩, prog_14_method_35_code, 1, (some .boolean), Y_Mo, cd_Mo_isAddress, 0, 0, 0, 0)
set_option maxRecDepth 100000 in
theorem ok_Mo_isAddress : am_ok S_m M_Mo_isAddress := am_ok_ofY (Y := Y_Mo) (cd := cd_Mo_isAddress) (by decide +kernel) rfl rfl rfl oY_Mo (by decide +kernel)
def cd_Mo_baseOf : List (Option am_I) := [some (.aload_n 0, 1, xN), some (.getfield 84, 3, xF 0 25 2), none, none, some (.aload_n 0, 1, xN), some (.getfield 99, 3, xF 0 30 2), none, none,
  some (.iload_n 1, 1, xN), some (.iaload, 1, xN), some (.iaload, 1, xN), some (.istore_n 3, 1, xN), some (.aload_n 0, 1, xN), some (.iload_n 3, 1, xN), some (.iload_n 2, 1, xN), some (.invokevirtual 290, 3, xN),
  none, none, some (.ifCond .eq (12), 3, xJ 30), none, none, some (.aload_n 0, 1, xN), some (.iload_n 3, 1, xN), some (.iload_n 2, 1, xN),
  some (.invokevirtual 294, 3, xN), none, none, some (.goto (4), 3, xJ 31), none, none, some (.lconst 0, 1, xL 0), some (.lreturn, 1, xN)]
def M_Mo_baseOf : am_Me := (⟨R_Mo, "baseOf", "(II)J"⟩, prog_14_method_36_code, 4, (some .long), Y_Mo, cd_Mo_baseOf, 1, 22, 0, 0)
set_option maxRecDepth 100000 in
theorem ok_Mo_baseOf : am_ok S_m M_Mo_baseOf := am_ok_ofY (Y := Y_Mo) (cd := cd_Mo_baseOf) (by decide +kernel) rfl rfl rfl oY_Mo (by decide +kernel)
def cd_Mo_indexed : List (Option am_I) := [some (.lload 4, 2, xN), none, some (.lconst 0, 1, xL 0), some (.ldc2_w 297, 3, xL (3000)), none, none, some (.invokestatic 201, 3, xN), none,
  none, some (.ifCond .eq (21), 3, xJ 30), none, none, some (.aload_n 0, 1, xN), some (.iload_n 1, 1, xN), some (.lload_n 2, 1, xN), some (.iload 6, 2, xN),
  none, some (.i2l, 1, xN), some (.lload 4, 2, xN), none, some (.lmul, 1, xN), some (.ladd, 1, xN), some (.iload 6, 2, xN), none,
  some (.invokevirtual 191, 3, xN), none, none, some (.goto (4), 3, xJ 31), none, none, some (.iconst (-1), 1, xI (-1)), some (.ireturn, 1, xN)]
def M_Mo_indexed : am_Me := (⟨R_Mo, "indexed", "(IJJI)I"⟩, prog_14_method_37_code, 7, (some .int), Y_Mo, cd_Mo_indexed, 1, 25, 0, 0)
set_option maxRecDepth 100000 in
theorem ok_Mo_indexed : am_ok S_m M_Mo_indexed := am_ok_ofY (Y := Y_Mo) (cd := cd_Mo_indexed) (by decide +kernel) rfl rfl rfl oY_Mo (by decide +kernel)
def cd_Mo_nameAt : List (Option am_I) := [some (.aload_n 0, 1, xN), some (.iload_n 1, 1, xN), some (.iconst 0, 1, xI (0)), some (.invokevirtual 294, 3, xN), none, none, some (.lstore_n 2, 1, xN), some (.aload_n 0, 1, xN),
  some (.iload_n 1, 1, xN), some (.iconst 0, 1, xI (0)), some (.invokevirtual 299, 3, xN), none, none, some (.lookupswitch (99) #[(8, 43), (14, 46), (31, 53), (37, 60)], 43, xN), none, none,
  none, none, none, none, none, none, none, none,
  none, none, none, none, none, none, none, none,
  none, none, none, none, none, none, none, none,
  none, none, none, none, none, none, none, none,
  none, none, none, none, none, none, none, none,
  some (.lload_n 2, 1, xN), some (.l2i, 1, xN), some (.ireturn, 1, xN), some (.aload_n 0, 1, xN), some (.iconst 2, 1, xI (2)), some (.lload_n 2, 1, xN), some (.invokevirtual 302, 3, xN), none,
  none, some (.ireturn, 1, xN), some (.aload_n 0, 1, xN), some (.iconst 3, 1, xI (3)), some (.lload_n 2, 1, xN), some (.invokevirtual 302, 3, xN), none, none,
  some (.ireturn, 1, xN), some (.aload_n 0, 1, xN), some (.iconst 4, 1, xI (4)), some (.aload_n 0, 1, xN), some (.iload_n 1, 1, xN), some (.bipush 8, 2, xI (8)), none, some (.invokevirtual 306, 3, xN),
  none, none, some (.lload_n 2, 1, xN), some (.iconst 4, 1, xI (4)), some (.invokevirtual 309, 3, xN), none, none, some (.istore 4, 2, xN),
  none, some (.iload 4, 2, xN), none, some (.iconst (-1), 1, xI (-1)), some (.if_icmp .ne (7), 3, xJ 99), none, none, some (.iconst (-1), 1, xI (-1)),
  some (.goto (15), 3, xJ 111), none, none, some (.aload_n 0, 1, xN), some (.iconst 2, 1, xI (2)), some (.aload_n 0, 1, xN), some (.iload 4, 2, xN), none,
  some (.iconst 4, 1, xI (4)), some (.invokevirtual 173, 3, xN), none, none, some (.invokevirtual 302, 3, xN), none, none, some (.ireturn, 1, xN),
  some (.iconst (-1), 1, xI (-1)), some (.ireturn, 1, xN)]
def M_Mo_nameAt : am_Me := (⟨R_Mo, "nameAt", "(I)I"⟩, prog_14_method_38_code, 5, (some .int), Y_Mo, cd_Mo_nameAt, 2, 51, 0, 0)
set_option maxRecDepth 100000 in
theorem ok_Mo_nameAt : am_ok S_m M_Mo_nameAt := am_ok_ofY (Y := Y_Mo) (cd := cd_Mo_nameAt) (by decide +kernel) rfl rfl rfl oY_Mo (by decide +kernel)
def cd_Mo_addressAt : List (Option am_I) := [some (.aload_n 0, 1, xN), some (.iconst 5, 1, xI (5)), some (.aload_n 0, 1, xN), some (.iload_n 1, 1, xN), some (.bipush 9, 2, xI (9)), none, some (.invokevirtual 306, 3, xN), none,
  none, some (.lload_n 2, 1, xN), some (.bipush 8, 2, xI (8)), none, some (.invokevirtual 309, 3, xN), none, none, some (.istore 4, 2, xN),
  none, some (.aload_n 0, 1, xN), some (.iload 4, 2, xN), none, some (.iconst (-1), 1, xI (-1)), some (.if_icmp .ne (7), 3, xJ 28), none, none,
  some (.lconst 0, 1, xL 0), some (.goto (11), 3, xJ 36), none, none, some (.aload_n 0, 1, xN), some (.iload 4, 2, xN), none, some (.bipush 8, 2, xI (8)),
  none, some (.invokevirtual 173, 3, xN), none, none, some (.putfield 313, 3, xF 0 37 1), none, none, some (.iload 4, 2, xN),
  none, some (.iconst (-1), 1, xI (-1)), some (.if_icmp .eq (7), 3, xJ 49), none, none, some (.iconst 1, 1, xI (1)), some (.goto (4), 3, xJ 50), none,
  none, some (.iconst 0, 1, xI (0)), some (.ireturn, 1, xN)]
def M_Mo_addressAt : am_Me := (⟨R_Mo, "addressAt", "(IJ)Z"⟩, prog_14_method_39_code, 5, (some .boolean), Y_Mo, cd_Mo_addressAt, 2, 51, 0, 0)
set_option maxRecDepth 100000 in
theorem ok_Mo_addressAt : am_ok S_m M_Mo_addressAt := am_ok_ofY (Y := Y_Mo) (cd := cd_Mo_addressAt) (by decide +kernel) rfl rfl rfl oY_Mo (by decide +kernel)
def cd_Mo_address : List (Option am_I) := [some (.aload_n 0, 1, xN), some (.aload_n 0, 1, xN), some (.iload_n 1, 1, xN), some (.iload_n 2, 1, xN), some (.invokevirtual 294, 3, xN), none, none, some (.putfield 313, 3, xF 0 37 1),
  none, none, some (.aload_n 0, 1, xN), some (.iload_n 1, 1, xN), some (.iload_n 2, 1, xN), some (.invokevirtual 299, 3, xN), none, none,
  some (.bipush 27, 2, xI (27)), none, some (.if_icmp .ne (15), 3, xJ 33), none, none, some (.aload_n 0, 1, xN), some (.iload_n 1, 1, xN), some (.aload_n 0, 1, xN),
  some (.getfield 313, 3, xF 0 37 1), none, none, some (.invokevirtual 317, 3, xN), none, none, some (.ifCond .eq (7), 3, xJ 37), none,
  none, some (.iconst 1, 1, xI (1)), some (.goto (4), 3, xJ 38), none, none, some (.iconst 0, 1, xI (0)), some (.ireturn, 1, xN)]
def M_Mo_address : am_Me := (⟨R_Mo, "address", "(II)Z"⟩, prog_14_method_40_code, 3, (some .boolean), Y_Mo, cd_Mo_address, 3, 75, 0, 0)
set_option maxRecDepth 100000 in
theorem ok_Mo_address : am_ok S_m M_Mo_address := am_ok_ofY (Y := Y_Mo) (cd := cd_Mo_address) (by decide +kernel) rfl rfl rfl oY_Mo (by decide +kernel)
def cd_Mo_isOrigin : List (Option am_I) := [some (.aload_n 0, 1, xN), some (.iload_n 1, 1, xN), some (.invokevirtual 321, 3, xN), none, none, some (.iconst (-1), 1, xI (-1)), some (.if_icmp .eq (7), 3, xJ 13), none,
  none, some (.iconst 1, 1, xI (1)), some (.goto (4), 3, xJ 14), none, none, some (.iconst 0, 1, xI (0)), some (.ireturn, 1, xN)]
def M_Mo_isOrigin : am_Me := (⟨R_Mo, "isOrigin", "(I)Z"⟩, prog_14_method_41_code, 2, (some .boolean), Y_Mo, cd_Mo_isOrigin, 2, 46, 0, 0)
set_option maxRecDepth 100000 in
theorem ok_Mo_isOrigin : am_ok S_m M_Mo_isOrigin := am_ok_ofY (Y := Y_Mo) (cd := cd_Mo_isOrigin) (by decide +kernel) rfl rfl rfl oY_Mo (by decide +kernel)
def cd_Mo_origin : List (Option am_I) := [some (.aload_n 0, 1, xN), some (.iload_n 1, 1, xN), some (.iconst 4, 1, xI (4)), some (.invokevirtual 299, 3, xN), none, none, some (.bipush 19, 2, xI (19)), none,
  some (.if_icmp .eq (5), 3, xJ 13), none, none, some (.iconst (-1), 1, xI (-1)), some (.ireturn, 1, xN), some (.aload_n 0, 1, xN), some (.getfield 81, 3, xF 0 24 2), none,
  none, some (.aload_n 0, 1, xN), some (.getfield 99, 3, xF 0 30 2), none, none, some (.iload_n 1, 1, xN), some (.iaload, 1, xN), some (.iaload, 1, xN),
  some (.i2l, 1, xN), some (.aload_n 0, 1, xN), some (.iload_n 1, 1, xN), some (.iconst 4, 1, xI (4)), some (.invokevirtual 294, 3, xN), none, none, some (.ladd, 1, xN),
  some (.lstore_n 2, 1, xN), some (.iconst 0, 1, xI (0)), some (.istore 4, 2, xN), none, some (.iload 4, 2, xN), none, some (.aload_n 0, 1, xN), some (.getfield 257, 3, xF 0 22 0),
  none, none, some (.if_icmp .ge (65), 3, xJ 107), none, none, some (.aload_n 0, 1, xN), some (.getfield 99, 3, xF 0 30 2), none,
  none, some (.iload 4, 2, xN), none, some (.iaload, 1, xN), some (.aload_n 0, 1, xN), some (.getfield 99, 3, xF 0 30 2), none, none,
  some (.iload_n 1, 1, xN), some (.iaload, 1, xN), some (.if_icmp .ne (43), 3, xJ 101), none, none, some (.aload_n 0, 1, xN), some (.getfield 90, 3, xF 0 27 2), none,
  none, some (.iload 4, 2, xN), none, some (.iaload, 1, xN), some (.i2l, 1, xN), some (.lload_n 2, 1, xN), some (.lcmp, 1, xN), some (.ifCond .ne (30), 3, xJ 101),
  none, none, some (.aload_n 0, 1, xN), some (.getfield 93, 3, xF 0 28 2), none, none, some (.iload 4, 2, xN), none,
  some (.iaload, 1, xN), some (.bipush 46, 2, xI (46)), none, some (.if_icmp .eq (15), 3, xJ 98), none, none, some (.aload_n 0, 1, xN), some (.getfield 93, 3, xF 0 28 2),
  none, none, some (.iload 4, 2, xN), none, some (.iaload, 1, xN), some (.bipush 29, 2, xI (29)), none, some (.if_icmp .ne (6), 3, xJ 101),
  none, none, some (.iload 4, 2, xN), none, some (.ireturn, 1, xN), some (.iinc 4 (1), 3, xI (1)), none, none,
  some (.goto (-68), 3, xJ 36), none, none, some (.iconst (-1), 1, xI (-1)), some (.ireturn, 1, xN)]
def M_Mo_origin : am_Me := (⟨R_Mo, "origin", "(I)I"⟩, prog_14_method_42_code, 5, (some .int), Y_Mo, cd_Mo_origin, 1, 22, 0, 0)
set_option maxRecDepth 100000 in
theorem ok_Mo_origin : am_ok S_m M_Mo_origin := am_ok_ofY (Y := Y_Mo) (cd := cd_Mo_origin) (by decide +kernel) rfl rfl rfl oY_Mo (by decide +kernel)
def cd_Mo_isRight : List (Option am_I) := [some (.aload_n 0, 1, xN), some (.iload_n 1, 1, xN), some (.iconst 0, 1, xI (0)), some (.invokevirtual 290, 3, xN), none, none, some (.ifCond .eq (12), 3, xJ 18), none,
  none, some (.aload_n 0, 1, xN), some (.iload_n 1, 1, xN), some (.invokevirtual 325, 3, xN), none, none, some (.iconst (-1), 1, xI (-1)), some (.if_icmp .eq (7), 3, xJ 22),
  none, none, some (.iconst 1, 1, xI (1)), some (.goto (4), 3, xJ 23), none, none, some (.iconst 0, 1, xI (0)), some (.istore_n 2, 1, xN),
  some (.iload_n 2, 1, xN), some (.ifCond .eq (37), 3, xJ 62), none, none, some (.aload_n 0, 1, xN), some (.iload_n 1, 1, xN), some (.iconst 1, 1, xI (1)), some (.invokevirtual 290, 3, xN),
  none, none, some (.ifCond .eq (24), 3, xJ 58), none, none, some (.aload_n 0, 1, xN), some (.iload_n 1, 1, xN), some (.iconst 1, 1, xI (1)),
  some (.invokevirtual 299, 3, xN), none, none, some (.invokestatic 328, 3, xN), none, none, some (.ifCond .eq (16), 3, xJ 62), none,
  none, some (.aload_n 0, 1, xN), some (.iload_n 1, 1, xN), some (.iconst 1, 1, xI (1)), some (.invokevirtual 331, 3, xN), none, none, some (.ifCond .eq (7), 3, xJ 62),
  none, none, some (.iconst 1, 1, xI (1)), some (.goto (4), 3, xJ 63), none, none, some (.iconst 0, 1, xI (0)), some (.istore_n 2, 1, xN),
  some (.iload_n 2, 1, xN), some (.ifCond .eq (49), 3, xJ 114), none, none, some (.aload_n 0, 1, xN), some (.iload_n 1, 1, xN), some (.iconst 2, 1, xI (2)), some (.invokevirtual 290, 3, xN),
  none, none, some (.ifCond .eq (36), 3, xJ 110), none, none, some (.aload_n 0, 1, xN), some (.iload_n 1, 1, xN), some (.iconst 2, 1, xI (2)),
  some (.invokevirtual 299, 3, xN), none, none, some (.invokestatic 334, 3, xN), none, none, some (.ifCond .ne (24), 3, xJ 110), none,
  none, some (.aload_n 0, 1, xN), some (.iload_n 1, 1, xN), some (.iconst 2, 1, xI (2)), some (.invokevirtual 299, 3, xN), none, none, some (.invokestatic 328, 3, xN),
  none, none, some (.ifCond .eq (16), 3, xJ 114), none, none, some (.aload_n 0, 1, xN), some (.iload_n 1, 1, xN), some (.iconst 2, 1, xI (2)),
  some (.invokevirtual 331, 3, xN), none, none, some (.ifCond .eq (7), 3, xJ 114), none, none, some (.iconst 1, 1, xI (1)), some (.goto (4), 3, xJ 115),
  none, none, some (.iconst 0, 1, xI (0)), some (.istore_n 2, 1, xN), some (.iload_n 2, 1, xN), some (.ifCond .eq (38), 3, xJ 155), none, none,
  some (.aload_n 0, 1, xN), some (.iload_n 1, 1, xN), some (.iconst 3, 1, xI (3)), some (.invokevirtual 290, 3, xN), none, none, some (.ifCond .eq (25), 3, xJ 151), none,
  none, some (.aload_n 0, 1, xN), some (.iload_n 1, 1, xN), some (.iconst 3, 1, xI (3)), some (.invokevirtual 299, 3, xN), none, none, some (.bipush 23, 2, xI (23)),
  none, some (.if_icmp .eq (14), 3, xJ 151), none, none, some (.aload_n 0, 1, xN), some (.iload_n 1, 1, xN), some (.iconst 3, 1, xI (3)), some (.invokevirtual 299, 3, xN),
  none, none, some (.bipush 35, 2, xI (35)), none, some (.if_icmp .ne (7), 3, xJ 155), none, none, some (.iconst 1, 1, xI (1)),
  some (.goto (4), 3, xJ 156), none, none, some (.iconst 0, 1, xI (0)), some (.istore_n 2, 1, xN), some (.iload_n 2, 1, xN), some (.ifCond .eq (24), 3, xJ 182), none,
  none, some (.aload_n 0, 1, xN), some (.iload_n 1, 1, xN), some (.iconst 4, 1, xI (4)), some (.invokevirtual 290, 3, xN), none, none, some (.ifCond .eq (11), 3, xJ 178),
  none, none, some (.aload_n 0, 1, xN), some (.iload_n 1, 1, xN), some (.invokevirtual 337, 3, xN), none, none, some (.ifCond .eq (7), 3, xJ 182),
  none, none, some (.iconst 1, 1, xI (1)), some (.goto (4), 3, xJ 183), none, none, some (.iconst 0, 1, xI (0)), some (.istore_n 2, 1, xN),
  some (.iload_n 2, 1, xN), some (.ifCond .eq (51), 3, xJ 236), none, none, some (.aload_n 0, 1, xN), some (.iload_n 1, 1, xN), some (.iconst 5, 1, xI (5)), some (.invokevirtual 290, 3, xN),
  none, none, some (.ifCond .eq (15), 3, xJ 209), none, none, some (.aload_n 0, 1, xN), some (.iload_n 1, 1, xN), some (.iconst 5, 1, xI (5)),
  some (.invokevirtual 299, 3, xN), none, none, some (.invokestatic 334, 3, xN), none, none, some (.ifCond .eq (30), 3, xJ 236), none,
  none, some (.aload_n 0, 1, xN), some (.iload_n 1, 1, xN), some (.bipush 6, 2, xI (6)), none, some (.invokevirtual 290, 3, xN), none, none,
  some (.ifCond .eq (16), 3, xJ 232), none, none, some (.aload_n 0, 1, xN), some (.iload_n 1, 1, xN), some (.bipush 6, 2, xI (6)), none, some (.invokevirtual 299, 3, xN),
  none, none, some (.invokestatic 334, 3, xN), none, none, some (.ifCond .eq (7), 3, xJ 236), none, none,
  some (.iconst 1, 1, xI (1)), some (.goto (4), 3, xJ 237), none, none, some (.iconst 0, 1, xI (0)), some (.istore_n 2, 1, xN), some (.bipush 7, 2, xI (7)), none,
  some (.istore_n 3, 1, xN), some (.iload_n 3, 1, xN), some (.bipush 11, 2, xI (11)), none, some (.if_icmp .ge (50), 3, xJ 294), none, none, some (.aload_n 0, 1, xN),
  some (.getfield 93, 3, xF 0 28 2), none, none, some (.iload_n 1, 1, xN), some (.iaload, 1, xN), some (.bipush 17, 2, xI (17)), none, some (.if_icmp .ne (39), 3, xJ 294),
  none, none, some (.iload_n 2, 1, xN), some (.ifCond .eq (27), 3, xJ 286), none, none, some (.aload_n 0, 1, xN), some (.iload_n 1, 1, xN),
  some (.iload_n 3, 1, xN), some (.invokevirtual 290, 3, xN), none, none, some (.ifCond .eq (14), 3, xJ 282), none, none, some (.aload_n 0, 1, xN),
  some (.iload_n 1, 1, xN), some (.iload_n 3, 1, xN), some (.invokevirtual 299, 3, xN), none, none, some (.bipush 23, 2, xI (23)), none, some (.if_icmp .ne (7), 3, xJ 286),
  none, none, some (.iconst 1, 1, xI (1)), some (.goto (4), 3, xJ 287), none, none, some (.iconst 0, 1, xI (0)), some (.istore_n 2, 1, xN),
  some (.iinc 3 (1), 3, xI (1)), none, none, some (.goto (-50), 3, xJ 241), none, none, some (.iload_n 2, 1, xN), some (.ireturn, 1, xN)]
def M_Mo_isRight : am_Me := (⟨R_Mo, "isRight", "(I)Z"⟩, prog_14_method_43_code, 4, (some .boolean), Y_Mo, cd_Mo_isRight, 4, 97, 0, 0)
set_option maxRecDepth 100000 in
theorem ok_Mo_isRight : am_ok S_m M_Mo_isRight := am_ok_ofY (Y := Y_Mo) (cd := cd_Mo_isRight) (by decide +kernel) rfl rfl rfl oY_Mo (by decide +kernel)
def cd_Mo_range : List (Option am_I) := [some (.aload_n 0, 1, xN), some (.getfield 340, 3, xF 0 33 0), none, none, some (.sipush 300, 3, xI (300)), none, none, some (.if_icmp .eq (10), 3, xJ 17),
  none, none, some (.aload_n 0, 1, xN), some (.getfield 164, 3, xF 0 8 3), none, none, some (.ifCond .eq (5), 3, xJ 19), none,
  none, some (.iconst 0, 1, xI (0)), some (.ireturn, 1, xN), some (.aload_n 0, 1, xN), some (.getfield 111, 3, xF 0 35 2), none, none, some (.aload_n 0, 1, xN),
  some (.getfield 340, 3, xF 0 33 0), none, none, some (.lload_n 1, 1, xN), some (.lastore, 1, xN), some (.aload_n 0, 1, xN), some (.getfield 114, 3, xF 0 36 2), none,
  none, some (.aload_n 0, 1, xN), some (.getfield 340, 3, xF 0 33 0), none, none, some (.lload_n 3, 1, xN), some (.lastore, 1, xN), some (.aload_n 0, 1, xN),
  some (.dup, 1, xN), some (.getfield 340, 3, xF 0 33 0), none, none, some (.iconst 1, 1, xI (1)), some (.iadd, 1, xN), some (.putfield 340, 3, xF 0 33 0), none,
  none, some (.iconst 1, 1, xI (1)), some (.ireturn, 1, xN)]
def M_Mo_range : am_Me := (⟨R_Mo, "range", "(JJ)Z"⟩, prog_14_method_44_code, 5, (some .boolean), Y_Mo, cd_Mo_range, 0, 0, 0, 0)
set_option maxRecDepth 100000 in
theorem ok_Mo_range : am_ok S_m M_Mo_range := am_ok_ofY (Y := Y_Mo) (cd := cd_Mo_range) (by decide +kernel) rfl rfl rfl oY_Mo (by decide +kernel)
def cd_Mo_rangeByIndex : List (Option am_I) := [some (.aload_n 0, 1, xN), some (.iload_n 1, 1, xN), some (.aload_n 0, 1, xN), some (.iconst 0, 1, xI (0)), some (.invokevirtual 227, 3, xN), none, none, some (.invokevirtual 317, 3, xN),
  none, none, some (.ifCond .eq (10), 3, xJ 20), none, none, some (.aload_n 0, 1, xN), some (.getfield 164, 3, xF 0 8 3), none,
  none, some (.ifCond .eq (5), 3, xJ 22), none, none, some (.iconst 0, 1, xI (0)), some (.ireturn, 1, xN), some (.aload_n 0, 1, xN), some (.getfield 313, 3, xF 0 37 1),
  none, none, some (.lstore_n 3, 1, xN), some (.aload_n 0, 1, xN), some (.iconst 0, 1, xI (0)), some (.invokevirtual 227, 3, xN), none, none,
  some (.lstore 5, 2, xN), none, some (.iload_n 2, 1, xN), some (.iconst 3, 1, xI (3)), some (.if_icmp .ne (13), 3, xJ 49), none, none, some (.aload_n 0, 1, xN),
  some (.lload_n 3, 1, xN), some (.lload_n 3, 1, xN), some (.lload 5, 2, xN), none, some (.ladd, 1, xN), some (.invokevirtual 343, 3, xN), none, none,
  some (.ireturn, 1, xN), some (.aload_n 0, 1, xN), some (.getfield 164, 3, xF 0 8 3), none, none, some (.ifCond .ne (29), 3, xJ 82), none, none,
  some (.aload_n 0, 1, xN), some (.iload_n 1, 1, xN), some (.lload 5, 2, xN), none, some (.invokevirtual 317, 3, xN), none, none, some (.ifCond .eq (19), 3, xJ 82),
  none, none, some (.aload_n 0, 1, xN), some (.lload_n 3, 1, xN), some (.aload_n 0, 1, xN), some (.getfield 313, 3, xF 0 37 1), none, none,
  some (.invokevirtual 343, 3, xN), none, none, some (.ifCond .eq (7), 3, xJ 82), none, none, some (.iconst 1, 1, xI (1)), some (.goto (4), 3, xJ 83),
  none, none, some (.iconst 0, 1, xI (0)), some (.ireturn, 1, xN)]
def M_Mo_rangeByIndex : am_Me := (⟨R_Mo, "rangeByIndex", "(II)Z"⟩, prog_14_method_45_code, 7, (some .boolean), Y_Mo, cd_Mo_rangeByIndex, 3, 75, 0, 0)
set_option maxRecDepth 100000 in
theorem ok_Mo_rangeByIndex : am_ok S_m M_Mo_rangeByIndex := am_ok_ofY (Y := Y_Mo) (cd := cd_Mo_rangeByIndex) (by decide +kernel) rfl rfl rfl oY_Mo (by decide +kernel)
def cd_Mo_readList : List (Option am_I) := [some (.aload_n 0, 1, xN), some (.getfield 84, 3, xF 0 25 2), none, none, some (.aload_n 0, 1, xN), some (.getfield 99, 3, xF 0 30 2), none, none,
  some (.iload_n 1, 1, xN), some (.iaload, 1, xN), some (.iaload, 1, xN), some (.istore_n 2, 1, xN), some (.aload_n 0, 1, xN), some (.iload_n 2, 1, xN), some (.iconst 1, 1, xI (1)), some (.invokevirtual 290, 3, xN),
  none, none, some (.ifCond .eq (19), 3, xJ 37), none, none, some (.aload_n 0, 1, xN), some (.iload_n 2, 1, xN), some (.iconst 1, 1, xI (1)),
  some (.invokevirtual 331, 3, xN), none, none, some (.ifCond .eq (10), 3, xJ 37), none, none, some (.aload_n 0, 1, xN), some (.getfield 313, 3, xF 0 37 1),
  none, none, some (.goto (4), 3, xJ 38), none, none, some (.lconst 0, 1, xL 0), some (.lstore_n 3, 1, xN), some (.iconst 1, 1, xI (1)),
  some (.istore 5, 2, xN), none, some (.iconst 1, 1, xI (1)), some (.istore 6, 2, xN), none, some (.iload 5, 2, xN), none, some (.ifCond .eq (214), 3, xJ 261),
  none, none, some (.iload 6, 2, xN), none, some (.ifCond .eq (209), 3, xJ 261), none, none, some (.aload_n 0, 1, xN),
  some (.iconst 1, 1, xI (1)), some (.invokevirtual 177, 3, xN), none, none, some (.l2i, 1, xN), some (.istore 6, 2, xN), none, some (.aload_n 0, 1, xN),
  some (.getfield 164, 3, xF 0 8 3), none, none, some (.ifCond .ne (10), 3, xJ 77), none, none, some (.iload 6, 2, xN), none,
  some (.bipush 7, 2, xI (7)), none, some (.if_icmp .le (5), 3, xJ 79), none, none, some (.iconst 0, 1, xI (0)), some (.ireturn, 1, xN), some (.iload 6, 2, xN),
  none, some (.iconst 1, 1, xI (1)), some (.if_icmp .ne (38), 3, xJ 120), none, none, some (.aload_n 0, 1, xN), some (.iload_n 1, 1, xN), some (.aload_n 0, 1, xN),
  some (.iconst 0, 1, xI (0)), some (.invokevirtual 227, 3, xN), none, none, some (.invokevirtual 317, 3, xN), none, none, some (.ifCond .eq (14), 3, xJ 109),
  none, none, some (.aload_n 0, 1, xN), some (.getfield 164, 3, xF 0 8 3), none, none, some (.ifCond .ne (7), 3, xJ 109), none,
  none, some (.iconst 1, 1, xI (1)), some (.goto (4), 3, xJ 110), none, none, some (.iconst 0, 1, xI (0)), some (.istore 5, 2, xN), none,
  some (.aload_n 0, 1, xN), some (.getfield 313, 3, xF 0 37 1), none, none, some (.lstore_n 3, 1, xN), some (.goto (122), 3, xJ 239), none, none,
  some (.iload 6, 2, xN), none, some (.iconst 2, 1, xI (2)), some (.if_icmp .eq (9), 3, xJ 132), none, none, some (.iload 6, 2, xN), none,
  some (.iconst 3, 1, xI (3)), some (.if_icmp .ne (15), 3, xJ 144), none, none, some (.aload_n 0, 1, xN), some (.iload_n 1, 1, xN), some (.iload 6, 2, xN), none,
  some (.invokevirtual 347, 3, xN), none, none, some (.istore 5, 2, xN), none, some (.goto (98), 3, xJ 239), none, none,
  some (.iload 6, 2, xN), none, some (.iconst 4, 1, xI (4)), some (.if_icmp .ne (30), 3, xJ 177), none, none, some (.lload_n 3, 1, xN), some (.aload_n 0, 1, xN),
  some (.iconst 0, 1, xI (0)), some (.invokevirtual 227, 3, xN), none, none, some (.ladd, 1, xN), some (.lstore 7, 2, xN), none, some (.aload_n 0, 1, xN),
  some (.lload 7, 2, xN), none, some (.lload_n 3, 1, xN), some (.aload_n 0, 1, xN), some (.iconst 0, 1, xI (0)), some (.invokevirtual 227, 3, xN), none, none,
  some (.ladd, 1, xN), some (.invokevirtual 343, 3, xN), none, none, some (.istore 5, 2, xN), none, some (.goto (65), 3, xJ 239), none,
  none, some (.iload 6, 2, xN), none, some (.iconst 5, 1, xI (5)), some (.if_icmp .ne (13), 3, xJ 193), none, none, some (.aload_n 0, 1, xN),
  some (.bipush 8, 2, xI (8)), none, some (.invokevirtual 177, 3, xN), none, none, some (.lstore_n 3, 1, xN), some (.goto (49), 3, xJ 239), none,
  none, some (.iload 6, 2, xN), none, some (.iconst 5, 1, xI (5)), some (.if_icmp .le (43), 3, xJ 239), none, none, some (.aload_n 0, 1, xN),
  some (.bipush 8, 2, xI (8)), none, some (.invokevirtual 177, 3, xN), none, none, some (.lstore 7, 2, xN), none, some (.aload_n 0, 1, xN),
  some (.lload 7, 2, xN), none, some (.iload 6, 2, xN), none, some (.bipush 6, 2, xI (6)), none, some (.if_icmp .ne (12), 3, xJ 226), none,
  none, some (.aload_n 0, 1, xN), some (.bipush 8, 2, xI (8)), none, some (.invokevirtual 177, 3, xN), none, none, some (.goto (11), 3, xJ 234),
  none, none, some (.lload 7, 2, xN), none, some (.aload_n 0, 1, xN), some (.iconst 0, 1, xI (0)), some (.invokevirtual 227, 3, xN), none,
  none, some (.ladd, 1, xN), some (.invokevirtual 343, 3, xN), none, none, some (.istore 5, 2, xN), none, some (.iload 5, 2, xN),
  none, some (.ifCond .eq (14), 3, xJ 255), none, none, some (.aload_n 0, 1, xN), some (.getfield 164, 3, xF 0 8 3), none, none,
  some (.ifCond .ne (7), 3, xJ 255), none, none, some (.iconst 1, 1, xI (1)), some (.goto (4), 3, xJ 256), none, none, some (.iconst 0, 1, xI (0)),
  some (.istore 5, 2, xN), none, some (.goto (-213), 3, xJ 45), none, none, some (.iload 5, 2, xN), none, some (.ireturn, 1, xN)]
def M_Mo_readList : am_Me := (⟨R_Mo, "readList", "(I)Z"⟩, prog_14_method_46_code, 9, (some .boolean), Y_Mo, cd_Mo_readList, 4, 101, 0, 0)
set_option maxRecDepth 100000 in
theorem ok_Mo_readList : am_ok S_m M_Mo_readList := am_ok_ofY (Y := Y_Mo) (cd := cd_Mo_readList) (by decide +kernel) rfl rfl rfl oY_Mo (by decide +kernel)
def cd_Mo_readRanges : List (Option am_I) := [some (.aload_n 0, 1, xN), some (.iload_n 1, 1, xN), some (.iconst 3, 1, xI (3)), some (.invokevirtual 290, 3, xN), none, none, some (.ifCond .ne (118), 3, xJ 124), none,
  none, some (.aload_n 0, 1, xN), some (.iload_n 1, 1, xN), some (.iconst 1, 1, xI (1)), some (.invokevirtual 290, 3, xN), none, none, some (.ifCond .eq (12), 3, xJ 27),
  none, none, some (.aload_n 0, 1, xN), some (.iload_n 1, 1, xN), some (.iconst 2, 1, xI (2)), some (.invokevirtual 290, 3, xN), none, none,
  some (.ifCond .ne (5), 3, xJ 29), none, none, some (.iconst 1, 1, xI (1)), some (.ireturn, 1, xN), some (.aload_n 0, 1, xN), some (.iload_n 1, 1, xN), some (.iconst 1, 1, xI (1)),
  some (.invokevirtual 331, 3, xN), none, none, some (.istore_n 2, 1, xN), some (.aload_n 0, 1, xN), some (.getfield 313, 3, xF 0 37 1), none, none,
  some (.lstore_n 3, 1, xN), some (.aload_n 0, 1, xN), some (.iload_n 1, 1, xN), some (.iconst 2, 1, xI (2)), some (.invokevirtual 299, 3, xN), none, none, some (.invokestatic 334, 3, xN),
  none, none, some (.ifCond .ne (12), 3, xJ 62), none, none, some (.aload_n 0, 1, xN), some (.iload_n 1, 1, xN), some (.iconst 2, 1, xI (2)),
  some (.invokevirtual 331, 3, xN), none, none, some (.ifCond .eq (7), 3, xJ 66), none, none, some (.iconst 1, 1, xI (1)), some (.goto (4), 3, xJ 67),
  none, none, some (.iconst 0, 1, xI (0)), some (.istore 5, 2, xN), none, some (.aload_n 0, 1, xN), some (.iconst 0, 1, xI (0)), some (.putfield 164, 3, xF 0 8 3),
  none, none, some (.iload_n 2, 1, xN), some (.ifCond .eq (47), 3, xJ 122), none, none, some (.iload 5, 2, xN), none,
  some (.ifCond .eq (42), 3, xJ 122), none, none, some (.aload_n 0, 1, xN), some (.lload_n 3, 1, xN), some (.aload_n 0, 1, xN), some (.iload_n 1, 1, xN), some (.iconst 2, 1, xI (2)),
  some (.invokevirtual 299, 3, xN), none, none, some (.invokestatic 334, 3, xN), none, none, some (.ifCond .eq (14), 3, xJ 108), none,
  none, some (.lload_n 3, 1, xN), some (.aload_n 0, 1, xN), some (.iload_n 1, 1, xN), some (.iconst 2, 1, xI (2)), some (.invokevirtual 294, 3, xN), none, none,
  some (.ladd, 1, xN), some (.goto (7), 3, xJ 112), none, none, some (.aload_n 0, 1, xN), some (.getfield 313, 3, xF 0 37 1), none, none,
  some (.invokevirtual 343, 3, xN), none, none, some (.ifCond .eq (7), 3, xJ 122), none, none, some (.iconst 1, 1, xI (1)), some (.goto (4), 3, xJ 123),
  none, none, some (.iconst 0, 1, xI (0)), some (.ireturn, 1, xN), some (.aload_n 0, 1, xN), some (.iload_n 1, 1, xN), some (.iconst 3, 1, xI (3)), some (.invokevirtual 294, 3, xN),
  none, none, some (.lstore_n 2, 1, xN), some (.aload_n 0, 1, xN), some (.iload_n 1, 1, xN), some (.iconst 3, 1, xI (3)), some (.invokevirtual 299, 3, xN), none,
  none, some (.bipush 35, 2, xI (35)), none, some (.if_icmp .ne (43), 3, xJ 182), none, none, some (.aload_n 0, 1, xN), some (.iload_n 1, 1, xN),
  some (.bipush 10, 2, xI (10)), none, some (.invokevirtual 306, 3, xN), none, none, some (.lstore 4, 2, xN), none, some (.aload_n 0, 1, xN),
  some (.bipush 6, 2, xI (6)), none, some (.lload 4, 2, xN), none, some (.lload_n 2, 1, xN), some (.iconst 4, 1, xI (4)), some (.invokevirtual 309, 3, xN), none,
  none, some (.istore 6, 2, xN), none, some (.iload 6, 2, xN), none, some (.iconst (-1), 1, xI (-1)), some (.if_icmp .ne (5), 3, xJ 171), none,
  none, some (.iconst 0, 1, xI (0)), some (.ireturn, 1, xN), some (.lload 4, 2, xN), none, some (.aload_n 0, 1, xN), some (.iload 6, 2, xN), none,
  some (.iconst 4, 1, xI (4)), some (.invokevirtual 173, 3, xN), none, none, some (.ladd, 1, xN), some (.lstore_n 2, 1, xN), some (.aload_n 0, 1, xN), some (.bipush 6, 2, xI (6)),
  none, some (.lload_n 2, 1, xN), some (.invokevirtual 240, 3, xN), none, none, some (.aload_n 0, 1, xN), some (.iload_n 1, 1, xN), some (.invokevirtual 350, 3, xN),
  none, none, some (.ireturn, 1, xN)]
def M_Mo_readRanges : am_Me := (⟨R_Mo, "readRanges", "(I)Z"⟩, prog_14_method_47_code, 7, (some .boolean), Y_Mo, cd_Mo_readRanges, 5, 129, 0, 0)
set_option maxRecDepth 100000 in
theorem ok_Mo_readRanges : am_ok S_m M_Mo_readRanges := am_ok_ofY (Y := Y_Mo) (cd := cd_Mo_readRanges) (by decide +kernel) rfl rfl rfl oY_Mo (by decide +kernel)
def cd_Mo_readValues : List (Option am_I) := [some (.iconst 1, 1, xI (1)), some (.istore_n 1, 1, xN), some (.iconst 0, 1, xI (0)), some (.istore_n 2, 1, xN), some (.iload_n 2, 1, xN), some (.aload_n 0, 1, xN), some (.getfield 257, 3, xF 0 22 0), none,
  none, some (.if_icmp .ge (99), 3, xJ 108), none, none, some (.iload_n 1, 1, xN), some (.ifCond .eq (95), 3, xJ 108), none, none,
  some (.aload_n 0, 1, xN), some (.getfield 108, 3, xF 0 34 2), none, none, some (.iload_n 2, 1, xN), some (.aload_n 0, 1, xN), some (.getfield 340, 3, xF 0 33 0), none,
  none, some (.iastore, 1, xN), some (.aload_n 0, 1, xN), some (.getfield 93, 3, xF 0 28 2), none, none, some (.iload_n 2, 1, xN), some (.iaload, 1, xN),
  some (.bipush 17, 2, xI (17)), none, some (.if_icmp .eq (36), 3, xJ 70), none, none, some (.aload_n 0, 1, xN), some (.getfield 93, 3, xF 0 28 2), none,
  none, some (.iload_n 2, 1, xN), some (.iaload, 1, xN), some (.bipush 46, 2, xI (46)), none, some (.if_icmp .eq (25), 3, xJ 70), none, none,
  some (.aload_n 0, 1, xN), some (.getfield 93, 3, xF 0 28 2), none, none, some (.iload_n 2, 1, xN), some (.iaload, 1, xN), some (.bipush 29, 2, xI (29)), none,
  some (.if_icmp .eq (14), 3, xJ 70), none, none, some (.aload_n 0, 1, xN), some (.getfield 93, 3, xF 0 28 2), none, none, some (.iload_n 2, 1, xN),
  some (.iaload, 1, xN), some (.bipush 11, 2, xI (11)), none, some (.if_icmp .ne (7), 3, xJ 74), none, none, some (.iconst 1, 1, xI (1)), some (.goto (4), 3, xJ 75),
  none, none, some (.iconst 0, 1, xI (0)), some (.istore_n 3, 1, xN), some (.iload_n 3, 1, xN), some (.ifCond .eq (19), 3, xJ 96), none, none,
  some (.aload_n 0, 1, xN), some (.iload_n 2, 1, xN), some (.invokevirtual 353, 3, xN), none, none, some (.ifCond .eq (15), 3, xJ 100), none, none,
  some (.aload_n 0, 1, xN), some (.iload_n 2, 1, xN), some (.invokevirtual 356, 3, xN), none, none, some (.ifCond .eq (7), 3, xJ 100), none, none,
  some (.iconst 1, 1, xI (1)), some (.goto (4), 3, xJ 101), none, none, some (.iconst 0, 1, xI (0)), some (.istore_n 1, 1, xN), some (.iinc 2 (1), 3, xI (1)), none,
  none, some (.goto (-101), 3, xJ 4), none, none, some (.aload_n 0, 1, xN), some (.getfield 108, 3, xF 0 34 2), none, none,
  some (.aload_n 0, 1, xN), some (.getfield 257, 3, xF 0 22 0), none, none, some (.aload_n 0, 1, xN), some (.getfield 340, 3, xF 0 33 0), none, none,
  some (.iastore, 1, xN), some (.iload_n 1, 1, xN), some (.ireturn, 1, xN)]
def M_Mo_readValues : am_Me := (⟨R_Mo, "readValues", "()Z"⟩, prog_14_method_48_code, 4, (some .boolean), Y_Mo, cd_Mo_readValues, 6, 155, 0, 0)
set_option maxRecDepth 100000 in
theorem ok_Mo_readValues : am_ok S_m M_Mo_readValues := am_ok_ofY (Y := Y_Mo) (cd := cd_Mo_readValues) (by decide +kernel) rfl rfl rfl oY_Mo (by decide +kernel)
def cd_Mo_begin : List (Option am_I) := [some (.aload_n 0, 1, xN), some (.lconst 0, 1, xL 0), some (.putfield 359, 3, xF 0 47 1), none, none, some (.aload_n 0, 1, xN), some (.lconst 1, 1, xL 1), some (.putfield 362, 3, xF 0 48 1),
  none, none, some (.aload_n 0, 1, xN), some (.iconst 1, 1, xI (1)), some (.putfield 365, 3, xF 0 49 0), none, none, some (.return_, 1, xN)]
def M_Mo_begin : am_Me := (⟨R_Mo, "begin", "()V"⟩, prog_14_method_49_code, 1, none, Y_Mo, cd_Mo_begin, 0, 0, 0, 0)
set_option maxRecDepth 100000 in
theorem ok_Mo_begin : am_ok S_m M_Mo_begin := am_ok_ofY (Y := Y_Mo) (cd := cd_Mo_begin) (by decide +kernel) rfl rfl rfl oY_Mo (by decide +kernel)
def cd_Mo_row : List (Option am_I) := [some (.aload_n 0, 1, xN), some (.getfield 368, 3, xF 0 38 0), none, none, some (.sipush 400, 3, xI (400)), none, none, some (.if_icmp .ne (5), 3, xJ 12),
  none, none, some (.iconst 0, 1, xI (0)), some (.ireturn, 1, xN), some (.aload_n 0, 1, xN), some (.getfield 132, 3, xF 0 44 2), none, none,
  some (.aload_n 0, 1, xN), some (.getfield 368, 3, xF 0 38 0), none, none, some (.aload_n 0, 1, xN), some (.getfield 359, 3, xF 0 47 1), none, none,
  some (.lastore, 1, xN), some (.aload_n 0, 1, xN), some (.getfield 135, 3, xF 0 45 2), none, none, some (.aload_n 0, 1, xN), some (.getfield 368, 3, xF 0 38 0), none,
  none, some (.aload_n 0, 1, xN), some (.getfield 362, 3, xF 0 48 1), none, none, some (.lastore, 1, xN), some (.aload_n 0, 1, xN), some (.getfield 123, 3, xF 0 41 2),
  none, none, some (.aload_n 0, 1, xN), some (.getfield 368, 3, xF 0 38 0), none, none, some (.aload_n 0, 1, xN), some (.getfield 365, 3, xF 0 49 0),
  none, none, some (.iastore, 1, xN), some (.aload_n 0, 1, xN), some (.getfield 138, 3, xF 0 46 2), none, none, some (.aload_n 0, 1, xN),
  some (.getfield 368, 3, xF 0 38 0), none, none, some (.iload_n 1, 1, xN), some (.bastore, 1, xJ 3), some (.aload_n 0, 1, xN), some (.dup, 1, xN), some (.getfield 368, 3, xF 0 38 0),
  none, none, some (.iconst 1, 1, xI (1)), some (.iadd, 1, xN), some (.putfield 368, 3, xF 0 38 0), none, none, some (.iconst 1, 1, xI (1)),
  some (.ireturn, 1, xN)]
def M_Mo_row : am_Me := (⟨R_Mo, "row", "(Z)Z"⟩, prog_14_method_50_code, 2, (some .boolean), Y_Mo, cd_Mo_row, 0, 0, 0, 0)
set_option maxRecDepth 100000 in
theorem ok_Mo_row : am_ok S_m M_Mo_row := am_ok_ofY (Y := Y_Mo) (cd := cd_Mo_row) (by decide +kernel) rfl rfl rfl oY_Mo (by decide +kernel)
def cd_Mo_readWhats : List (Option am_I) := [some (.iconst (-1), 1, xI (-1)), some (.istore_n 2, 1, xN), some (.iconst 0, 1, xI (0)), some (.istore_n 3, 1, xN), some (.iload_n 3, 1, xN), some (.iload_n 1, 1, xN), some (.if_icmp .ge (135), 3, xJ 141), none,
  none, some (.aload_n 0, 1, xN), some (.iconst 0, 1, xI (0)), some (.invokevirtual 227, 3, xN), none, none, some (.lstore 4, 2, xN), none,
  some (.aload_n 0, 1, xN), some (.iconst 0, 1, xI (0)), some (.invokevirtual 227, 3, xN), none, none, some (.lstore 6, 2, xN), none, some (.aload_n 0, 1, xN),
  some (.getfield 164, 3, xF 0 8 3), none, none, some (.ifCond .ne (78), 3, xJ 105), none, none, some (.lload 6, 2, xN), none,
  some (.ldc2_w 207, 3, xL (8)), none, none, some (.lcmp, 1, xN), some (.ifCond .eq (39), 3, xJ 75), none, none, some (.lload 6, 2, xN),
  none, some (.ldc2_w 371, 3, xL (31)), none, none, some (.lcmp, 1, xN), some (.ifCond .eq (30), 3, xJ 75), none, none,
  some (.lload 6, 2, xN), none, some (.ldc2_w 373, 3, xL (11)), none, none, some (.lcmp, 1, xN), some (.ifCond .eq (21), 3, xJ 75), none,
  none, some (.lload 6, 2, xN), none, some (.ldc2_w 282, 3, xL (5)), none, none, some (.lcmp, 1, xN), some (.ifCond .eq (12), 3, xJ 75),
  none, none, some (.lload 6, 2, xN), none, some (.ldc2_w 375, 3, xL (15)), none, none, some (.lcmp, 1, xN),
  some (.ifCond .ne (33), 3, xJ 105), none, none, some (.lload 4, 2, xN), none, some (.lconst 1, 1, xL 1), some (.lcmp, 1, xN), some (.ifCond .ne (29), 3, xJ 108),
  none, none, some (.iload_n 2, 1, xN), some (.iconst (-1), 1, xI (-1)), some (.if_icmp .ne (24), 3, xJ 108), none, none, some (.lload 6, 2, xN),
  none, some (.ldc2_w 207, 3, xL (8)), none, none, some (.lcmp, 1, xN), some (.ifCond .eq (15), 3, xJ 108), none, none,
  some (.lload 6, 2, xN), none, some (.ldc2_w 371, 3, xL (31)), none, none, some (.lcmp, 1, xN), some (.ifCond .eq (6), 3, xJ 108), none,
  none, some (.bipush (-2), 2, xI (-2)), none, some (.ireturn, 1, xN), some (.aload_n 0, 1, xN), some (.getfield 129, 3, xF 0 43 2), none, none,
  some (.iload_n 3, 1, xN), some (.lload 6, 2, xN), none, some (.l2i, 1, xN), some (.iastore, 1, xN), some (.lload 4, 2, xN), none, some (.lconst 1, 1, xL 1),
  some (.lcmp, 1, xN), some (.ifCond .ne (12), 3, xJ 133), none, none, some (.iload_n 2, 1, xN), some (.iconst (-1), 1, xI (-1)), some (.if_icmp .ne (7), 3, xJ 133), none,
  none, some (.iload_n 3, 1, xN), some (.goto (4), 3, xJ 134), none, none, some (.iload_n 2, 1, xN), some (.istore_n 2, 1, xN), some (.iinc 3 (1), 3, xI (1)),
  none, none, some (.goto (-134), 3, xJ 4), none, none, some (.iload_n 2, 1, xN), some (.ireturn, 1, xN)]
def M_Mo_readWhats : am_Me := (⟨R_Mo, "readWhats", "(I)I"⟩, prog_14_method_51_code, 8, (some .int), Y_Mo, cd_Mo_readWhats, 3, 71, 0, 0)
set_option maxRecDepth 100000 in
theorem ok_Mo_readWhats : am_ok S_m M_Mo_readWhats := am_ok_ofY (Y := Y_Mo) (cd := cd_Mo_readWhats) (by decide +kernel) rfl rfl rfl oY_Mo (by decide +kernel)
def cd_Mo_readOne : List (Option am_I) := [some (.iconst (-1), 1, xI (-1)), some (.istore_n 3, 1, xN), some (.iconst 0, 1, xI (0)), some (.istore 4, 2, xN), none, some (.iload 4, 2, xN), none, some (.iload_n 1, 1, xN),
  some (.if_icmp .ge (83), 3, xJ 91), none, none, some (.aload_n 0, 1, xN), some (.getfield 164, 3, xF 0 8 3), none, none, some (.ifCond .ne (76), 3, xJ 91),
  none, none, some (.aload_n 0, 1, xN), some (.aload_n 0, 1, xN), some (.getfield 129, 3, xF 0 43 2), none, none, some (.iload 4, 2, xN),
  none, some (.iaload, 1, xN), some (.lconst 0, 1, xL 0), some (.invokevirtual 266, 3, xN), none, none, some (.lstore 5, 2, xN), none,
  some (.iload 4, 2, xN), none, some (.iload_n 2, 1, xN), some (.if_icmp .ne (50), 3, xJ 85), none, none, some (.aload_n 0, 1, xN), some (.getfield 164, 3, xF 0 8 3),
  none, none, some (.ifCond .ne (43), 3, xJ 85), none, none, some (.aload_n 0, 1, xN), some (.getfield 129, 3, xF 0 43 2), none,
  none, some (.iload 4, 2, xN), none, some (.iaload, 1, xN), some (.bipush 8, 2, xI (8)), none, some (.if_icmp .ne (9), 3, xJ 63), none,
  none, some (.lload 5, 2, xN), none, some (.l2i, 1, xN), some (.goto (10), 3, xJ 70), none, none, some (.aload_n 0, 1, xN),
  some (.iconst 3, 1, xI (3)), some (.lload 5, 2, xN), none, some (.invokevirtual 302, 3, xN), none, none, some (.istore_n 3, 1, xN), some (.aload_n 0, 1, xN),
  some (.iload_n 3, 1, xN), some (.iconst (-1), 1, xI (-1)), some (.if_icmp .ne (7), 3, xJ 81), none, none, some (.iconst 1, 1, xI (1)), some (.goto (4), 3, xJ 82), none,
  none, some (.iconst 0, 1, xI (0)), some (.putfield 164, 3, xF 0 8 3), none, none, some (.iinc 4 (1), 3, xI (1)), none, none,
  some (.goto (-83), 3, xJ 5), none, none, some (.aload_n 0, 1, xN), some (.getfield 164, 3, xF 0 8 3), none, none, some (.ifCond .eq (8), 3, xJ 103),
  none, none, some (.bipush (-2), 2, xI (-2)), none, some (.goto (4), 3, xJ 104), none, none, some (.iload_n 3, 1, xN),
  some (.ireturn, 1, xN)]
def M_Mo_readOne : am_Me := (⟨R_Mo, "readOne", "(II)I"⟩, prog_14_method_52_code, 7, (some .int), Y_Mo, cd_Mo_readOne, 4, 94, 0, 0)
set_option maxRecDepth 100000 in
theorem ok_Mo_readOne : am_ok S_m M_Mo_readOne := am_ok_ofY (Y := Y_Mo) (cd := cd_Mo_readOne) (by decide +kernel) rfl rfl rfl oY_Mo (by decide +kernel)
def cd_Mo_readTable : List (Option am_I) := [some (.aload_n 0, 1, xN), some (.iconst 1, 1, xI (1)), some (.invokevirtual 177, 3, xN), none, none, some (.l2i, 1, xN), some (.istore_n 3, 1, xN), some (.aload_n 0, 1, xN),
  some (.getfield 164, 3, xF 0 8 3), none, none, some (.ifCond .ne (9), 3, xJ 20), none, none, some (.iload_n 3, 1, xN), some (.bipush 6, 2, xI (6)),
  none, some (.if_icmp .le (8), 3, xJ 25), none, none, some (.bipush (-2), 2, xI (-2)), none, some (.goto (8), 3, xJ 30), none,
  none, some (.aload_n 0, 1, xN), some (.iload_n 3, 1, xN), some (.invokevirtual 377, 3, xN), none, none, some (.istore 4, 2, xN), none,
  some (.aload_n 0, 1, xN), some (.iconst 0, 1, xI (0)), some (.invokevirtual 227, 3, xN), none, none, some (.lstore 5, 2, xN), none, some (.iload 4, 2, xN),
  none, some (.bipush (-2), 2, xI (-2)), none, some (.if_icmp .eq (26), 3, xJ 69), none, none, some (.aload_n 0, 1, xN), some (.getfield 164, 3, xF 0 8 3),
  none, none, some (.ifCond .ne (19), 3, xJ 69), none, none, some (.iload_n 2, 1, xN), some (.ifCond .eq (17), 3, xJ 71), none,
  none, some (.lload 5, 2, xN), none, some (.lconst 0, 1, xL 0), some (.ldc2_w 380, 3, xL (30)), none, none, some (.invokestatic 201, 3, xN),
  none, none, some (.ifCond .ne (5), 3, xJ 71), none, none, some (.iconst 0, 1, xI (0)), some (.ireturn, 1, xN), some (.iload_n 2, 1, xN),
  some (.ifCond .eq (12), 3, xJ 84), none, none, some (.aload_n 0, 1, xN), some (.getfield 117, 3, xF 0 39 2), none, none, some (.iload_n 1, 1, xN),
  some (.lload 5, 2, xN), none, some (.l2i, 1, xN), some (.iastore, 1, xN), some (.lconst 0, 1, xL 0), some (.lstore 7, 2, xN), none, some (.lload 7, 2, xN),
  none, some (.lload 5, 2, xN), none, some (.lcmp, 1, xN), some (.ifCond .lt (10), 3, xJ 102), none, none, some (.lload 5, 2, xN),
  none, some (.lconst 0, 1, xL 0), some (.lcmp, 1, xN), some (.ifCond .ge (7), 3, xJ 106), none, none, some (.iload_n 3, 1, xN), some (.ifCond .gt (15), 3, xJ 118),
  none, none, some (.iload_n 2, 1, xN), some (.ifCond .eq (57), 3, xJ 164), none, none, some (.lload 7, 2, xN), none,
  some (.lload 5, 2, xN), none, some (.lcmp, 1, xN), some (.ifCond .ge (49), 3, xJ 164), none, none, some (.aload_n 0, 1, xN), some (.iload_n 3, 1, xN),
  some (.iload 4, 2, xN), none, some (.invokevirtual 382, 3, xN), none, none, some (.istore 9, 2, xN), none, some (.iload 9, 2, xN),
  none, some (.bipush (-2), 2, xI (-2)), none, some (.if_icmp .ne (5), 3, xJ 136), none, none, some (.iconst 0, 1, xI (0)), some (.ireturn, 1, xN),
  some (.iload_n 2, 1, xN), some (.ifCond .eq (18), 3, xJ 155), none, none, some (.aload_n 0, 1, xN), some (.getfield 120, 3, xF 0 40 2), none, none,
  some (.bipush 30, 2, xI (30)), none, some (.iload_n 1, 1, xN), some (.imul, 1, xN), some (.lload 7, 2, xN), none, some (.l2i, 1, xN), some (.iadd, 1, xN),
  some (.iload 9, 2, xN), none, some (.iastore, 1, xN), some (.lload 7, 2, xN), none, some (.lconst 1, 1, xL 1), some (.ladd, 1, xN), some (.lstore 7, 2, xN),
  none, some (.goto (-74), 3, xJ 87), none, none, some (.iconst 1, 1, xI (1)), some (.ireturn, 1, xN)]
def M_Mo_readTable : am_Me := (⟨R_Mo, "readTable", "(IZ)Z"⟩, prog_14_method_53_code, 10, (some .boolean), Y_Mo, cd_Mo_readTable, 5, 120, 0, 0)
set_option maxRecDepth 100000 in
theorem ok_Mo_readTable : am_ok S_m M_Mo_readTable := am_ok_ofY (Y := Y_Mo) (cd := cd_Mo_readTable) (by decide +kernel) rfl rfl rfl oY_Mo (by decide +kernel)
def cd_Mo_longCode : List (Option am_I) := [some (.aload_n 0, 1, xN), some (.iconst 0, 1, xI (0)), some (.invokevirtual 227, 3, xN), none, none, some (.lstore_n 1, 1, xN), some (.aload_n 0, 1, xN), some (.getfield 164, 3, xF 0 8 3),
  none, none, some (.ifCond .ne (21), 3, xJ 31), none, none, some (.lload_n 1, 1, xN), some (.lconst 1, 1, xL 1), some (.aload_n 0, 1, xN),
  some (.getfield 170, 3, xF 0 7 0), none, none, some (.aload_n 0, 1, xN), some (.getfield 167, 3, xF 0 6 0), none, none, some (.isub, 1, xN),
  some (.i2l, 1, xN), some (.invokestatic 201, 3, xN), none, none, some (.ifCond .ne (5), 3, xJ 33), none, none, some (.iconst 0, 1, xI (0)),
  some (.ireturn, 1, xN), some (.aload_n 0, 1, xN), some (.getfield 167, 3, xF 0 6 0), none, none, some (.lload_n 1, 1, xN), some (.l2i, 1, xN), some (.iadd, 1, xN),
  some (.istore_n 3, 1, xN), some (.aload_n 0, 1, xN), some (.iconst 1, 1, xI (1)), some (.invokevirtual 177, 3, xN), none, none, some (.l2i, 1, xN), some (.istore 4, 2, xN),
  none, some (.iconst 1, 1, xI (1)), some (.istore 5, 2, xN), none, some (.iload 4, 2, xN), none, some (.iconst 1, 1, xI (1)), some (.if_icmp .ne (17), 3, xJ 72),
  none, none, some (.aload_n 0, 1, xN), some (.iconst 1, 1, xI (1)), some (.invokevirtual 385, 3, xN), none, none, some (.istore 5, 2, xN),
  none, some (.aload_n 0, 1, xN), some (.invokevirtual 389, 3, xN), none, none, some (.goto (43), 3, xJ 112), none, none,
  some (.iload 4, 2, xN), none, some (.iconst 2, 1, xI (2)), some (.if_icmp .ne (37), 3, xJ 112), none, none, some (.lload_n 1, 1, xN), some (.ldc2_w 392, 3, xL (9)),
  none, none, some (.lcmp, 1, xN), some (.ifCond .lt (7), 3, xJ 90), none, none, some (.iconst 1, 1, xI (1)), some (.goto (4), 3, xJ 91),
  none, none, some (.iconst 0, 1, xI (0)), some (.istore 5, 2, xN), none, some (.aload_n 0, 1, xN), some (.iload 5, 2, xN), none,
  some (.ifCond .eq (12), 3, xJ 108), none, none, some (.aload_n 0, 1, xN), some (.bipush 8, 2, xI (8)), none, some (.invokevirtual 177, 3, xN), none,
  none, some (.goto (4), 3, xJ 109), none, none, some (.lconst 0, 1, xL 0), some (.putfield 359, 3, xF 0 47 1), none, none,
  some (.aload_n 0, 1, xN), some (.iload_n 3, 1, xN), some (.putfield 167, 3, xF 0 6 0), none, none, some (.iload 5, 2, xN), none, some (.ireturn, 1, xN)]
def M_Mo_longCode : am_Me := (⟨R_Mo, "longCode", "()Z"⟩, prog_14_method_54_code, 6, (some .boolean), Y_Mo, cd_Mo_longCode, 3, 71, 0, 0)
set_option maxRecDepth 100000 in
theorem ok_Mo_longCode : am_ok S_m M_Mo_longCode := am_ok_ofY (Y := Y_Mo) (cd := cd_Mo_longCode) (by decide +kernel) rfl rfl rfl oY_Mo (by decide +kernel)
def cd_Mo_code : List (Option am_I) := [some (.iload_n 1, 1, xN), some (.aload_n 0, 1, xN), some (.getfield 394, 3, xF 0 50 0), none, none, some (.if_icmp .lt (55), 3, xJ 60), none, none,
  some (.aload_n 0, 1, xN), some (.dup, 1, xN), some (.getfield 359, 3, xF 0 47 1), none, none, some (.iload_n 1, 1, xN), some (.aload_n 0, 1, xN), some (.getfield 394, 3, xF 0 50 0),
  none, none, some (.isub, 1, xN), some (.aload_n 0, 1, xN), some (.getfield 397, 3, xF 0 53 0), none, none, some (.idiv, 1, xN),
  some (.i2l, 1, xN), some (.ladd, 1, xN), some (.putfield 359, 3, xF 0 47 1), none, none, some (.aload_n 0, 1, xN), some (.dup, 1, xN), some (.getfield 365, 3, xF 0 49 0),
  none, none, some (.aload_n 0, 1, xN), some (.getfield 400, 3, xF 0 52 0), none, none, some (.iload_n 1, 1, xN), some (.aload_n 0, 1, xN),
  some (.getfield 394, 3, xF 0 50 0), none, none, some (.isub, 1, xN), some (.aload_n 0, 1, xN), some (.getfield 397, 3, xF 0 53 0), none, none,
  some (.irem, 1, xN), some (.iadd, 1, xN), some (.iadd, 1, xN), some (.putfield 365, 3, xF 0 49 0), none, none, some (.aload_n 0, 1, xN), some (.iconst 0, 1, xI (0)),
  some (.invokevirtual 385, 3, xN), none, none, some (.ireturn, 1, xN), some (.iload_n 1, 1, xN), some (.tableswitch (205) (0) (11) #[63, 68, 74, 101, 129, 205, 151, 151, 153, 178, 151, 151], 63, xN), none, none,
  none, none, none, none, none, none, none, none,
  none, none, none, none, none, none, none, none,
  none, none, none, none, none, none, none, none,
  none, none, none, none, none, none, none, none,
  none, none, none, none, none, none, none, none,
  none, none, none, none, none, none, none, none,
  none, none, none, none, none, none, none, none,
  none, none, none, none, some (.aload_n 0, 1, xN), some (.invokevirtual 403, 3, xN), none, none,
  some (.ireturn, 1, xN), some (.aload_n 0, 1, xN), some (.iconst 0, 1, xI (0)), some (.invokevirtual 385, 3, xN), none, none, some (.ireturn, 1, xN), some (.aload_n 0, 1, xN),
  some (.dup, 1, xN), some (.getfield 359, 3, xF 0 47 1), none, none, some (.aload_n 0, 1, xN), some (.iconst 0, 1, xI (0)), some (.invokevirtual 227, 3, xN), none,
  none, some (.ladd, 1, xN), some (.putfield 359, 3, xF 0 47 1), none, none, some (.aload_n 0, 1, xN), some (.getfield 164, 3, xF 0 8 3), none,
  none, some (.ifCond .ne (7), 3, xJ 160), none, none, some (.iconst 1, 1, xI (1)), some (.goto (4), 3, xJ 161), none, none,
  some (.iconst 0, 1, xI (0)), some (.ireturn, 1, xN), some (.aload_n 0, 1, xN), some (.dup, 1, xN), some (.getfield 365, 3, xF 0 49 0), none, none, some (.aload_n 0, 1, xN),
  some (.iconst 1, 1, xI (1)), some (.invokevirtual 227, 3, xN), none, none, some (.l2i, 1, xN), some (.iadd, 1, xN), some (.putfield 365, 3, xF 0 49 0), none,
  none, some (.aload_n 0, 1, xN), some (.getfield 164, 3, xF 0 8 3), none, none, some (.ifCond .ne (7), 3, xJ 188), none, none,
  some (.iconst 1, 1, xI (1)), some (.goto (4), 3, xJ 189), none, none, some (.iconst 0, 1, xI (0)), some (.ireturn, 1, xN), some (.aload_n 0, 1, xN), some (.aload_n 0, 1, xN),
  some (.iconst 0, 1, xI (0)), some (.invokevirtual 227, 3, xN), none, none, some (.putfield 362, 3, xF 0 48 1), none, none, some (.aload_n 0, 1, xN),
  some (.getfield 164, 3, xF 0 8 3), none, none, some (.ifCond .ne (7), 3, xJ 210), none, none, some (.iconst 1, 1, xI (1)), some (.goto (4), 3, xJ 211),
  none, none, some (.iconst 0, 1, xI (0)), some (.ireturn, 1, xN), some (.iconst 1, 1, xI (1)), some (.ireturn, 1, xN), some (.aload_n 0, 1, xN), some (.dup, 1, xN),
  some (.getfield 359, 3, xF 0 47 1), none, none, some (.sipush 255, 3, xI (255)), none, none, some (.aload_n 0, 1, xN), some (.getfield 394, 3, xF 0 50 0),
  none, none, some (.isub, 1, xN), some (.aload_n 0, 1, xN), some (.getfield 397, 3, xF 0 53 0), none, none, some (.idiv, 1, xN),
  some (.i2l, 1, xN), some (.ladd, 1, xN), some (.putfield 359, 3, xF 0 47 1), none, none, some (.iconst 1, 1, xI (1)), some (.ireturn, 1, xN), some (.aload_n 0, 1, xN),
  some (.dup, 1, xN), some (.getfield 359, 3, xF 0 47 1), none, none, some (.aload_n 0, 1, xN), some (.iconst 2, 1, xI (2)), some (.invokevirtual 177, 3, xN), none,
  none, some (.ladd, 1, xN), some (.putfield 359, 3, xF 0 47 1), none, none, some (.aload_n 0, 1, xN), some (.getfield 164, 3, xF 0 8 3), none,
  none, some (.ifCond .ne (7), 3, xJ 264), none, none, some (.iconst 1, 1, xI (1)), some (.goto (4), 3, xJ 265), none, none,
  some (.iconst 0, 1, xI (0)), some (.ireturn, 1, xN), some (.iload_n 1, 1, xN), some (.iconst 5, 1, xI (5)), some (.if_icmp .eq (9), 3, xJ 277), none, none, some (.iload_n 1, 1, xN),
  some (.bipush 12, 2, xI (12)), none, some (.if_icmp .ne (7), 3, xJ 281), none, none, some (.iconst 1, 1, xI (1)), some (.goto (20), 3, xJ 298), none,
  none, some (.aload_n 0, 1, xN), some (.getfield 45, 3, xF 0 2 2), none, none, some (.aload_n 0, 1, xN), some (.getfield 406, 3, xF 0 51 0), none,
  none, some (.iload_n 1, 1, xN), some (.iadd, 1, xN), some (.iconst 1, 1, xI (1)), some (.isub, 1, xN), some (.baload, 1, xJ 2), some (.sipush 255, 3, xI (255)), none,
  none, some (.iand, 1, xN), some (.istore_n 2, 1, xN), some (.iconst 0, 1, xI (0)), some (.istore_n 3, 1, xN), some (.iload_n 3, 1, xN), some (.iload_n 2, 1, xN), some (.if_icmp .ge (16), 3, xJ 319),
  none, none, some (.aload_n 0, 1, xN), some (.iconst 0, 1, xI (0)), some (.invokevirtual 227, 3, xN), none, none, some (.lstore 4, 2, xN),
  none, some (.iinc 3 (1), 3, xI (1)), none, none, some (.goto (-15), 3, xJ 301), none, none, some (.aload_n 0, 1, xN),
  some (.getfield 164, 3, xF 0 8 3), none, none, some (.ifCond .ne (7), 3, xJ 330), none, none, some (.iconst 1, 1, xI (1)), some (.goto (4), 3, xJ 331),
  none, none, some (.iconst 0, 1, xI (0)), some (.ireturn, 1, xN)]
def M_Mo_code : am_Me := (⟨R_Mo, "code", "(I)Z"⟩, prog_14_method_55_code, 6, (some .boolean), Y_Mo, cd_Mo_code, 4, 96, 0, 0)
set_option maxRecDepth 100000 in
theorem ok_Mo_code : am_ok S_m M_Mo_code := am_ok_ofY (Y := Y_Mo) (cd := cd_Mo_code) (by decide +kernel) rfl rfl rfl oY_Mo (by decide +kernel)
def cd_Mo_readLines : List (Option am_I) := [some (.aload_n 0, 1, xN), some (.bipush 7, 2, xI (7)), none, some (.aload_n 0, 1, xN), some (.aload_n 0, 1, xN), some (.getfield 84, 3, xF 0 25 2), none, none,
  some (.iload_n 1, 1, xN), some (.iaload, 1, xN), some (.bipush 7, 2, xI (7)), none, some (.invokevirtual 294, 3, xN), none, none, some (.invokevirtual 240, 3, xN),
  none, none, some (.aload_n 0, 1, xN), some (.iconst 4, 1, xI (4)), some (.invokevirtual 177, 3, xN), none, none, some (.lstore_n 2, 1, xN),
  some (.aload_n 0, 1, xN), some (.getfield 164, 3, xF 0 8 3), none, none, some (.ifCond .ne (18), 3, xJ 46), none, none, some (.lload_n 2, 1, xN),
  some (.aload_n 0, 1, xN), some (.getfield 170, 3, xF 0 7 0), none, none, some (.aload_n 0, 1, xN), some (.getfield 167, 3, xF 0 6 0), none, none,
  some (.isub, 1, xN), some (.i2l, 1, xN), some (.lcmp, 1, xN), some (.ifCond .le (5), 3, xJ 48), none, none, some (.iconst 0, 1, xI (0)), some (.ireturn, 1, xN),
  some (.aload_n 0, 1, xN), some (.aload_n 0, 1, xN), some (.getfield 167, 3, xF 0 6 0), none, none, some (.lload_n 2, 1, xN), some (.l2i, 1, xN), some (.iadd, 1, xN),
  some (.putfield 170, 3, xF 0 7 0), none, none, some (.aload_n 0, 1, xN), some (.iconst 2, 1, xI (2)), some (.invokevirtual 177, 3, xN), none, none,
  some (.ldc2_w 282, 3, xL (5)), none, none, some (.lcmp, 1, xN), some (.ifCond .ne (7), 3, xJ 75), none, none, some (.iconst 1, 1, xI (1)),
  some (.goto (4), 3, xJ 76), none, none, some (.iconst 0, 1, xI (0)), some (.istore 4, 2, xN), none, some (.aload_n 0, 1, xN), some (.iconst 1, 1, xI (1)),
  some (.invokevirtual 177, 3, xN), none, none, some (.ldc2_w 207, 3, xL (8)), none, none, some (.lcmp, 1, xN), some (.ifCond .ne (12), 3, xJ 99),
  none, none, some (.iload 4, 2, xN), none, some (.ifCond .eq (7), 3, xJ 99), none, none, some (.iconst 1, 1, xI (1)),
  some (.goto (4), 3, xJ 100), none, none, some (.iconst 0, 1, xI (0)), some (.istore 4, 2, xN), none, some (.aload_n 0, 1, xN), some (.iconst 1, 1, xI (1)),
  some (.invokevirtual 177, 3, xN), none, none, some (.lconst 0, 1, xL 0), some (.lcmp, 1, xN), some (.ifCond .ne (12), 3, xJ 121), none, none,
  some (.iload 4, 2, xN), none, some (.ifCond .eq (7), 3, xJ 121), none, none, some (.iconst 1, 1, xI (1)), some (.goto (4), 3, xJ 122), none,
  none, some (.iconst 0, 1, xI (0)), some (.istore 4, 2, xN), none, some (.aload_n 0, 1, xN), some (.iconst 4, 1, xI (4)), some (.invokevirtual 177, 3, xN), none,
  none, some (.lstore 5, 2, xN), none, some (.aload_n 0, 1, xN), some (.getfield 164, 3, xF 0 8 3), none, none, some (.ifCond .ne (24), 3, xJ 159),
  none, none, some (.iload 4, 2, xN), none, some (.ifCond .eq (19), 3, xJ 159), none, none, some (.lload 5, 2, xN),
  none, some (.aload_n 0, 1, xN), some (.getfield 170, 3, xF 0 7 0), none, none, some (.aload_n 0, 1, xN), some (.getfield 167, 3, xF 0 6 0), none,
  none, some (.isub, 1, xN), some (.i2l, 1, xN), some (.lcmp, 1, xN), some (.ifCond .le (5), 3, xJ 161), none, none, some (.iconst 0, 1, xI (0)),
  some (.ireturn, 1, xN), some (.aload_n 0, 1, xN), some (.getfield 167, 3, xF 0 6 0), none, none, some (.lload 5, 2, xN), none, some (.l2i, 1, xN),
  some (.iadd, 1, xN), some (.istore 7, 2, xN), none, some (.aload_n 0, 1, xN), some (.iconst 1, 1, xI (1)), some (.invokevirtual 177, 3, xN), none, none,
  some (.lconst 1, 1, xL 1), some (.lcmp, 1, xN), some (.ifCond .ne (7), 3, xJ 185), none, none, some (.iconst 1, 1, xI (1)), some (.goto (4), 3, xJ 186), none,
  none, some (.iconst 0, 1, xI (0)), some (.istore 4, 2, xN), none, some (.aload_n 0, 1, xN), some (.iconst 1, 1, xI (1)), some (.invokevirtual 177, 3, xN), none,
  none, some (.lconst 1, 1, xL 1), some (.lcmp, 1, xN), some (.ifCond .ne (12), 3, xJ 207), none, none, some (.iload 4, 2, xN), none,
  some (.ifCond .eq (7), 3, xJ 207), none, none, some (.iconst 1, 1, xI (1)), some (.goto (4), 3, xJ 208), none, none, some (.iconst 0, 1, xI (0)),
  some (.istore 4, 2, xN), none, some (.aload_n 0, 1, xN), some (.lconst 1, 1, xL 1), some (.invokevirtual 187, 3, xN), none, none, some (.aload_n 0, 1, xN),
  some (.aload_n 0, 1, xN), some (.iconst 1, 1, xI (1)), some (.invokevirtual 177, 3, xN), none, none, some (.l2i, 1, xN), some (.i2b, 1, xN), some (.putfield 400, 3, xF 0 52 0),
  none, none, some (.aload_n 0, 1, xN), some (.aload_n 0, 1, xN), some (.iconst 1, 1, xI (1)), some (.invokevirtual 177, 3, xN), none, none,
  some (.l2i, 1, xN), some (.putfield 397, 3, xF 0 53 0), none, none, some (.aload_n 0, 1, xN), some (.aload_n 0, 1, xN), some (.iconst 1, 1, xI (1)), some (.invokevirtual 177, 3, xN),
  none, none, some (.l2i, 1, xN), some (.putfield 394, 3, xF 0 50 0), none, none, some (.aload_n 0, 1, xN), some (.aload_n 0, 1, xN),
  some (.getfield 167, 3, xF 0 6 0), none, none, some (.putfield 406, 3, xF 0 51 0), none, none, some (.aload_n 0, 1, xN), some (.aload_n 0, 1, xN),
  some (.getfield 394, 3, xF 0 50 0), none, none, some (.i2l, 1, xN), some (.lconst 1, 1, xL 1), some (.lsub, 1, xN), some (.invokevirtual 187, 3, xN), none,
  none, some (.iload 4, 2, xN), none, some (.ifCond .eq (38), 3, xJ 305), none, none, some (.aload_n 0, 1, xN), some (.getfield 164, 3, xF 0 8 3),
  none, none, some (.ifCond .ne (31), 3, xJ 305), none, none, some (.aload_n 0, 1, xN), some (.getfield 397, 3, xF 0 53 0), none,
  none, some (.ifCond .le (24), 3, xJ 305), none, none, some (.aload_n 0, 1, xN), some (.getfield 394, 3, xF 0 50 0), none, none,
  some (.i2l, 1, xN), some (.ldc2_w 409, 3, xL (10)), none, none, some (.ldc2_w 411, 3, xL (200)), none, none, some (.invokestatic 201, 3, xN),
  none, none, some (.ifCond .eq (7), 3, xJ 305), none, none, some (.iconst 1, 1, xI (1)), some (.goto (4), 3, xJ 306), none,
  none, some (.iconst 0, 1, xI (0)), some (.istore 4, 2, xN), none, some (.iload 4, 2, xN), none, some (.ifCond .eq (34), 3, xJ 344), none,
  none, some (.aload_n 0, 1, xN), some (.iload_n 1, 1, xN), some (.iconst 0, 1, xI (0)), some (.invokevirtual 413, 3, xN), none, none, some (.ifCond .eq (25), 3, xJ 344),
  none, none, some (.aload_n 0, 1, xN), some (.iload_n 1, 1, xN), some (.iconst 1, 1, xI (1)), some (.invokevirtual 413, 3, xN), none, none,
  some (.ifCond .eq (16), 3, xJ 344), none, none, some (.aload_n 0, 1, xN), some (.getfield 167, 3, xF 0 6 0), none, none, some (.iload 7, 2, xN),
  none, some (.if_icmp .gt (7), 3, xJ 344), none, none, some (.iconst 1, 1, xI (1)), some (.goto (4), 3, xJ 345), none, none,
  some (.iconst 0, 1, xI (0)), some (.istore 4, 2, xN), none, some (.aload_n 0, 1, xN), some (.invokevirtual 389, 3, xN), none, none, some (.aload_n 0, 1, xN),
  some (.iload 7, 2, xN), none, some (.putfield 167, 3, xF 0 6 0), none, none, some (.iload 4, 2, xN), none, some (.ifCond .eq (33), 3, xJ 392),
  none, none, some (.aload_n 0, 1, xN), some (.getfield 167, 3, xF 0 6 0), none, none, some (.aload_n 0, 1, xN), some (.getfield 170, 3, xF 0 7 0),
  none, none, some (.if_icmp .ge (22), 3, xJ 392), none, none, some (.aload_n 0, 1, xN), some (.iconst 1, 1, xI (1)), some (.invokevirtual 177, 3, xN),
  none, none, some (.l2i, 1, xN), some (.istore 8, 2, xN), none, some (.aload_n 0, 1, xN), some (.iload 8, 2, xN), none,
  some (.invokevirtual 417, 3, xN), none, none, some (.istore 4, 2, xN), none, some (.goto (-32), 3, xJ 357), none, none,
  some (.iload 4, 2, xN), none, some (.ifCond .eq (14), 3, xJ 408), none, none, some (.aload_n 0, 1, xN), some (.getfield 164, 3, xF 0 8 3), none,
  none, some (.ifCond .ne (7), 3, xJ 408), none, none, some (.iconst 1, 1, xI (1)), some (.goto (4), 3, xJ 409), none, none,
  some (.iconst 0, 1, xI (0)), some (.ireturn, 1, xN)]
def M_Mo_readLines : am_Me := (⟨R_Mo, "readLines", "(I)Z"⟩, prog_14_method_56_code, 9, (some .boolean), Y_Mo, cd_Mo_readLines, 6, 149, 0, 0)
set_option maxRecDepth 100000 in
theorem ok_Mo_readLines : am_ok S_m M_Mo_readLines := am_ok_ofY (Y := Y_Mo) (cd := cd_Mo_readLines) (by decide +kernel) rfl rfl rfl oY_Mo (by decide +kernel)
def cd_Mo_readAllLines : List (Option am_I) := [some (.iconst 1, 1, xI (1)), some (.istore_n 1, 1, xN), some (.iconst 0, 1, xI (0)), some (.istore_n 2, 1, xN), some (.iload_n 2, 1, xN), some (.aload_n 0, 1, xN), some (.getfield 263, 3, xF 0 21 0), none,
  none, some (.if_icmp .ge (59), 3, xJ 68), none, none, some (.iload_n 1, 1, xN), some (.ifCond .eq (55), 3, xJ 68), none, none,
  some (.aload_n 0, 1, xN), some (.getfield 126, 3, xF 0 42 2), none, none, some (.iload_n 2, 1, xN), some (.aload_n 0, 1, xN), some (.getfield 368, 3, xF 0 38 0), none,
  none, some (.iastore, 1, xN), some (.aload_n 0, 1, xN), some (.getfield 117, 3, xF 0 39 2), none, none, some (.iload_n 2, 1, xN), some (.iconst 0, 1, xI (0)),
  some (.iastore, 1, xN), some (.aload_n 0, 1, xN), some (.aload_n 0, 1, xN), some (.getfield 84, 3, xF 0 25 2), none, none, some (.iload_n 2, 1, xN), some (.iaload, 1, xN),
  some (.bipush 7, 2, xI (7)), none, some (.invokevirtual 290, 3, xN), none, none, some (.ifCond .eq (11), 3, xJ 56), none, none,
  some (.aload_n 0, 1, xN), some (.iload_n 2, 1, xN), some (.invokevirtual 420, 3, xN), none, none, some (.ifCond .eq (7), 3, xJ 60), none, none,
  some (.iconst 1, 1, xI (1)), some (.goto (4), 3, xJ 61), none, none, some (.iconst 0, 1, xI (0)), some (.istore_n 1, 1, xN), some (.iinc 2 (1), 3, xI (1)), none,
  none, some (.goto (-61), 3, xJ 4), none, none, some (.aload_n 0, 1, xN), some (.getfield 126, 3, xF 0 42 2), none, none,
  some (.aload_n 0, 1, xN), some (.getfield 263, 3, xF 0 21 0), none, none, some (.aload_n 0, 1, xN), some (.getfield 368, 3, xF 0 38 0), none, none,
  some (.iastore, 1, xN), some (.iload_n 1, 1, xN), some (.ireturn, 1, xN)]
def M_Mo_readAllLines : am_Me := (⟨R_Mo, "readAllLines", "()Z"⟩, prog_14_method_57_code, 3, (some .boolean), Y_Mo, cd_Mo_readAllLines, 7, 177, 0, 0)
set_option maxRecDepth 100000 in
theorem ok_Mo_readAllLines : am_ok S_m M_Mo_readAllLines := am_ok_ofY (Y := Y_Mo) (cd := cd_Mo_readAllLines) (by decide +kernel) rfl rfl rfl oY_Mo (by decide +kernel)
def cd_Mo_readSymbols : List (Option am_I) := [some (.aload_n 0, 1, xN), some (.aload_n 0, 1, xN), some (.getfield 53, 3, xF 0 11 2), none, none, some (.bipush 8, 2, xI (8)), none, some (.iaload, 1, xN),
  some (.bipush 24, 2, xI (24)), none, some (.idiv, 1, xN), some (.putfield 423, 3, xF 0 54 0), none, none, some (.aload_n 0, 1, xN), some (.getfield 53, 3, xF 0 11 2),
  none, none, some (.bipush 8, 2, xI (8)), none, some (.iaload, 1, xN), some (.bipush 24, 2, xI (24)), none, some (.irem, 1, xN),
  some (.ifCond .ne (16), 3, xJ 40), none, none, some (.aload_n 0, 1, xN), some (.getfield 423, 3, xF 0 54 0), none, none, some (.bipush 60, 2, xI (60)),
  none, some (.if_icmp .gt (7), 3, xJ 40), none, none, some (.iconst 1, 1, xI (1)), some (.goto (4), 3, xJ 41), none, none,
  some (.iconst 0, 1, xI (0)), some (.istore_n 1, 1, xN), some (.iconst 0, 1, xI (0)), some (.istore_n 2, 1, xN), some (.iload_n 2, 1, xN), some (.aload_n 0, 1, xN), some (.getfield 423, 3, xF 0 54 0), none,
  none, some (.if_icmp .ge (46), 3, xJ 95), none, none, some (.iload_n 1, 1, xN), some (.ifCond .eq (42), 3, xJ 95), none, none,
  some (.aload_n 0, 1, xN), some (.bipush 9, 2, xI (9)), none, some (.aload_n 0, 1, xN), some (.aload_n 0, 1, xN), some (.getfield 49, 3, xF 0 10 2), none, none,
  some (.bipush 8, 2, xI (8)), none, some (.iaload, 1, xN), some (.bipush 24, 2, xI (24)), none, some (.iload_n 2, 1, xN), some (.imul, 1, xN), some (.iadd, 1, xN),
  some (.iconst 4, 1, xI (4)), some (.invokevirtual 173, 3, xN), none, none, some (.invokevirtual 302, 3, xN), none, none, some (.iconst (-1), 1, xI (-1)),
  some (.if_icmp .eq (7), 3, xJ 87), none, none, some (.iconst 1, 1, xI (1)), some (.goto (4), 3, xJ 88), none, none, some (.iconst 0, 1, xI (0)),
  some (.istore_n 1, 1, xN), some (.iinc 2 (1), 3, xI (1)), none, none, some (.goto (-48), 3, xJ 44), none, none, some (.iload_n 1, 1, xN),
  some (.ireturn, 1, xN)]
def M_Mo_readSymbols : am_Me := (⟨R_Mo, "readSymbols", "()Z"⟩, prog_14_method_58_code, 3, (some .boolean), Y_Mo, cd_Mo_readSymbols, 2, 48, 0, 0)
set_option maxRecDepth 100000 in
theorem ok_Mo_readSymbols : am_ok S_m M_Mo_readSymbols := am_ok_ofY (Y := Y_Mo) (cd := cd_Mo_readSymbols) (by decide +kernel) rfl rfl rfl oY_Mo (by decide +kernel)
def cd_Mo_open : List (Option am_I) := [some (.aload_n 0, 1, xN), some (.invokevirtual 151, 3, xN), none, none, some (.aload_n 0, 1, xN), some (.iconst 0, 1, xI (0)), some (.putfield 213, 3, xF 0 9 0), none,
  none, some (.aload_n 0, 1, xN), some (.iconst 0, 1, xI (0)), some (.putfield 263, 3, xF 0 21 0), none, none, some (.aload_n 0, 1, xN), some (.iconst 0, 1, xI (0)),
  some (.putfield 257, 3, xF 0 22 0), none, none, some (.aload_n 0, 1, xN), some (.iconst 0, 1, xI (0)), some (.putfield 340, 3, xF 0 33 0), none, none,
  some (.aload_n 0, 1, xN), some (.iconst 0, 1, xI (0)), some (.putfield 368, 3, xF 0 38 0), none, none, some (.aload_n 0, 1, xN), some (.aload_n 0, 1, xN), some (.invokevirtual 426, 3, xN),
  none, none, some (.ifCond .ne (7), 3, xJ 41), none, none, some (.iconst 1, 1, xI (1)), some (.goto (48), 3, xJ 86), none,
  none, some (.aload_n 0, 1, xN), some (.invokevirtual 429, 3, xN), none, none, some (.ifCond .ne (7), 3, xJ 52), none, none,
  some (.iconst 2, 1, xI (2)), some (.goto (37), 3, xJ 86), none, none, some (.aload_n 0, 1, xN), some (.invokevirtual 432, 3, xN), none, none,
  some (.ifCond .ne (7), 3, xJ 63), none, none, some (.iconst 3, 1, xI (3)), some (.goto (26), 3, xJ 86), none, none, some (.aload_n 0, 1, xN),
  some (.invokevirtual 435, 3, xN), none, none, some (.ifCond .ne (7), 3, xJ 74), none, none, some (.iconst 4, 1, xI (4)), some (.goto (15), 3, xJ 86),
  none, none, some (.aload_n 0, 1, xN), some (.invokevirtual 438, 3, xN), none, none, some (.ifCond .ne (7), 3, xJ 85), none,
  none, some (.iconst 5, 1, xI (5)), some (.goto (4), 3, xJ 86), none, none, some (.iconst 0, 1, xI (0)), some (.putfield 441, 3, xF 0 4 0), none,
  none, some (.aload_n 0, 1, xN), some (.aload_n 0, 1, xN), some (.getfield 441, 3, xF 0 4 0), none, none, some (.ifCond .ne (7), 3, xJ 101), none,
  none, some (.iconst 1, 1, xI (1)), some (.goto (4), 3, xJ 102), none, none, some (.iconst 0, 1, xI (0)), some (.putfield 154, 3, xF 0 5 3), none,
  none, some (.aload_n 0, 1, xN), some (.aload_n 0, 1, xN), some (.getfield 154, 3, xF 0 5 3), none, none, some (.ifCond .eq (7), 3, xJ 117), none,
  none, some (.iconst 0, 1, xI (0)), some (.goto (4), 3, xJ 118), none, none, some (.iconst 1, 1, xI (1)), some (.putfield 144, 3, xF 0 1 0), none,
  none, some (.aload_n 0, 1, xN), some (.getfield 154, 3, xF 0 5 3), none, none, some (.ifCond .eq (10), 3, xJ 135), none, none,
  some (.aload_n 0, 1, xN), some (.getfield 257, 3, xF 0 22 0), none, none, some (.goto (4), 3, xJ 136), none, none, some (.iconst 0, 1, xI (0)),
  some (.ireturn, 1, xN)]
def M_Mo_open : am_Me := (⟨R_Mo, "open", "()I"⟩, prog_14_method_59_code, 1, (some .int), Y_Mo, cd_Mo_open, 8, 204, 0, 0)
set_option maxRecDepth 100000 in
theorem ok_Mo_open : am_ok S_m M_Mo_open := am_ok_ofY (Y := Y_Mo) (cd := cd_Mo_open) (by decide +kernel) rfl rfl rfl oY_Mo (by decide +kernel)
def cd_Mo_fault : List (Option am_I) := [some (.aload_n 0, 1, xN), some (.iconst 0, 1, xI (0)), some (.putfield 144, 3, xF 0 1 0), none, none, some (.aload_n 0, 1, xN), some (.getfield 441, 3, xF 0 4 0), none,
  none, some (.ireturn, 1, xN)]
def M_Mo_fault : am_Me := (⟨R_Mo, "fault", "()I"⟩, prog_14_method_60_code, 1, (some .int), Y_Mo, cd_Mo_fault, 0, 0, 0, 0)
set_option maxRecDepth 100000 in
theorem ok_Mo_fault : am_ok S_m M_Mo_fault := am_ok_ofY (Y := Y_Mo) (cd := cd_Mo_fault) (by decide +kernel) rfl rfl rfl oY_Mo (by decide +kernel)
def cd_Mo_count : List (Option am_I) := [some (.aload_n 0, 1, xN), some (.iconst 0, 1, xI (0)), some (.putfield 144, 3, xF 0 1 0), none, none, some (.aload_n 0, 1, xN), some (.getfield 154, 3, xF 0 5 3), none,
  none, some (.ifCond .ne (5), 3, xJ 14), none, none, some (.iconst (-1), 1, xI (-1)), some (.ireturn, 1, xN), some (.iload_n 1, 1, xN), some (.tableswitch (67) (0) (5) #[37, 42, 47, 52, 57, 62], 37, xN),
  none, none, none, none, none, none, none, none,
  none, none, none, none, none, none, none, none,
  none, none, none, none, none, none, none, none,
  none, none, none, none, none, none, none, none,
  none, none, none, none, some (.aload_n 0, 1, xN), some (.getfield 213, 3, xF 0 9 0), none, none,
  some (.ireturn, 1, xN), some (.aload_n 0, 1, xN), some (.getfield 263, 3, xF 0 21 0), none, none, some (.ireturn, 1, xN), some (.aload_n 0, 1, xN), some (.getfield 257, 3, xF 0 22 0),
  none, none, some (.ireturn, 1, xN), some (.aload_n 0, 1, xN), some (.getfield 340, 3, xF 0 33 0), none, none, some (.ireturn, 1, xN),
  some (.aload_n 0, 1, xN), some (.getfield 368, 3, xF 0 38 0), none, none, some (.ireturn, 1, xN), some (.aload_n 0, 1, xN), some (.getfield 423, 3, xF 0 54 0), none,
  none, some (.ireturn, 1, xN), some (.iconst (-1), 1, xI (-1)), some (.ireturn, 1, xN)]
def M_Mo_count : am_Me := (⟨R_Mo, "count", "(I)I"⟩, prog_14_method_61_code, 2, (some .int), Y_Mo, cd_Mo_count, 0, 0, 0, 0)
set_option maxRecDepth 100000 in
theorem ok_Mo_count : am_ok S_m M_Mo_count := am_ok_ofY (Y := Y_Mo) (cd := cd_Mo_count) (by decide +kernel) rfl rfl rfl oY_Mo (by decide +kernel)
def cd_Mo_isLess : List (Option am_I) := [some (.lload_n 0, 1, xN), some (.ldc2_w 444, 3, xL (-9223372036854775808)), none, none, some (.ladd, 1, xN), some (.lload_n 2, 1, xN), some (.ldc2_w 444, 3, xL (-9223372036854775808)), none,
  none, some (.ladd, 1, xN), some (.lcmp, 1, xN), some (.ifCond .ge (7), 3, xJ 18), none, none, some (.iconst 1, 1, xI (1)), some (.goto (4), 3, xJ 19),
  none, none, some (.iconst 0, 1, xI (0)), some (.ireturn, 1, xN)]
def M_Mo_isLess : am_Me := (⟨R_Mo, "isLess", "(JJ)Z"⟩, prog_14_method_62_code, 4, (some .boolean), Y_Mo, cd_Mo_isLess, 0, 0, 0, 0)
set_option maxRecDepth 100000 in
theorem ok_Mo_isLess : am_ok S_m M_Mo_isLess := am_ok_ofY (Y := Y_Mo) (cd := cd_Mo_isLess) (by decide +kernel) rfl rfl rfl oY_Mo (by decide +kernel)
def cd_Mo_isWithin : List (Option am_I) := [some (.lload_n 0, 1, xN), some (.lload_n 2, 1, xN), some (.invokestatic 446, 3, xN), none, none, some (.ifCond .ne (16), 3, xJ 21), none, none,
  some (.lload_n 0, 1, xN), some (.lload 4, 2, xN), none, some (.invokestatic 446, 3, xN), none, none, some (.ifCond .eq (7), 3, xJ 21), none,
  none, some (.iconst 1, 1, xI (1)), some (.goto (4), 3, xJ 22), none, none, some (.iconst 0, 1, xI (0)), some (.ireturn, 1, xN)]
def M_Mo_isWithin : am_Me := (⟨R_Mo, "isWithin", "(JJJ)Z"⟩, prog_14_method_63_code, 6, (some .boolean), Y_Mo, cd_Mo_isWithin, 1, 23, 0, 0)
set_option maxRecDepth 100000 in
theorem ok_Mo_isWithin : am_ok S_m M_Mo_isWithin := am_ok_ofY (Y := Y_Mo) (cd := cd_Mo_isWithin) (by decide +kernel) rfl rfl rfl oY_Mo (by decide +kernel)
def cd_Mo_holds : List (Option am_I) := [some (.iconst 0, 1, xI (0)), some (.istore_n 2, 1, xN), some (.aload_n 0, 1, xN), some (.getfield 108, 3, xF 0 34 2), none, none, some (.iload_n 1, 1, xN), some (.iaload, 1, xN),
  some (.istore_n 3, 1, xN), some (.iload_n 3, 1, xN), some (.aload_n 0, 1, xN), some (.getfield 108, 3, xF 0 34 2), none, none, some (.iload_n 1, 1, xN), some (.iconst 1, 1, xI (1)),
  some (.iadd, 1, xN), some (.iaload, 1, xN), some (.if_icmp .ge (41), 3, xJ 59), none, none, some (.iload_n 2, 1, xN), some (.ifCond .ne (25), 3, xJ 47), none,
  none, some (.aload_n 0, 1, xN), some (.getfield 449, 3, xF 0 59 1), none, none, some (.aload_n 0, 1, xN), some (.getfield 111, 3, xF 0 35 2), none,
  none, some (.iload_n 3, 1, xN), some (.laload, 1, xN), some (.aload_n 0, 1, xN), some (.getfield 114, 3, xF 0 36 2), none, none, some (.iload_n 3, 1, xN),
  some (.laload, 1, xN), some (.invokestatic 452, 3, xN), none, none, some (.ifCond .eq (7), 3, xJ 51), none, none, some (.iconst 1, 1, xI (1)),
  some (.goto (4), 3, xJ 52), none, none, some (.iconst 0, 1, xI (0)), some (.istore_n 2, 1, xN), some (.iinc 3 (1), 3, xI (1)), none, none,
  some (.goto (-47), 3, xJ 9), none, none, some (.iload_n 2, 1, xN), some (.ireturn, 1, xN)]
def M_Mo_holds : am_Me := (⟨R_Mo, "holds", "(I)Z"⟩, prog_14_method_64_code, 4, (some .boolean), Y_Mo, cd_Mo_holds, 2, 48, 0, 0)
set_option maxRecDepth 100000 in
theorem ok_Mo_holds : am_ok S_m M_Mo_holds := am_ok_ofY (Y := Y_Mo) (cd := cd_Mo_holds) (by decide +kernel) rfl rfl rfl oY_Mo (by decide +kernel)
def cd_Mo_letsPass : List (Option am_I) := [some (.aload_n 0, 1, xN), some (.iload_n 1, 1, xN), some (.invokevirtual 455, 3, xN), none, none, some (.ifCond .ne (30), 3, xJ 35), none, none,
  some (.aload_n 0, 1, xN), some (.iload_n 1, 1, xN), some (.iconst 3, 1, xI (3)), some (.invokevirtual 290, 3, xN), none, none, some (.ifCond .ne (25), 3, xJ 39), none,
  none, some (.aload_n 0, 1, xN), some (.iload_n 1, 1, xN), some (.iconst 1, 1, xI (1)), some (.invokevirtual 290, 3, xN), none, none, some (.ifCond .eq (12), 3, xJ 35),
  none, none, some (.aload_n 0, 1, xN), some (.iload_n 1, 1, xN), some (.iconst 2, 1, xI (2)), some (.invokevirtual 290, 3, xN), none, none,
  some (.ifCond .ne (7), 3, xJ 39), none, none, some (.iconst 1, 1, xI (1)), some (.goto (4), 3, xJ 40), none, none, some (.iconst 0, 1, xI (0)),
  some (.ireturn, 1, xN)]
def M_Mo_letsPass : am_Me := (⟨R_Mo, "letsPass", "(I)Z"⟩, prog_14_method_65_code, 2, (some .boolean), Y_Mo, cd_Mo_letsPass, 3, 71, 0, 0)
set_option maxRecDepth 100000 in
theorem ok_Mo_letsPass : am_ok S_m M_Mo_letsPass := am_ok_ofY (Y := Y_Mo) (cd := cd_Mo_letsPass) (by decide +kernel) rfl rfl rfl oY_Mo (by decide +kernel)
def cd_Mo_isUnder : List (Option am_I) := [some (.aload_n 0, 1, xN), some (.getfield 96, 3, xF 0 29 2), none, none, some (.iload_n 1, 1, xN), some (.iaload, 1, xN), some (.istore_n 3, 1, xN), some (.iload_n 3, 1, xN),
  some (.iload_n 2, 1, xN), some (.if_icmp .eq (37), 3, xJ 46), none, none, some (.iload_n 3, 1, xN), some (.iconst (-1), 1, xI (-1)), some (.if_icmp .eq (32), 3, xJ 46), none,
  none, some (.aload_n 0, 1, xN), some (.getfield 93, 3, xF 0 28 2), none, none, some (.iload_n 3, 1, xN), some (.iaload, 1, xN), some (.bipush 11, 2, xI (11)),
  none, some (.if_icmp .ne (21), 3, xJ 46), none, none, some (.aload_n 0, 1, xN), some (.iload_n 3, 1, xN), some (.invokevirtual 458, 3, xN), none,
  none, some (.ifCond .eq (13), 3, xJ 46), none, none, some (.aload_n 0, 1, xN), some (.getfield 96, 3, xF 0 29 2), none, none,
  some (.iload_n 3, 1, xN), some (.iaload, 1, xN), some (.istore_n 3, 1, xN), some (.goto (-36), 3, xJ 7), none, none, some (.iload_n 3, 1, xN), some (.iload_n 2, 1, xN),
  some (.if_icmp .ne (7), 3, xJ 55), none, none, some (.iconst 1, 1, xI (1)), some (.goto (4), 3, xJ 56), none, none, some (.iconst 0, 1, xI (0)),
  some (.ireturn, 1, xN)]
def M_Mo_isUnder : am_Me := (⟨R_Mo, "isUnder", "(II)Z"⟩, prog_14_method_66_code, 4, (some .boolean), Y_Mo, cd_Mo_isUnder, 4, 92, 0, 0)
set_option maxRecDepth 100000 in
theorem ok_Mo_isUnder : am_ok S_m M_Mo_isUnder := am_ok_ofY (Y := Y_Mo) (cd := cd_Mo_isUnder) (by decide +kernel) rfl rfl rfl oY_Mo (by decide +kernel)
def cd_Mo_first : List (Option am_I) := [some (.iconst 0, 1, xI (0)), some (.istore_n 3, 1, xN), some (.iload_n 3, 1, xN), some (.aload_n 0, 1, xN), some (.getfield 257, 3, xF 0 22 0), none, none, some (.if_icmp .ge (43), 3, xJ 50),
  none, none, some (.aload_n 0, 1, xN), some (.getfield 93, 3, xF 0 28 2), none, none, some (.iload_n 3, 1, xN), some (.iaload, 1, xN),
  some (.iload_n 1, 1, xN), some (.if_icmp .ne (27), 3, xJ 44), none, none, some (.aload_n 0, 1, xN), some (.iload_n 3, 1, xN), some (.invokevirtual 455, 3, xN), none,
  none, some (.ifCond .eq (19), 3, xJ 44), none, none, some (.iload_n 2, 1, xN), some (.iconst (-1), 1, xI (-1)), some (.if_icmp .eq (12), 3, xJ 42), none,
  none, some (.aload_n 0, 1, xN), some (.iload_n 3, 1, xN), some (.iload_n 2, 1, xN), some (.invokevirtual 461, 3, xN), none, none, some (.ifCond .eq (5), 3, xJ 44),
  none, none, some (.iload_n 3, 1, xN), some (.ireturn, 1, xN), some (.iinc 3 (1), 3, xI (1)), none, none, some (.goto (-45), 3, xJ 2),
  none, none, some (.iconst (-1), 1, xI (-1)), some (.ireturn, 1, xN)]
def M_Mo_first : am_Me := (⟨R_Mo, "first", "(II)I"⟩, prog_14_method_67_code, 4, (some .int), Y_Mo, cd_Mo_first, 5, 115, 0, 0)
set_option maxRecDepth 100000 in
theorem ok_Mo_first : am_ok S_m M_Mo_first := am_ok_ofY (Y := Y_Mo) (cd := cd_Mo_first) (by decide +kernel) rfl rfl rfl oY_Mo (by decide +kernel)
def cd_Mo_symbol : List (Option am_I) := [some (.iconst 0, 1, xI (0)), some (.istore_n 1, 1, xN), some (.iload_n 1, 1, xN), some (.aload_n 0, 1, xN), some (.getfield 423, 3, xF 0 54 0), none, none, some (.if_icmp .ge (73), 3, xJ 80),
  none, none, some (.aload_n 0, 1, xN), some (.getfield 49, 3, xF 0 10 2), none, none, some (.bipush 8, 2, xI (8)), none,
  some (.iaload, 1, xN), some (.bipush 24, 2, xI (24)), none, some (.iload_n 1, 1, xN), some (.imul, 1, xN), some (.iadd, 1, xN), some (.istore_n 2, 1, xN), some (.aload_n 0, 1, xN),
  some (.iload_n 2, 1, xN), some (.bipush 8, 2, xI (8)), none, some (.iadd, 1, xN), some (.bipush 8, 2, xI (8)), none, some (.invokevirtual 173, 3, xN), none,
  none, some (.lstore_n 3, 1, xN), some (.aload_n 0, 1, xN), some (.getfield 45, 3, xF 0 2 2), none, none, some (.iload_n 2, 1, xN), some (.iconst 4, 1, xI (4)),
  some (.iadd, 1, xN), some (.baload, 1, xJ 2), some (.bipush 15, 2, xI (15)), none, some (.iand, 1, xN), some (.iconst 2, 1, xI (2)), some (.if_icmp .ne (28), 3, xJ 74), none,
  none, some (.aload_n 0, 1, xN), some (.getfield 449, 3, xF 0 59 1), none, none, some (.lload_n 3, 1, xN), some (.lload_n 3, 1, xN), some (.aload_n 0, 1, xN),
  some (.iload_n 2, 1, xN), some (.bipush 16, 2, xI (16)), none, some (.iadd, 1, xN), some (.bipush 8, 2, xI (8)), none, some (.invokevirtual 173, 3, xN), none,
  none, some (.ladd, 1, xN), some (.invokestatic 452, 3, xN), none, none, some (.ifCond .eq (5), 3, xJ 74), none, none,
  some (.iload_n 1, 1, xN), some (.ireturn, 1, xN), some (.iinc 1 (1), 3, xI (1)), none, none, some (.goto (-75), 3, xJ 2), none, none,
  some (.iconst (-1), 1, xI (-1)), some (.ireturn, 1, xN)]
def M_Mo_symbol : am_Me := (⟨R_Mo, "symbol", "()I"⟩, prog_14_method_68_code, 5, (some .int), Y_Mo, cd_Mo_symbol, 2, 48, 0, 0)
set_option maxRecDepth 100000 in
theorem ok_Mo_symbol : am_ok S_m M_Mo_symbol := am_ok_ofY (Y := Y_Mo) (cd := cd_Mo_symbol) (by decide +kernel) rfl rfl rfl oY_Mo (by decide +kernel)
def cd_Mo_find : List (Option am_I) := [some (.aload_n 0, 1, xN), some (.aload_n 0, 1, xN), some (.getfield 154, 3, xF 0 5 3), none, none, some (.ifCond .eq (7), 3, xJ 12), none, none,
  some (.iconst 0, 1, xI (0)), some (.goto (4), 3, xJ 13), none, none, some (.iconst 1, 1, xI (1)), some (.putfield 144, 3, xF 0 1 0), none, none,
  some (.aload_n 0, 1, xN), some (.getfield 154, 3, xF 0 5 3), none, none, some (.ifCond .ne (5), 3, xJ 25), none, none, some (.iconst 0, 1, xI (0)),
  some (.ireturn, 1, xN), some (.aload_n 0, 1, xN), some (.lload_n 1, 1, xN), some (.putfield 449, 3, xF 0 59 1), none, none, some (.aload_n 0, 1, xN), some (.iconst 0, 1, xI (0)),
  some (.putfield 161, 3, xF 0 55 0), none, none, some (.aload_n 0, 1, xN), some (.bipush 46, 2, xI (46)), none, some (.iconst (-1), 1, xI (-1)), some (.invokevirtual 464, 3, xN),
  none, none, some (.istore_n 3, 1, xN), some (.iload_n 3, 1, xN), some (.iconst (-1), 1, xI (-1)), some (.if_icmp .eq (34), 3, xJ 79), none, none,
  some (.aload_n 0, 1, xN), some (.getfield 141, 3, xF 0 58 2), none, none, some (.aload_n 0, 1, xN), some (.getfield 161, 3, xF 0 55 0), none, none,
  some (.iload_n 3, 1, xN), some (.iastore, 1, xN), some (.aload_n 0, 1, xN), some (.dup, 1, xN), some (.getfield 161, 3, xF 0 55 0), none, none, some (.iconst 1, 1, xI (1)),
  some (.iadd, 1, xN), some (.putfield 161, 3, xF 0 55 0), none, none, some (.aload_n 0, 1, xN), some (.bipush 29, 2, xI (29)), none, some (.iload_n 3, 1, xN),
  some (.invokevirtual 464, 3, xN), none, none, some (.istore_n 3, 1, xN), some (.goto (-33), 3, xJ 43), none, none, some (.aload_n 0, 1, xN),
  some (.aload_n 0, 1, xN), some (.getfield 161, 3, xF 0 55 0), none, none, some (.putfield 158, 3, xF 0 56 0), none, none, some (.aload_n 0, 1, xN),
  some (.getfield 161, 3, xF 0 55 0), none, none, some (.ifCond .ne (10), 3, xJ 101), none, none, some (.aload_n 0, 1, xN), some (.invokevirtual 467, 3, xN),
  none, none, some (.goto (4), 3, xJ 102), none, none, some (.iconst (-1), 1, xI (-1)), some (.istore 4, 2, xN), none,
  some (.iload 4, 2, xN), none, some (.iconst (-1), 1, xI (-1)), some (.if_icmp .eq (36), 3, xJ 143), none, none, some (.aload_n 0, 1, xN), some (.aload_n 0, 1, xN),
  some (.bipush 9, 2, xI (9)), none, some (.aload_n 0, 1, xN), some (.aload_n 0, 1, xN), some (.getfield 49, 3, xF 0 10 2), none, none, some (.bipush 8, 2, xI (8)),
  none, some (.iaload, 1, xN), some (.bipush 24, 2, xI (24)), none, some (.iload 4, 2, xN), none, some (.imul, 1, xN), some (.iadd, 1, xN),
  some (.iconst 4, 1, xI (4)), some (.invokevirtual 173, 3, xN), none, none, some (.invokevirtual 302, 3, xN), none, none, some (.putfield 470, 3, xF 0 57 0),
  none, none, some (.aload_n 0, 1, xN), some (.iconst 1, 1, xI (1)), some (.putfield 158, 3, xF 0 56 0), none, none, some (.aload_n 0, 1, xN),
  some (.getfield 158, 3, xF 0 56 0), none, none, some (.ireturn, 1, xN)]
def M_Mo_find : am_Me := (⟨R_Mo, "find", "(J)I"⟩, prog_14_method_69_code, 5, (some .int), Y_Mo, cd_Mo_find, 6, 138, 0, 0)
set_option maxRecDepth 100000 in
theorem ok_Mo_find : am_ok S_m M_Mo_find := am_ok_ofY (Y := Y_Mo) (cd := cd_Mo_find) (by decide +kernel) rfl rfl rfl oY_Mo (by decide +kernel)
def cd_Mo_isFrame : List (Option am_I) := [some (.iload_n 1, 1, xN), some (.ifCond .lt (15), 3, xJ 16), none, none, some (.iload_n 1, 1, xN), some (.aload_n 0, 1, xN), some (.getfield 158, 3, xF 0 56 0), none,
  none, some (.if_icmp .ge (7), 3, xJ 16), none, none, some (.iconst 1, 1, xI (1)), some (.goto (4), 3, xJ 17), none, none,
  some (.iconst 0, 1, xI (0)), some (.ireturn, 1, xN)]
def M_Mo_isFrame : am_Me := (⟨R_Mo, "isFrame", "(I)Z"⟩, prog_14_method_70_code, 2, (some .boolean), Y_Mo, cd_Mo_isFrame, 0, 0, 0, 0)
set_option maxRecDepth 100000 in
theorem ok_Mo_isFrame : am_ok S_m M_Mo_isFrame := am_ok_ofY (Y := Y_Mo) (cd := cd_Mo_isFrame) (by decide +kernel) rfl rfl rfl oY_Mo (by decide +kernel)
def cd_Mo_nameOf : List (Option am_I) := [some (.aload_n 0, 1, xN), some (.getfield 161, 3, xF 0 55 0), none, none, some (.ifCond .ne (8), 3, xJ 12), none, none, some (.aload_n 0, 1, xN),
  some (.getfield 470, 3, xF 0 57 0), none, none, some (.ireturn, 1, xN), some (.aload_n 0, 1, xN), some (.getfield 141, 3, xF 0 58 2), none, none,
  some (.aload_n 0, 1, xN), some (.getfield 161, 3, xF 0 55 0), none, none, some (.iconst 1, 1, xI (1)), some (.isub, 1, xN), some (.iload_n 1, 1, xN), some (.isub, 1, xN),
  some (.iaload, 1, xN), some (.istore_n 2, 1, xN), some (.iconst 0, 1, xI (0)), some (.istore_n 3, 1, xN), some (.iload_n 3, 1, xN), some (.bipush 8, 2, xI (8)), none, some (.if_icmp .ge (29), 3, xJ 60),
  none, none, some (.iload_n 2, 1, xN), some (.iconst (-1), 1, xI (-1)), some (.if_icmp .eq (24), 3, xJ 60), none, none, some (.aload_n 0, 1, xN),
  some (.iload_n 2, 1, xN), some (.iconst 0, 1, xI (0)), some (.invokevirtual 290, 3, xN), none, none, some (.ifCond .ne (15), 3, xJ 60), none, none,
  some (.aload_n 0, 1, xN), some (.iload_n 2, 1, xN), some (.invokevirtual 321, 3, xN), none, none, some (.istore_n 2, 1, xN), some (.iinc 3 (1), 3, xI (1)), none,
  none, some (.goto (-29), 3, xJ 28), none, none, some (.iload_n 2, 1, xN), some (.iconst (-1), 1, xI (-1)), some (.if_icmp .eq (20), 3, xJ 82), none,
  none, some (.aload_n 0, 1, xN), some (.iload_n 2, 1, xN), some (.iconst 0, 1, xI (0)), some (.invokevirtual 290, 3, xN), none, none, some (.ifCond .eq (11), 3, xJ 82),
  none, none, some (.aload_n 0, 1, xN), some (.iload_n 2, 1, xN), some (.invokevirtual 325, 3, xN), none, none, some (.goto (4), 3, xJ 83),
  none, none, some (.iconst (-1), 1, xI (-1)), some (.ireturn, 1, xN)]
def M_Mo_nameOf : am_Me := (⟨R_Mo, "nameOf", "(I)I"⟩, prog_14_method_71_code, 4, (some .int), Y_Mo, cd_Mo_nameOf, 3, 75, 0, 0)
set_option maxRecDepth 100000 in
theorem ok_Mo_nameOf : am_ok S_m M_Mo_nameOf := am_ok_ofY (Y := Y_Mo) (cd := cd_Mo_nameOf) (by decide +kernel) rfl rfl rfl oY_Mo (by decide +kernel)
def cd_Mo_character : List (Option am_I) := [some (.iload_n 1, 1, xN), some (.iconst (-1), 1, xI (-1)), some (.if_icmp .eq (7), 3, xJ 9), none, none, some (.iload_n 2, 1, xN), some (.ifCond .ge (5), 3, xJ 11), none,
  none, some (.iconst (-1), 1, xI (-1)), some (.ireturn, 1, xN), some (.iconst 0, 1, xI (0)), some (.istore_n 3, 1, xN), some (.iload_n 3, 1, xN), some (.iload_n 2, 1, xN), some (.if_icmp .gt (22), 3, xJ 37),
  none, none, some (.aload_n 0, 1, xN), some (.getfield 45, 3, xF 0 2 2), none, none, some (.iload_n 1, 1, xN), some (.iload_n 3, 1, xN),
  some (.iadd, 1, xN), some (.baload, 1, xJ 2), some (.ifCond .ne (5), 3, xJ 31), none, none, some (.iconst (-1), 1, xI (-1)), some (.ireturn, 1, xN), some (.iinc 3 (1), 3, xI (1)),
  none, none, some (.goto (-21), 3, xJ 13), none, none, some (.aload_n 0, 1, xN), some (.getfield 45, 3, xF 0 2 2), none,
  none, some (.iload_n 1, 1, xN), some (.iload_n 2, 1, xN), some (.iadd, 1, xN), some (.baload, 1, xJ 2), some (.sipush 255, 3, xI (255)), none, none,
  some (.iand, 1, xN), some (.ireturn, 1, xN)]
def M_Mo_character : am_Me := (⟨R_Mo, "character", "(II)I"⟩, prog_14_method_72_code, 4, (some .int), Y_Mo, cd_Mo_character, 0, 0, 0, 0)
set_option maxRecDepth 100000 in
theorem ok_Mo_character : am_ok S_m M_Mo_character := am_ok_ofY (Y := Y_Mo) (cd := cd_Mo_character) (by decide +kernel) rfl rfl rfl oY_Mo (by decide +kernel)
def cd_Mo_name : List (Option am_I) := [some (.aload_n 0, 1, xN), some (.iconst 0, 1, xI (0)), some (.putfield 144, 3, xF 0 1 0), none, none, some (.aload_n 0, 1, xN), some (.iload_n 1, 1, xN), some (.invokevirtual 473, 3, xN),
  none, none, some (.ifCond .eq (16), 3, xJ 26), none, none, some (.aload_n 0, 1, xN), some (.aload_n 0, 1, xN), some (.iload_n 1, 1, xN),
  some (.invokevirtual 476, 3, xN), none, none, some (.iload_n 2, 1, xN), some (.invokevirtual 479, 3, xN), none, none, some (.goto (4), 3, xJ 27),
  none, none, some (.iconst (-1), 1, xI (-1)), some (.ireturn, 1, xN)]
def M_Mo_name : am_Me := (⟨R_Mo, "name", "(II)I"⟩, prog_14_method_73_code, 3, (some .int), Y_Mo, cd_Mo_name, 4, 98, 0, 0)
set_option maxRecDepth 100000 in
theorem ok_Mo_name : am_ok S_m M_Mo_name := am_ok_ofY (Y := Y_Mo) (cd := cd_Mo_name) (by decide +kernel) rfl rfl rfl oY_Mo (by decide +kernel)
def cd_Mo_rowOf : List (Option am_I) := [some (.aload_n 0, 1, xN), some (.getfield 126, 3, xF 0 42 2), none, none, some (.iload_n 1, 1, xN), some (.iaload, 1, xN), some (.istore_n 2, 1, xN), some (.iload_n 2, 1, xN),
  some (.istore_n 3, 1, xN), some (.iload_n 3, 1, xN), some (.aload_n 0, 1, xN), some (.getfield 126, 3, xF 0 42 2), none, none, some (.iload_n 1, 1, xN), some (.iconst 1, 1, xI (1)),
  some (.iadd, 1, xN), some (.iaload, 1, xN), some (.if_icmp .ge (104), 3, xJ 122), none, none, some (.aload_n 0, 1, xN), some (.getfield 138, 3, xF 0 46 2), none,
  none, some (.iload_n 3, 1, xN), some (.baload, 1, xJ 3), some (.ifCond .eq (72), 3, xJ 99), none, none, some (.aload_n 0, 1, xN), some (.getfield 449, 3, xF 0 59 1),
  none, none, some (.aload_n 0, 1, xN), some (.getfield 132, 3, xF 0 44 2), none, none, some (.iload_n 2, 1, xN), some (.laload, 1, xN),
  some (.aload_n 0, 1, xN), some (.getfield 132, 3, xF 0 44 2), none, none, some (.iload_n 3, 1, xN), some (.laload, 1, xN), some (.invokestatic 452, 3, xN), none,
  none, some (.ifCond .eq (50), 3, xJ 99), none, none, some (.iload_n 2, 1, xN), some (.istore 4, 2, xN), none, some (.iload_n 2, 1, xN),
  some (.istore 5, 2, xN), none, some (.iload 5, 2, xN), none, some (.iload_n 3, 1, xN), some (.if_icmp .ge (35), 3, xJ 96), none, none,
  some (.aload_n 0, 1, xN), some (.getfield 449, 3, xF 0 59 1), none, none, some (.aload_n 0, 1, xN), some (.getfield 132, 3, xF 0 44 2), none, none,
  some (.iload 5, 2, xN), none, some (.laload, 1, xN), some (.invokestatic 446, 3, xN), none, none, some (.ifCond .eq (8), 3, xJ 86), none,
  none, some (.iload 4, 2, xN), none, some (.goto (5), 3, xJ 88), none, none, some (.iload 5, 2, xN), none,
  some (.istore 4, 2, xN), none, some (.iinc 5 (1), 3, xI (1)), none, none, some (.goto (-35), 3, xJ 58), none, none,
  some (.iload 4, 2, xN), none, some (.ireturn, 1, xN), some (.aload_n 0, 1, xN), some (.getfield 138, 3, xF 0 46 2), none, none, some (.iload_n 3, 1, xN),
  some (.baload, 1, xJ 3), some (.ifCond .eq (9), 3, xJ 114), none, none, some (.iload_n 3, 1, xN), some (.iconst 1, 1, xI (1)), some (.iadd, 1, xN), some (.goto (4), 3, xJ 115),
  none, none, some (.iload_n 2, 1, xN), some (.istore_n 2, 1, xN), some (.iinc 3 (1), 3, xI (1)), none, none, some (.goto (-110), 3, xJ 9),
  none, none, some (.iconst (-1), 1, xI (-1)), some (.ireturn, 1, xN)]
def M_Mo_rowOf : am_Me := (⟨R_Mo, "rowOf", "(I)I"⟩, prog_14_method_74_code, 6, (some .int), Y_Mo, cd_Mo_rowOf, 2, 48, 0, 0)
set_option maxRecDepth 100000 in
theorem ok_Mo_rowOf : am_ok S_m M_Mo_rowOf := am_ok_ofY (Y := Y_Mo) (cd := cd_Mo_rowOf) (by decide +kernel) rfl rfl rfl oY_Mo (by decide +kernel)
def cd_Mo_file : List (Option am_I) := [some (.aload_n 0, 1, xN), some (.iconst 0, 1, xI (0)), some (.putfield 144, 3, xF 0 1 0), none, none, some (.aload_n 0, 1, xN), some (.iload_n 1, 1, xN), some (.invokevirtual 473, 3, xN),
  none, none, some (.ifCond .eq (10), 3, xJ 20), none, none, some (.aload_n 0, 1, xN), some (.getfield 161, 3, xF 0 55 0), none,
  none, some (.ifCond .ne (5), 3, xJ 22), none, none, some (.iconst (-1), 1, xI (-1)), some (.ireturn, 1, xN), some (.aload_n 0, 1, xN), some (.getfield 99, 3, xF 0 30 2),
  none, none, some (.aload_n 0, 1, xN), some (.getfield 141, 3, xF 0 58 2), none, none, some (.iconst 0, 1, xI (0)), some (.iaload, 1, xN),
  some (.iaload, 1, xN), some (.istore_n 3, 1, xN), some (.aload_n 0, 1, xN), some (.iload_n 3, 1, xN), some (.invokevirtual 482, 3, xN), none, none, some (.istore 4, 2, xN),
  none, some (.iload_n 1, 1, xN), some (.ifCond .ne (7), 3, xJ 49), none, none, some (.iconst (-1), 1, xI (-1)), some (.goto (14), 3, xJ 60), none,
  none, some (.aload_n 0, 1, xN), some (.getfield 141, 3, xF 0 58 2), none, none, some (.aload_n 0, 1, xN), some (.getfield 161, 3, xF 0 55 0), none,
  none, some (.iload_n 1, 1, xN), some (.isub, 1, xN), some (.iaload, 1, xN), some (.istore 5, 2, xN), none, some (.iload_n 1, 1, xN), some (.ifCond .ne (17), 3, xJ 80),
  none, none, some (.iload 4, 2, xN), none, some (.iconst (-1), 1, xI (-1)), some (.if_icmp .eq (7), 3, xJ 76), none, none,
  some (.iconst 1, 1, xI (1)), some (.goto (14), 3, xJ 87), none, none, some (.iconst 0, 1, xI (0)), some (.goto (10), 3, xJ 87), none, none,
  some (.aload_n 0, 1, xN), some (.iload 5, 2, xN), none, some (.iconst 5, 1, xI (5)), some (.invokevirtual 290, 3, xN), none, none, some (.istore 6, 2, xN),
  none, some (.iload 6, 2, xN), none, some (.ifCond .ne (9), 3, xJ 100), none, none, some (.ldc2_w 181, 3, xL (-1)), none,
  none, some (.goto (24), 3, xJ 121), none, none, some (.iload_n 1, 1, xN), some (.ifCond .ne (13), 3, xJ 114), none, none,
  some (.aload_n 0, 1, xN), some (.getfield 135, 3, xF 0 45 2), none, none, some (.iload 4, 2, xN), none, some (.laload, 1, xN), some (.goto (10), 3, xJ 121),
  none, none, some (.aload_n 0, 1, xN), some (.iload 5, 2, xN), none, some (.iconst 5, 1, xI (5)), some (.invokevirtual 294, 3, xN), none,
  none, some (.lstore 7, 2, xN), none, some (.lload 7, 2, xN), none, some (.lconst 0, 1, xL 0), some (.aload_n 0, 1, xN), some (.getfield 117, 3, xF 0 39 2),
  none, none, some (.iload_n 3, 1, xN), some (.iaload, 1, xN), some (.i2l, 1, xN), some (.lconst 1, 1, xL 1), some (.lsub, 1, xN), some (.invokestatic 201, 3, xN),
  none, none, some (.ifCond .eq (24), 3, xJ 162), none, none, some (.aload_n 0, 1, xN), some (.aload_n 0, 1, xN), some (.getfield 120, 3, xF 0 40 2),
  none, none, some (.bipush 30, 2, xI (30)), none, some (.iload_n 3, 1, xN), some (.imul, 1, xN), some (.lload 7, 2, xN), none,
  some (.l2i, 1, xN), some (.iadd, 1, xN), some (.iaload, 1, xN), some (.iload_n 2, 1, xN), some (.invokevirtual 479, 3, xN), none, none, some (.goto (4), 3, xJ 163),
  none, none, some (.iconst (-1), 1, xI (-1)), some (.ireturn, 1, xN)]
def M_Mo_file : am_Me := (⟨R_Mo, "file", "(II)I"⟩, prog_14_method_75_code, 9, (some .int), Y_Mo, cd_Mo_file, 3, 73, 0, 0)
set_option maxRecDepth 100000 in
theorem ok_Mo_file : am_ok S_m M_Mo_file := am_ok_ofY (Y := Y_Mo) (cd := cd_Mo_file) (by decide +kernel) rfl rfl rfl oY_Mo (by decide +kernel)
def cd_Mo_line : List (Option am_I) := [some (.aload_n 0, 1, xN), some (.iconst 0, 1, xI (0)), some (.putfield 144, 3, xF 0 1 0), none, none, some (.aload_n 0, 1, xN), some (.iload_n 1, 1, xN), some (.invokevirtual 473, 3, xN),
  none, none, some (.ifCond .ne (5), 3, xJ 15), none, none, some (.iconst (-1), 1, xI (-1)), some (.ireturn, 1, xN), some (.aload_n 0, 1, xN),
  some (.getfield 161, 3, xF 0 55 0), none, none, some (.ifCond .ne (5), 3, xJ 24), none, none, some (.iconst 0, 1, xI (0)), some (.ireturn, 1, xN),
  some (.iload_n 1, 1, xN), some (.ifCond .ne (35), 3, xJ 60), none, none, some (.aload_n 0, 1, xN), some (.aload_n 0, 1, xN), some (.getfield 99, 3, xF 0 30 2), none,
  none, some (.aload_n 0, 1, xN), some (.getfield 141, 3, xF 0 58 2), none, none, some (.iconst 0, 1, xI (0)), some (.iaload, 1, xN), some (.iaload, 1, xN),
  some (.invokevirtual 482, 3, xN), none, none, some (.istore_n 2, 1, xN), some (.iload_n 2, 1, xN), some (.iconst (-1), 1, xI (-1)), some (.if_icmp .ne (7), 3, xJ 53), none,
  none, some (.iconst 0, 1, xI (0)), some (.goto (9), 3, xJ 59), none, none, some (.aload_n 0, 1, xN), some (.getfield 123, 3, xF 0 41 2), none,
  none, some (.iload_n 2, 1, xN), some (.iaload, 1, xN), some (.ireturn, 1, xN), some (.aload_n 0, 1, xN), some (.getfield 141, 3, xF 0 58 2), none, none,
  some (.aload_n 0, 1, xN), some (.getfield 161, 3, xF 0 55 0), none, none, some (.iload_n 1, 1, xN), some (.isub, 1, xN), some (.iaload, 1, xN), some (.istore_n 2, 1, xN),
  some (.aload_n 0, 1, xN), some (.iload_n 2, 1, xN), some (.bipush 6, 2, xI (6)), none, some (.invokevirtual 290, 3, xN), none, none, some (.ifCond .eq (14), 3, xJ 93),
  none, none, some (.aload_n 0, 1, xN), some (.iload_n 2, 1, xN), some (.bipush 6, 2, xI (6)), none, some (.invokevirtual 294, 3, xN), none,
  none, some (.l2i, 1, xN), some (.goto (4), 3, xJ 94), none, none, some (.iconst 0, 1, xI (0)), some (.ireturn, 1, xN)]
def M_Mo_line : am_Me := (⟨R_Mo, "line", "(I)I"⟩, prog_14_method_76_code, 3, (some .int), Y_Mo, cd_Mo_line, 3, 73, 0, 0)
set_option maxRecDepth 100000 in
theorem ok_Mo_line : am_ok S_m M_Mo_line := am_ok_ofY (Y := Y_Mo) (cd := cd_Mo_line) (by decide +kernel) rfl rfl rfl oY_Mo (by decide +kernel)
