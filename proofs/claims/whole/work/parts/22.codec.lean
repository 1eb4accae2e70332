def cd_F_load : List (Option am_I) := [some (.iload_n 1, 1, xN), some (.iconst 1, 1, xI (1)), some (.if_icmp .lt (21), 3, xJ 23), none, none, some (.iload_n 1, 1, xN), some (.bipush 8, 2, xI (8)), none,
  some (.if_icmp .gt (15), 3, xJ 23), none, none, some (.iload_n 1, 1, xN), some (.sipush 3000, 3, xI (3000)), none, none, some (.aload_n 0, 1, xN),
  some (.getfield 88, 3, xF 0 10 0), none, none, some (.isub, 1, xN), some (.if_icmp .le (5), 3, xJ 25), none, none, some (.iconst 0, 1, xI (0)),
  some (.ireturn, 1, xN), some (.iconst 0, 1, xI (0)), some (.istore 4, 2, xN), none, some (.iload 4, 2, xN), none, some (.iload_n 1, 1, xN), some (.if_icmp .ge (30), 3, xJ 61),
  none, none, some (.aload_n 0, 1, xN), some (.getfield 9, 3, xF 0 0 2), none, none, some (.aload_n 0, 1, xN), some (.getfield 88, 3, xF 0 10 0),
  none, none, some (.iload 4, 2, xN), none, some (.iadd, 1, xN), some (.lload_n 2, 1, xN), some (.bipush 8, 2, xI (8)), none,
  some (.iload 4, 2, xN), none, some (.imul, 1, xN), some (.lushr, 1, xN), some (.l2i, 1, xN), some (.i2b, 1, xN), some (.bastore, 1, xJ 2), some (.iinc 4 (1), 3, xI (1)),
  none, none, some (.goto (-30), 3, xJ 28), none, none, some (.aload_n 0, 1, xN), some (.dup, 1, xN), some (.getfield 88, 3, xF 0 10 0),
  none, none, some (.iload_n 1, 1, xN), some (.iadd, 1, xN), some (.putfield 88, 3, xF 0 10 0), none, none, some (.aload_n 0, 1, xN),
  some (.invokevirtual 92, 3, xN), none, none, some (.iconst 1, 1, xI (1)), some (.ireturn, 1, xN)]
def M_F_load : am_Me := (⟨R_F, "load", "(IJ)Z"⟩, prog_1_method_2_code, 5, (some .boolean), Y_F, cd_F_load, 1, 20, 0, 0)
set_option maxRecDepth 100000 in
theorem ok_F_load : am_ok S_c M_F_load := am_ok_ofY (Y := Y_F) (cd := cd_F_load) (by decide +kernel) rfl rfl rfl oY_F (by decide +kernel)
def cd_F_clear : List (Option am_I) := [some (.aload_n 0, 1, xN), some (.iconst 0, 1, xI (0)), some (.putfield 88, 3, xF 0 10 0), none, none, some (.aload_n 0, 1, xN), some (.invokevirtual 92, 3, xN), none,
  none, some (.return_, 1, xN)]
def M_F_clear : am_Me := (⟨R_F, "clear", "()V"⟩, prog_1_method_3_code, 1, none, Y_F, cd_F_clear, 1, 20, 0, 0)
set_option maxRecDepth 100000 in
theorem ok_F_clear : am_ok S_c M_F_clear := am_ok_ofY (Y := Y_F) (cd := cd_F_clear) (by decide +kernel) rfl rfl rfl oY_F (by decide +kernel)
def cd_F_open : List (Option am_I) := [some (.aload_n 0, 1, xN), some (.invokevirtual 92, 3, xN), none, none, some (.aload_n 0, 1, xN), some (.iconst 0, 1, xI (0)), some (.putfield 95, 3, xF 0 12 0), none,
  none, some (.aload_n 0, 1, xN), some (.getfield 18, 3, xF 0 1 2), none, none, some (.aload_n 0, 1, xN), some (.getfield 88, 3, xF 0 10 0), none,
  none, some (.invokevirtual 98, 3, xN), none, none, some (.ifCond .ne (11), 3, xJ 31), none, none, some (.aload_n 0, 1, xN),
  some (.iconst 1, 1, xI (1)), some (.putfield 95, 3, xF 0 12 0), none, none, some (.goto (72), 3, xJ 100), none, none, some (.aload_n 0, 1, xN),
  some (.getfield 34, 3, xF 0 3 2), none, none, some (.invokevirtual 102, 3, xN), none, none, some (.ifCond .ne (11), 3, xJ 49), none,
  none, some (.aload_n 0, 1, xN), some (.iconst 2, 1, xI (2)), some (.putfield 95, 3, xF 0 12 0), none, none, some (.goto (54), 3, xJ 100), none,
  none, some (.aload_n 0, 1, xN), some (.getfield 50, 3, xF 0 5 2), none, none, some (.invokevirtual 105, 3, xN), none, none,
  some (.ifCond .ne (11), 3, xJ 67), none, none, some (.aload_n 0, 1, xN), some (.iconst 3, 1, xI (3)), some (.putfield 95, 3, xF 0 12 0), none, none,
  some (.goto (36), 3, xJ 100), none, none, some (.aload_n 0, 1, xN), some (.getfield 66, 3, xF 0 7 2), none, none, some (.invokevirtual 106, 3, xN),
  none, none, some (.ifCond .ne (11), 3, xJ 85), none, none, some (.aload_n 0, 1, xN), some (.iconst 4, 1, xI (4)), some (.putfield 95, 3, xF 0 12 0),
  none, none, some (.goto (18), 3, xJ 100), none, none, some (.aload_n 0, 1, xN), some (.getfield 75, 3, xF 0 8 2), none,
  none, some (.invokevirtual 107, 3, xN), none, none, some (.ifCond .ne (8), 3, xJ 100), none, none, some (.aload_n 0, 1, xN),
  some (.iconst 5, 1, xI (5)), some (.putfield 95, 3, xF 0 12 0), none, none, some (.aload_n 0, 1, xN), some (.getfield 95, 3, xF 0 12 0), none, none,
  some (.ifCond .eq (11), 3, xJ 115), none, none, some (.new 108, 3, xN), none, none, some (.dup, 1, xN), some (.invokespecial 110, 3, xN),
  none, none, some (.athrow, 1, xN), some (.aload_n 0, 1, xN), some (.iconst 1, 1, xI (1)), some (.putfield 111, 3, xF 0 11 3), none, none,
  some (.aload_n 0, 1, xN), some (.getfield 25, 3, xF 0 2 2), none, none, some (.getfield 115, 3, xF 3 10 0), none, none, some (.ireturn, 1, xN)]
def M_F_open : am_Me := (⟨R_F, "open", "()I"⟩, prog_1_method_4_code, 1, (some .int), Y_F, cd_F_open, 8, 177, 1, 6)
set_option maxRecDepth 100000 in
theorem ok_F_open : am_ok S_c M_F_open := am_ok_ofY (Y := Y_F) (cd := cd_F_open) (by decide +kernel) rfl rfl rfl oY_F (by decide +kernel)
def cd_F_fault : List (Option am_I) := [some (.aload_n 0, 1, xN), some (.getfield 95, 3, xF 0 12 0), none, none, some (.ireturn, 1, xN)]
def M_F_fault : am_Me := (⟨R_F, "fault", "()I"⟩, prog_1_method_5_code, 1, (some .int), Y_F, cd_F_fault, 0, 0, 0, 0)
set_option maxRecDepth 100000 in
theorem ok_F_fault : am_ok S_c M_F_fault := am_ok_ofY (Y := Y_F) (cd := cd_F_fault) (by decide +kernel) rfl rfl rfl oY_F (by decide +kernel)
def cd_F_count : List (Option am_I) := [some (.aload_n 0, 1, xN), some (.getfield 111, 3, xF 0 11 3), none, none, some (.ifCond .ne (5), 3, xJ 9), none, none, some (.iconst (-1), 1, xI (-1)),
  some (.ireturn, 1, xN), some (.iload_n 1, 1, xN), some (.tableswitch (86) (0) (5) #[38, 46, 54, 62, 70, 78], 38, xN), none, none, none, none, none,
  none, none, none, none, none, none, none, none,
  none, none, none, none, none, none, none, none,
  none, none, none, none, none, none, none, none,
  none, none, none, none, none, none, none, none,
  some (.aload_n 0, 1, xN), some (.getfield 18, 3, xF 0 1 2), none, none, some (.getfield 118, 3, xF 1 8 0), none, none, some (.ireturn, 1, xN),
  some (.aload_n 0, 1, xN), some (.getfield 25, 3, xF 0 2 2), none, none, some (.getfield 119, 3, xF 3 11 0), none, none, some (.ireturn, 1, xN),
  some (.aload_n 0, 1, xN), some (.getfield 25, 3, xF 0 2 2), none, none, some (.getfield 115, 3, xF 3 10 0), none, none, some (.ireturn, 1, xN),
  some (.aload_n 0, 1, xN), some (.getfield 41, 3, xF 0 4 2), none, none, some (.getfield 122, 3, xF 6 4 0), none, none, some (.ireturn, 1, xN),
  some (.aload_n 0, 1, xN), some (.getfield 57, 3, xF 0 6 2), none, none, some (.getfield 123, 3, xF 8 8 0), none, none, some (.ireturn, 1, xN),
  some (.aload_n 0, 1, xN), some (.getfield 75, 3, xF 0 8 2), none, none, some (.getfield 124, 3, xF 10 6 0), none, none, some (.ireturn, 1, xN),
  some (.iconst (-1), 1, xI (-1)), some (.ireturn, 1, xN)]
def M_F_count : am_Me := (⟨R_F, "count", "(I)I"⟩, prog_1_method_6_code, 2, (some .int), Y_F, cd_F_count, 0, 0, 0, 0)
set_option maxRecDepth 100000 in
theorem ok_F_count : am_ok S_c M_F_count := am_ok_ofY (Y := Y_F) (cd := cd_F_count) (by decide +kernel) rfl rfl rfl oY_F (by decide +kernel)
def cd_F_find : List (Option am_I) := [some (.aload_n 0, 1, xN), some (.getfield 111, 3, xF 0 11 3), none, none, some (.ifCond .ne (11), 3, xJ 15), none, none, some (.new 125, 3, xN),
  none, none, some (.dup, 1, xN), some (.invokespecial 127, 3, xN), none, none, some (.athrow, 1, xN), some (.aload_n 0, 1, xN),
  some (.getfield 84, 3, xF 0 9 2), none, none, some (.lload_n 1, 1, xN), some (.invokevirtual 128, 3, xN), none, none, some (.ireturn, 1, xN)]
def M_F_find : am_Me := (⟨R_F, "find", "(J)I"⟩, prog_1_method_7_code, 3, (some .int), Y_F, cd_F_find, 6, 148, 1, 6)
set_option maxRecDepth 100000 in
theorem ok_F_find : am_ok S_c M_F_find := am_ok_ofY (Y := Y_F) (cd := cd_F_find) (by decide +kernel) rfl rfl rfl oY_F (by decide +kernel)
def cd_F_name : List (Option am_I) := [some (.aload_n 0, 1, xN), some (.getfield 84, 3, xF 0 9 2), none, none, some (.iload_n 1, 1, xN), some (.invokevirtual 132, 3, xN), none, none,
  some (.ifCond .eq (29), 3, xJ 37), none, none, some (.aload_n 0, 1, xN), some (.aload_n 0, 1, xN), some (.getfield 84, 3, xF 0 9 2), none, none,
  some (.getfield 135, 3, xF 11 6 2), none, none, some (.iload_n 1, 1, xN), some (.iaload, 1, xN), some (.aload_n 0, 1, xN), some (.getfield 84, 3, xF 0 9 2), none,
  none, some (.getfield 139, 3, xF 11 7 2), none, none, some (.iload_n 1, 1, xN), some (.iaload, 1, xN), some (.iload_n 2, 1, xN), some (.invokevirtual 142, 3, xN),
  none, none, some (.goto (4), 3, xJ 38), none, none, some (.iconst (-1), 1, xI (-1)), some (.ireturn, 1, xN)]
def M_F_name : am_Me := (⟨R_F, "name", "(II)I"⟩, prog_1_method_8_code, 3, (some .int), Y_F, cd_F_name, 1, 23, 0, 0)
set_option maxRecDepth 100000 in
theorem ok_F_name : am_ok S_c M_F_name := am_ok_ofY (Y := Y_F) (cd := cd_F_name) (by decide +kernel) rfl rfl rfl oY_F (by decide +kernel)
def cd_F_file : List (Option am_I) := [some (.aload_n 0, 1, xN), some (.getfield 84, 3, xF 0 9 2), none, none, some (.iload_n 1, 1, xN), some (.invokevirtual 132, 3, xN), none, none,
  some (.ifCond .eq (29), 3, xJ 37), none, none, some (.aload_n 0, 1, xN), some (.aload_n 0, 1, xN), some (.getfield 84, 3, xF 0 9 2), none, none,
  some (.getfield 146, 3, xF 11 8 2), none, none, some (.iload_n 1, 1, xN), some (.iaload, 1, xN), some (.aload_n 0, 1, xN), some (.getfield 84, 3, xF 0 9 2), none,
  none, some (.getfield 149, 3, xF 11 9 2), none, none, some (.iload_n 1, 1, xN), some (.iaload, 1, xN), some (.iload_n 2, 1, xN), some (.invokevirtual 142, 3, xN),
  none, none, some (.goto (4), 3, xJ 38), none, none, some (.iconst (-1), 1, xI (-1)), some (.ireturn, 1, xN)]
def M_F_file : am_Me := (⟨R_F, "file", "(II)I"⟩, prog_1_method_9_code, 3, (some .int), Y_F, cd_F_file, 1, 23, 0, 0)
set_option maxRecDepth 100000 in
theorem ok_F_file : am_ok S_c M_F_file := am_ok_ofY (Y := Y_F) (cd := cd_F_file) (by decide +kernel) rfl rfl rfl oY_F (by decide +kernel)
def cd_F_line : List (Option am_I) := [some (.aload_n 0, 1, xN), some (.getfield 84, 3, xF 0 9 2), none, none, some (.iload_n 1, 1, xN), some (.invokevirtual 132, 3, xN), none, none,
  some (.ifCond .eq (15), 3, xJ 23), none, none, some (.aload_n 0, 1, xN), some (.getfield 84, 3, xF 0 9 2), none, none, some (.getfield 152, 3, xF 11 10 2),
  none, none, some (.iload_n 1, 1, xN), some (.iaload, 1, xN), some (.goto (4), 3, xJ 24), none, none, some (.iconst (-1), 1, xI (-1)),
  some (.ireturn, 1, xN)]
def M_F_line : am_Me := (⟨R_F, "line", "(I)I"⟩, prog_1_method_10_code, 2, (some .int), Y_F, cd_F_line, 1, 21, 0, 0)
set_option maxRecDepth 100000 in
theorem ok_F_line : am_ok S_c M_F_line := am_ok_ofY (Y := Y_F) (cd := cd_F_line) (by decide +kernel) rfl rfl rfl oY_F (by decide +kernel)
def cd_F_forget : List (Option am_I) := [some (.aload_n 0, 1, xN), some (.iconst 0, 1, xI (0)), some (.putfield 111, 3, xF 0 11 3), none, none, some (.aload_n 0, 1, xN), some (.getfield 84, 3, xF 0 9 2), none,
  none, some (.iconst 0, 1, xI (0)), some (.putfield 155, 3, xF 11 11 0), none, none, some (.return_, 1, xN)]
def M_F_forget : am_Me := (⟨R_F, "forget", "()V"⟩, prog_1_method_11_code, 1, none, Y_F, cd_F_forget, 0, 0, 0, 0)
set_option maxRecDepth 100000 in
theorem ok_F_forget : am_ok S_c M_F_forget := am_ok_ofY (Y := Y_F) (cd := cd_F_forget) (by decide +kernel) rfl rfl rfl oY_F (by decide +kernel)
def cd_F_character : List (Option am_I) := [some (.iload_n 3, 1, xN), some (.ifCond .lt (10), 3, xJ 11), none, none, some (.iload_n 3, 1, xN), some (.iload_n 2, 1, xN), some (.iload_n 1, 1, xN), some (.isub, 1, xN),
  some (.if_icmp .lt (7), 3, xJ 15), none, none, some (.iconst (-1), 1, xI (-1)), some (.goto (15), 3, xJ 27), none, none, some (.aload_n 0, 1, xN),
  some (.getfield 9, 3, xF 0 0 2), none, none, some (.iload_n 1, 1, xN), some (.iload_n 3, 1, xN), some (.iadd, 1, xN), some (.baload, 1, xJ 2), some (.sipush 255, 3, xI (255)),
  none, none, some (.iand, 1, xN), some (.ireturn, 1, xN)]
def M_F_character : am_Me := (⟨R_F, "character", "(III)I"⟩, prog_1_method_12_code, 4, (some .int), Y_F, cd_F_character, 0, 0, 0, 0)
set_option maxRecDepth 100000 in
theorem ok_F_character : am_ok S_c M_F_character := am_ok_ofY (Y := Y_F) (cd := cd_F_character) (by decide +kernel) rfl rfl rfl oY_F (by decide +kernel)
def cd_F_isBelow : List (Option am_I) := [some (.lload_n 0, 1, xN), some (.ldc2_w 156, 3, xL (-9223372036854775808)), none, none, some (.lxor, 1, xN), some (.lload_n 2, 1, xN), some (.ldc2_w 156, 3, xL (-9223372036854775808)), none,
  none, some (.lxor, 1, xN), some (.lcmp, 1, xN), some (.ifCond .ge (7), 3, xJ 18), none, none, some (.iconst 1, 1, xI (1)), some (.goto (4), 3, xJ 19),
  none, none, some (.iconst 0, 1, xI (0)), some (.ireturn, 1, xN)]
def M_F_isBelow : am_Me := (⟨R_F, "isBelow", "(JJ)Z"⟩, prog_1_method_13_code, 4, (some .boolean), Y_F, cd_F_isBelow, 0, 0, 0, 0)
set_option maxRecDepth 100000 in
theorem ok_F_isBelow : am_ok S_c M_F_isBelow := am_ok_ofY (Y := Y_F) (cd := cd_F_isBelow) (by decide +kernel) rfl rfl rfl oY_F (by decide +kernel)
def cd_F_indexOf : List (Option am_I) := [some (.iconst 0, 1, xI (0)), some (.istore_n 3, 1, xN), some (.iload_n 3, 1, xN), some (.aload_n 0, 1, xN), some (.arraylength, 1, xJ 0), some (.if_icmp .ge (20), 3, xJ 25), none, none,
  some (.aload_n 0, 1, xN), some (.iload_n 3, 1, xN), some (.iaload, 1, xN), some (.i2l, 1, xN), some (.lload_n 1, 1, xN), some (.lcmp, 1, xN), some (.ifCond .ne (5), 3, xJ 19), none,
  none, some (.iload_n 3, 1, xN), some (.ireturn, 1, xN), some (.iinc 3 (1), 3, xI (1)), none, none, some (.goto (-20), 3, xJ 2), none,
  none, some (.iconst (-1), 1, xI (-1)), some (.ireturn, 1, xN)]
def M_F_indexOf : am_Me := (⟨R_F, "indexOf", "([IJ)I"⟩, prog_1_method_14_code, 4, (some .int), Y_F, cd_F_indexOf, 0, 0, 0, 0)
set_option maxRecDepth 100000 in
theorem ok_F_indexOf : am_ok S_c M_F_indexOf := am_ok_ofY (Y := Y_F) (cd := cd_F_indexOf) (by decide +kernel) rfl rfl rfl oY_F (by decide +kernel)
def cd_Se_read : List (Option am_I) := [some (.aload_n 0, 1, xN), some (.iload_n 1, 1, xN), some (.invokevirtual 45, 3, xN), none, none, some (.ifCond .ne (5), 3, xJ 10), none, none,
  some (.iconst 0, 1, xI (0)), some (.ireturn, 1, xN), some (.iconst 0, 1, xI (0)), some (.istore_n 2, 1, xN), some (.iload_n 2, 1, xN), some (.aload_n 0, 1, xN), some (.getfield 49, 3, xF 1 8 0), none,
  none, some (.if_icmp .ge (20), 3, xJ 37), none, none, some (.aload_n 0, 1, xN), some (.iload_n 2, 1, xN), some (.iload_n 1, 1, xN), some (.invokevirtual 53, 3, xN),
  none, none, some (.ifCond .ne (5), 3, xJ 31), none, none, some (.iconst 0, 1, xI (0)), some (.ireturn, 1, xN), some (.iinc 2 (1), 3, xI (1)),
  none, none, some (.goto (-22), 3, xJ 12), none, none, some (.aload_n 0, 1, xN), some (.invokevirtual 57, 3, xN), none,
  none, some (.ireturn, 1, xN)]
def M_Se_read : am_Me := (⟨R_Se, "read", "(I)Z"⟩, prog_9_method_2_code, 3, (some .boolean), Y_Se, cd_Se_read, 7, 155, 0, 0)
set_option maxRecDepth 100000 in
theorem ok_Se_read : am_ok S_c M_Se_read := am_ok_ofY (Y := Y_Se) (cd := cd_Se_read) (by decide +kernel) rfl rfl rfl oY_Se (by decide +kernel)
def cd_Se_point : List (Option am_I) := [some (.aload_n 0, 1, xN), some (.getfield 22, 3, xF 1 5 2), none, none, some (.iload_n 2, 1, xN), some (.iaload, 1, xN), some (.istore 5, 2, xN), none,
  some (.aload_n 0, 1, xN), some (.getfield 25, 3, xF 1 6 2), none, none, some (.iload_n 2, 1, xN), some (.iaload, 1, xN), some (.istore 6, 2, xN), none,
  some (.lload_n 3, 1, xN), some (.lconst 0, 1, xL 0), some (.lcmp, 1, xN), some (.ifCond .lt (18), 3, xJ 37), none, none, some (.lload_n 3, 1, xN), some (.iload 6, 2, xN),
  none, some (.iload 5, 2, xN), none, some (.isub, 1, xN), some (.i2l, 1, xN), some (.lcmp, 1, xN), some (.ifCond .gt (7), 3, xJ 37), none,
  none, some (.iconst 1, 1, xI (1)), some (.goto (4), 3, xJ 38), none, none, some (.iconst 0, 1, xI (0)), some (.istore 7, 2, xN), none,
  some (.aload_n 1, 1, xN), some (.iload 7, 2, xN), none, some (.ifCond .eq (11), 3, xJ 54), none, none, some (.iload 5, 2, xN), none,
  some (.lload_n 3, 1, xN), some (.l2i, 1, xN), some (.iadd, 1, xN), some (.goto (5), 3, xJ 56), none, none, some (.iload 6, 2, xN), none,
  some (.putfield 61, 3, xF 2 1 0), none, none, some (.aload_n 1, 1, xN), some (.iload 6, 2, xN), none, some (.putfield 64, 3, xF 2 2 0), none,
  none, some (.aload_n 1, 1, xN), some (.iload 7, 2, xN), none, some (.ifCond .ne (7), 3, xJ 75), none, none, some (.iconst 1, 1, xI (1)),
  some (.goto (4), 3, xJ 76), none, none, some (.iconst 0, 1, xI (0)), some (.putfield 67, 3, xF 2 3 3), none, none, some (.return_, 1, xN)]
def M_Se_point : am_Me := (⟨R_Se, "point", "(LFrameFinder$Cursor;IJ)V"⟩, prog_9_method_3_code, 8, none, Y_Se, cd_Se_point, 0, 0, 0, 0)
set_option maxRecDepth 100000 in
theorem ok_Se_point : am_ok S_c M_Se_point := am_ok_ofY (Y := Y_Se) (cd := cd_Se_point) (by decide +kernel) rfl rfl rfl oY_Se (by decide +kernel)
def cd_Se_textAt : List (Option am_I) := [some (.aload_n 0, 1, xN), some (.aload_n 0, 1, xN), some (.getfield 41, 3, xF 1 1 2), none, none, some (.iload_n 1, 1, xN), some (.lload_n 2, 1, xN), some (.invokevirtual 71, 3, xN),
  none, none, some (.aload_n 0, 1, xN), some (.getfield 41, 3, xF 1 1 2), none, none, some (.invokevirtual 75, 3, xN), none,
  none, some (.istore 4, 2, xN), none, some (.aload_n 0, 1, xN), some (.getfield 41, 3, xF 1 1 2), none, none, some (.getfield 67, 3, xF 2 3 3),
  none, none, some (.ifCond .eq (7), 3, xJ 33), none, none, some (.iconst (-1), 1, xI (-1)), some (.goto (5), 3, xJ 35), none,
  none, some (.iload 4, 2, xN), none, some (.ireturn, 1, xN)]
def M_Se_textAt : am_Me := (⟨R_Se, "textAt", "(IJ)I"⟩, prog_9_method_4_code, 5, (some .int), Y_Se, cd_Se_textAt, 1, 27, 0, 0)
set_option maxRecDepth 100000 in
theorem ok_Se_textAt : am_ok S_c M_Se_textAt := am_ok_ofY (Y := Y_Se) (cd := cd_Se_textAt) (by decide +kernel) rfl rfl rfl oY_Se (by decide +kernel)
def cd_Se_readHead : List (Option am_I) := [some (.iload_n 1, 1, xN), some (.bipush 64, 2, xI (64)), none, some (.if_icmp .ge (5), 3, xJ 8), none, none, some (.iconst 0, 1, xI (0)), some (.ireturn, 1, xN),
  some (.iconst 0, 1, xI (0)), some (.istore_n 2, 1, xN), some (.iload_n 2, 1, xN), some (.getstatic 79, 3, xS 65 0), none, none, some (.arraylength, 1, xJ 0), some (.if_icmp .ge (25), 3, xJ 40),
  none, none, some (.aload_n 0, 1, xN), some (.getfield 32, 3, xF 1 0 2), none, none, some (.iload_n 2, 1, xN), some (.baload, 1, xJ 2),
  some (.getstatic 79, 3, xS 65 0), none, none, some (.iload_n 2, 1, xN), some (.iaload, 1, xN), some (.if_icmp .eq (5), 3, xJ 34), none, none,
  some (.iconst 0, 1, xI (0)), some (.ireturn, 1, xN), some (.iinc 2 (1), 3, xI (1)), none, none, some (.goto (-27), 3, xJ 10), none, none,
  some (.aload_n 0, 1, xN), some (.getfield 41, 3, xF 1 1 2), none, none, some (.bipush 40, 2, xI (40)), none, some (.iload_n 1, 1, xN), some (.invokevirtual 82, 3, xN),
  none, none, some (.aload_n 0, 1, xN), some (.getfield 41, 3, xF 1 1 2), none, none, some (.bipush 8, 2, xI (8)), none,
  some (.invokevirtual 86, 3, xN), none, none, some (.lstore_n 2, 1, xN), some (.aload_n 0, 1, xN), some (.getfield 41, 3, xF 1 1 2), none, none,
  some (.bipush 58, 2, xI (58)), none, some (.iload_n 1, 1, xN), some (.invokevirtual 82, 3, xN), none, none, some (.aload_n 0, 1, xN), some (.getfield 41, 3, xF 1 1 2),
  none, none, some (.iconst 2, 1, xI (2)), some (.invokevirtual 86, 3, xN), none, none, some (.lstore 4, 2, xN), none,
  some (.aload_n 0, 1, xN), some (.aload_n 0, 1, xN), some (.getfield 41, 3, xF 1 1 2), none, none, some (.iconst 2, 1, xI (2)), some (.invokevirtual 86, 3, xN), none,
  none, some (.l2i, 1, xN), some (.putfield 49, 3, xF 1 8 0), none, none, some (.aload_n 0, 1, xN), some (.aload_n 0, 1, xN), some (.getfield 41, 3, xF 1 1 2),
  none, none, some (.iconst 2, 1, xI (2)), some (.invokevirtual 86, 3, xN), none, none, some (.l2i, 1, xN), some (.putfield 90, 3, xF 1 10 0),
  none, none, some (.lload 4, 2, xN), none, some (.ldc2_w 93, 3, xL (64)), none, none, some (.lcmp, 1, xN),
  some (.ifCond .ne (31), 3, xJ 143), none, none, some (.aload_n 0, 1, xN), some (.getfield 49, 3, xF 1 8 0), none, none, some (.iconst 1, 1, xI (1)),
  some (.if_icmp .lt (23), 3, xJ 143), none, none, some (.aload_n 0, 1, xN), some (.getfield 49, 3, xF 1 8 0), none, none, some (.bipush 24, 2, xI (24)),
  none, some (.if_icmp .gt (14), 3, xJ 143), none, none, some (.aload_n 0, 1, xN), some (.getfield 90, 3, xF 1 10 0), none, none,
  some (.aload_n 0, 1, xN), some (.getfield 49, 3, xF 1 8 0), none, none, some (.if_icmp .lt (5), 3, xJ 145), none, none, some (.iconst 0, 1, xI (0)),
  some (.ireturn, 1, xN), some (.lload_n 2, 1, xN), some (.lconst 0, 1, xL 0), some (.lcmp, 1, xN), some (.ifCond .lt (18), 3, xJ 166), none, none, some (.lload_n 2, 1, xN),
  some (.iload_n 1, 1, xN), some (.bipush 64, 2, xI (64)), none, some (.aload_n 0, 1, xN), some (.getfield 49, 3, xF 1 8 0), none, none, some (.imul, 1, xN),
  some (.isub, 1, xN), some (.i2l, 1, xN), some (.lcmp, 1, xN), some (.ifCond .le (5), 3, xJ 168), none, none, some (.iconst 0, 1, xI (0)), some (.ireturn, 1, xN),
  some (.aload_n 0, 1, xN), some (.lload_n 2, 1, xN), some (.l2i, 1, xN), some (.putfield 95, 3, xF 1 9 0), none, none, some (.iconst 1, 1, xI (1)), some (.ireturn, 1, xN)]
def M_Se_readHead : am_Me := (⟨R_Se, "readHead", "(I)Z"⟩, prog_9_method_5_code, 6, (some .boolean), Y_Se, cd_Se_readHead, 1, 24, 0, 0)
set_option maxRecDepth 100000 in
theorem ok_Se_readHead : am_ok S_c M_Se_readHead := am_ok_ofY (Y := Y_Se) (cd := cd_Se_readHead) (by decide +kernel) rfl rfl rfl oY_Se (by decide +kernel)
def cd_Se_readHeader : List (Option am_I) := [some (.aload_n 0, 1, xN), some (.getfield 41, 3, xF 1 1 2), none, none, some (.aload_n 0, 1, xN), some (.getfield 95, 3, xF 1 9 0), none, none,
  some (.bipush 64, 2, xI (64)), none, some (.iload_n 1, 1, xN), some (.imul, 1, xN), some (.iadd, 1, xN), some (.iload_n 2, 1, xN), some (.invokevirtual 82, 3, xN), none,
  none, some (.aload_n 0, 1, xN), some (.getfield 18, 3, xF 1 4 2), none, none, some (.iload_n 1, 1, xN), some (.aload_n 0, 1, xN), some (.getfield 41, 3, xF 1 1 2),
  none, none, some (.iconst 4, 1, xI (4)), some (.invokevirtual 86, 3, xN), none, none, some (.lastore, 1, xN), some (.aload_n 0, 1, xN),
  some (.getfield 41, 3, xF 1 1 2), none, none, some (.iconst 4, 1, xI (4)), some (.invokevirtual 86, 3, xN), none, none, some (.lstore_n 3, 1, xN),
  some (.aload_n 0, 1, xN), some (.getfield 41, 3, xF 1 1 2), none, none, some (.ldc2_w 98, 3, xL (16)), none, none, some (.invokevirtual 100, 3, xN),
  none, none, some (.aload_n 0, 1, xN), some (.getfield 41, 3, xF 1 1 2), none, none, some (.bipush 8, 2, xI (8)), none,
  some (.invokevirtual 86, 3, xN), none, none, some (.lstore 5, 2, xN), none, some (.aload_n 0, 1, xN), some (.getfield 41, 3, xF 1 1 2), none,
  none, some (.bipush 8, 2, xI (8)), none, some (.invokevirtual 86, 3, xN), none, none, some (.lstore 7, 2, xN), none,
  some (.lload_n 3, 1, xN), some (.ldc2_w 104, 3, xL (8)), none, none, some (.lcmp, 1, xN), some (.ifCond .ne (19), 3, xJ 96), none, none,
  some (.aload_n 0, 1, xN), some (.getfield 9, 3, xF 1 2 2), none, none, some (.iload_n 1, 1, xN), some (.iconst 0, 1, xI (0)), some (.iastore, 1, xN), some (.aload_n 0, 1, xN),
  some (.getfield 15, 3, xF 1 3 2), none, none, some (.iload_n 1, 1, xN), some (.iconst 0, 1, xI (0)), some (.iastore, 1, xN), some (.iconst 1, 1, xI (1)), some (.ireturn, 1, xN),
  some (.lload 5, 2, xN), none, some (.lconst 0, 1, xL 0), some (.lcmp, 1, xN), some (.ifCond .lt (29), 3, xJ 129), none, none, some (.lload 5, 2, xN),
  none, some (.iload_n 2, 1, xN), some (.i2l, 1, xN), some (.lcmp, 1, xN), some (.ifCond .gt (21), 3, xJ 129), none, none, some (.lload 7, 2, xN),
  none, some (.lconst 0, 1, xL 0), some (.lcmp, 1, xN), some (.ifCond .lt (14), 3, xJ 129), none, none, some (.lload 7, 2, xN), none,
  some (.iload_n 2, 1, xN), some (.i2l, 1, xN), some (.lload 5, 2, xN), none, some (.lsub, 1, xN), some (.lcmp, 1, xN), some (.ifCond .le (5), 3, xJ 131), none,
  none, some (.iconst 0, 1, xI (0)), some (.ireturn, 1, xN), some (.aload_n 0, 1, xN), some (.getfield 9, 3, xF 1 2 2), none, none, some (.iload_n 1, 1, xN),
  some (.lload 5, 2, xN), none, some (.l2i, 1, xN), some (.iastore, 1, xN), some (.aload_n 0, 1, xN), some (.getfield 15, 3, xF 1 3 2), none, none,
  some (.iload_n 1, 1, xN), some (.lload 5, 2, xN), none, some (.lload 7, 2, xN), none, some (.ladd, 1, xN), some (.l2i, 1, xN), some (.iastore, 1, xN),
  some (.iconst 1, 1, xI (1)), some (.ireturn, 1, xN)]
def M_Se_readHeader : am_Me := (⟨R_Se, "readHeader", "(II)Z"⟩, prog_9_method_6_code, 9, (some .boolean), Y_Se, cd_Se_readHeader, 1, 24, 0, 0)
set_option maxRecDepth 100000 in
theorem ok_Se_readHeader : am_ok S_c M_Se_readHeader := am_ok_ofY (Y := Y_Se) (cd := cd_Se_readHeader) (by decide +kernel) rfl rfl rfl oY_Se (by decide +kernel)
def cd_Se_readNames : List (Option am_I) := [some (.iconst 0, 1, xI (0)), some (.istore_n 1, 1, xN), some (.iload_n 1, 1, xN), some (.bipush 10, 2, xI (10)), none, some (.if_icmp .ge (30), 3, xJ 35), none, none,
  some (.aload_n 0, 1, xN), some (.getfield 22, 3, xF 1 5 2), none, none, some (.iload_n 1, 1, xN), some (.iconst 0, 1, xI (0)), some (.iastore, 1, xN), some (.aload_n 0, 1, xN),
  some (.getfield 25, 3, xF 1 6 2), none, none, some (.iload_n 1, 1, xN), some (.iconst 0, 1, xI (0)), some (.iastore, 1, xN), some (.aload_n 0, 1, xN), some (.getfield 28, 3, xF 1 7 2),
  none, none, some (.iload_n 1, 1, xN), some (.iconst 0, 1, xI (0)), some (.bastore, 1, xJ 3), some (.iinc 1 (1), 3, xI (1)), none, none,
  some (.goto (-30), 3, xJ 2), none, none, some (.iconst 0, 1, xI (0)), some (.istore_n 1, 1, xN), some (.iload_n 1, 1, xN), some (.aload_n 0, 1, xN), some (.getfield 49, 3, xF 1 8 0),
  none, none, some (.if_icmp .ge (82), 3, xJ 124), none, none, some (.aload_n 0, 1, xN), some (.getfield 41, 3, xF 1 1 2), none,
  none, some (.aload_n 0, 1, xN), some (.getfield 9, 3, xF 1 2 2), none, none, some (.aload_n 0, 1, xN), some (.getfield 90, 3, xF 1 10 0), none,
  none, some (.iaload, 1, xN), some (.aload_n 0, 1, xN), some (.getfield 15, 3, xF 1 3 2), none, none, some (.aload_n 0, 1, xN), some (.getfield 90, 3, xF 1 10 0),
  none, none, some (.iaload, 1, xN), some (.invokevirtual 82, 3, xN), none, none, some (.aload_n 0, 1, xN), some (.getfield 41, 3, xF 1 1 2),
  none, none, some (.aload_n 0, 1, xN), some (.getfield 18, 3, xF 1 4 2), none, none, some (.iload_n 1, 1, xN), some (.laload, 1, xN),
  some (.invokevirtual 100, 3, xN), none, none, some (.aload_n 0, 1, xN), some (.getfield 41, 3, xF 1 1 2), none, none, some (.invokevirtual 75, 3, xN),
  none, none, some (.istore_n 2, 1, xN), some (.aload_n 0, 1, xN), some (.getfield 41, 3, xF 1 1 2), none, none, some (.getfield 67, 3, xF 2 3 3),
  none, none, some (.ifCond .eq (5), 3, xJ 103), none, none, some (.iconst 0, 1, xI (0)), some (.ireturn, 1, xN), some (.aload_n 0, 1, xN),
  some (.iload_n 1, 1, xN), some (.iload_n 2, 1, xN), some (.aload_n 0, 1, xN), some (.getfield 41, 3, xF 1 1 2), none, none, some (.getfield 61, 3, xF 2 1 0), none,
  none, some (.iconst 1, 1, xI (1)), some (.isub, 1, xN), some (.invokevirtual 106, 3, xN), none, none, some (.iinc 1 (1), 3, xI (1)), none,
  none, some (.goto (-84), 3, xJ 37), none, none, some (.iconst 1, 1, xI (1)), some (.ireturn, 1, xN)]
def M_Se_readNames : am_Me := (⟨R_Se, "readNames", "()Z"⟩, prog_9_method_7_code, 3, (some .boolean), Y_Se, cd_Se_readNames, 6, 133, 0, 0)
set_option maxRecDepth 100000 in
theorem ok_Se_readNames : am_ok S_c M_Se_readNames := am_ok_ofY (Y := Y_Se) (cd := cd_Se_readNames) (by decide +kernel) rfl rfl rfl oY_Se (by decide +kernel)
def cd_Se_choose : List (Option am_I) := [some (.iconst 0, 1, xI (0)), some (.istore 4, 2, xN), none, some (.iload 4, 2, xN), none, some (.bipush 10, 2, xI (10)), none, some (.if_icmp .ge (67), 3, xJ 74),
  none, none, some (.aload_n 0, 1, xN), some (.getfield 28, 3, xF 1 7 2), none, none, some (.iload 4, 2, xN), none,
  some (.baload, 1, xJ 3), some (.ifCond .ne (51), 3, xJ 68), none, none, some (.aload_n 0, 1, xN), some (.iload_n 2, 1, xN), some (.iload_n 3, 1, xN), some (.iload 4, 2, xN),
  none, some (.invokestatic 110, 3, xN), none, none, some (.invokevirtual 114, 3, xN), none, none, some (.ifCond .eq (37), 3, xJ 68),
  none, none, some (.aload_n 0, 1, xN), some (.getfield 28, 3, xF 1 7 2), none, none, some (.iload 4, 2, xN), none,
  some (.iconst 1, 1, xI (1)), some (.bastore, 1, xJ 3), some (.aload_n 0, 1, xN), some (.getfield 22, 3, xF 1 5 2), none, none, some (.iload 4, 2, xN), none,
  some (.aload_n 0, 1, xN), some (.getfield 9, 3, xF 1 2 2), none, none, some (.iload_n 1, 1, xN), some (.iaload, 1, xN), some (.iastore, 1, xN), some (.aload_n 0, 1, xN),
  some (.getfield 25, 3, xF 1 6 2), none, none, some (.iload 4, 2, xN), none, some (.aload_n 0, 1, xN), some (.getfield 15, 3, xF 1 3 2), none,
  none, some (.iload_n 1, 1, xN), some (.iaload, 1, xN), some (.iastore, 1, xN), some (.iinc 4 (1), 3, xI (1)), none, none, some (.goto (-68), 3, xJ 3),
  none, none, some (.return_, 1, xN)]
def M_Se_choose : am_Me := (⟨R_Se, "choose", "(III)V"⟩, prog_9_method_8_code, 5, none, Y_Se, cd_Se_choose, 5, 109, 0, 0)
set_option maxRecDepth 100000 in
theorem ok_Se_choose : am_ok S_c M_Se_choose := am_ok_ofY (Y := Y_Se) (cd := cd_Se_choose) (by decide +kernel) rfl rfl rfl oY_Se (by decide +kernel)
def cd_Se_isCalled : List (Option am_I) := [some (.iload_n 2, 1, xN), some (.iload_n 1, 1, xN), some (.isub, 1, xN), some (.aload_n 3, 1, xN), some (.invokevirtual 118, 3, xN), none, none, some (.if_icmp .eq (5), 3, xJ 12),
  none, none, some (.iconst 0, 1, xI (0)), some (.ireturn, 1, xN), some (.iconst 0, 1, xI (0)), some (.istore 4, 2, xN), none, some (.iload 4, 2, xN),
  none, some (.aload_n 3, 1, xN), some (.invokevirtual 118, 3, xN), none, none, some (.if_icmp .ge (29), 3, xJ 50), none, none,
  some (.aload_n 0, 1, xN), some (.getfield 32, 3, xF 1 0 2), none, none, some (.iload_n 1, 1, xN), some (.iload 4, 2, xN), none, some (.iadd, 1, xN),
  some (.baload, 1, xJ 2), some (.aload_n 3, 1, xN), some (.iload 4, 2, xN), none, some (.invokevirtual 123, 3, xN), none, none, some (.if_icmp .eq (5), 3, xJ 44),
  none, none, some (.iconst 0, 1, xI (0)), some (.ireturn, 1, xN), some (.iinc 4 (1), 3, xI (1)), none, none, some (.goto (-32), 3, xJ 15),
  none, none, some (.iconst 1, 1, xI (1)), some (.ireturn, 1, xN)]
def M_Se_isCalled : am_Me := (⟨R_Se, "isCalled", "(IILjava/lang/String;)Z"⟩, prog_9_method_9_code, 5, (some .boolean), Y_Se, cd_Se_isCalled, 4, 85, 0, 0)
set_option maxRecDepth 100000 in
theorem ok_Se_isCalled : am_ok S_c M_Se_isCalled := am_ok_ofY (Y := Y_Se) (cd := cd_Se_isCalled) (by decide +kernel) rfl rfl rfl oY_Se (by decide +kernel)
def cd_Cu_set : List (Option am_I) := [some (.aload_n 0, 1, xN), some (.iload_n 1, 1, xN), some (.putfield 15, 3, xF 2 1 0), none, none, some (.aload_n 0, 1, xN), some (.iload_n 2, 1, xN), some (.putfield 19, 3, xF 2 2 0),
  none, none, some (.aload_n 0, 1, xN), some (.iconst 0, 1, xI (0)), some (.putfield 22, 3, xF 2 3 3), none, none, some (.return_, 1, xN)]
def M_Cu_set : am_Me := (⟨R_Cu, "set", "(II)V"⟩, prog_3_method_2_code, 3, none, Y_Cu, cd_Cu_set, 0, 0, 0, 0)
set_option maxRecDepth 100000 in
theorem ok_Cu_set : am_ok S_c M_Cu_set := am_ok_ofY (Y := Y_Cu) (cd := cd_Cu_set) (by decide +kernel) rfl rfl rfl oY_Cu (by decide +kernel)
def cd_Cu_number : List (Option am_I) := [some (.aload_n 0, 1, xN), some (.getfield 22, 3, xF 2 3 3), none, none, some (.ifCond .ne (16), 3, xJ 20), none, none, some (.aload_n 0, 1, xN),
  some (.getfield 19, 3, xF 2 2 0), none, none, some (.aload_n 0, 1, xN), some (.getfield 15, 3, xF 2 1 0), none, none, some (.isub, 1, xN),
  some (.iload_n 1, 1, xN), some (.if_icmp .ge (10), 3, xJ 27), none, none, some (.aload_n 0, 1, xN), some (.iconst 1, 1, xI (1)), some (.putfield 22, 3, xF 2 3 3), none,
  none, some (.lconst 0, 1, xL 0), some (.lreturn, 1, xN), some (.lconst 0, 1, xL 0), some (.lstore_n 2, 1, xN), some (.iload_n 1, 1, xN), some (.iconst 1, 1, xI (1)), some (.isub, 1, xN),
  some (.istore 4, 2, xN), none, some (.iload 4, 2, xN), none, some (.ifCond .lt (32), 3, xJ 68), none, none, some (.lload_n 2, 1, xN),
  some (.bipush 8, 2, xI (8)), none, some (.lshl, 1, xN), some (.aload_n 0, 1, xN), some (.getfield 9, 3, xF 2 0 2), none, none, some (.aload_n 0, 1, xN),
  some (.getfield 15, 3, xF 2 1 0), none, none, some (.iload 4, 2, xN), none, some (.iadd, 1, xN), some (.baload, 1, xJ 2), some (.sipush 255, 3, xI (255)),
  none, none, some (.iand, 1, xN), some (.i2l, 1, xN), some (.lor, 1, xN), some (.lstore_n 2, 1, xN), some (.iinc 4 (-1), 3, xI (-1)), none,
  none, some (.goto (-31), 3, xJ 34), none, none, some (.aload_n 0, 1, xN), some (.dup, 1, xN), some (.getfield 15, 3, xF 2 1 0), none,
  none, some (.iload_n 1, 1, xN), some (.iadd, 1, xN), some (.putfield 15, 3, xF 2 1 0), none, none, some (.lload_n 2, 1, xN), some (.lreturn, 1, xN)]
def M_Cu_number : am_Me := (⟨R_Cu, "number", "(I)J"⟩, prog_3_method_3_code, 5, (some .long), Y_Cu, cd_Cu_number, 0, 0, 0, 0)
set_option maxRecDepth 100000 in
theorem ok_Cu_number : am_ok S_c M_Cu_number := am_ok_ofY (Y := Y_Cu) (cd := cd_Cu_number) (by decide +kernel) rfl rfl rfl oY_Cu (by decide +kernel)
def cd_Cu_uleb : List (Option am_I) := [some (.aload_n 0, 1, xN), some (.iconst 0, 1, xI (0)), some (.invokevirtual 26, 3, xN), none, none, some (.lreturn, 1, xN)]
def M_Cu_uleb : am_Me := (⟨R_Cu, "uleb", "()J"⟩, prog_3_method_4_code, 1, (some .long), Y_Cu, cd_Cu_uleb, 1, 26, 0, 0)
set_option maxRecDepth 100000 in
theorem ok_Cu_uleb : am_ok S_c M_Cu_uleb := am_ok_ofY (Y := Y_Cu) (cd := cd_Cu_uleb) (by decide +kernel) rfl rfl rfl oY_Cu (by decide +kernel)
def cd_Cu_sleb : List (Option am_I) := [some (.aload_n 0, 1, xN), some (.iconst 1, 1, xI (1)), some (.invokevirtual 26, 3, xN), none, none, some (.lreturn, 1, xN)]
def M_Cu_sleb : am_Me := (⟨R_Cu, "sleb", "()J"⟩, prog_3_method_5_code, 1, (some .long), Y_Cu, cd_Cu_sleb, 1, 26, 0, 0)
set_option maxRecDepth 100000 in
theorem ok_Cu_sleb : am_ok S_c M_Cu_sleb := am_ok_ofY (Y := Y_Cu) (cd := cd_Cu_sleb) (by decide +kernel) rfl rfl rfl oY_Cu (by decide +kernel)
def cd_Cu_leb : List (Option am_I) := [some (.lconst 0, 1, xL 0), some (.lstore_n 2, 1, xN), some (.iconst 0, 1, xI (0)), some (.istore 4, 2, xN), none, some (.iload 4, 2, xN), none, some (.bipush 10, 2, xI (10)),
  none, some (.if_icmp .ge (126), 3, xJ 135), none, none, some (.aload_n 0, 1, xN), some (.getfield 22, 3, xF 2 3 3), none, none,
  some (.ifCond .ne (119), 3, xJ 135), none, none, some (.aload_n 0, 1, xN), some (.getfield 15, 3, xF 2 1 0), none, none, some (.aload_n 0, 1, xN),
  some (.getfield 19, 3, xF 2 2 0), none, none, some (.if_icmp .ge (108), 3, xJ 135), none, none, some (.aload_n 0, 1, xN), some (.getfield 9, 3, xF 2 0 2),
  none, none, some (.aload_n 0, 1, xN), some (.getfield 15, 3, xF 2 1 0), none, none, some (.baload, 1, xJ 2), some (.sipush 255, 3, xI (255)),
  none, none, some (.iand, 1, xN), some (.istore 5, 2, xN), none, some (.aload_n 0, 1, xN), some (.dup, 1, xN), some (.getfield 15, 3, xF 2 1 0),
  none, none, some (.iconst 1, 1, xI (1)), some (.iadd, 1, xN), some (.putfield 15, 3, xF 2 1 0), none, none, some (.lload_n 2, 1, xN),
  some (.iload 5, 2, xN), none, some (.bipush 127, 2, xI (127)), none, some (.iand, 1, xN), some (.i2l, 1, xN), some (.bipush 7, 2, xI (7)), none,
  some (.iload 4, 2, xN), none, some (.imul, 1, xN), some (.lshl, 1, xN), some (.lor, 1, xN), some (.lstore_n 2, 1, xN), some (.iload 5, 2, xN), none,
  some (.sipush 128, 3, xI (128)), none, none, some (.if_icmp .ge (54), 3, xJ 129), none, none, some (.iload_n 1, 1, xN), some (.ifCond .eq (24), 3, xJ 103),
  none, none, some (.iload 5, 2, xN), none, some (.bipush 64, 2, xI (64)), none, some (.iand, 1, xN), some (.ifCond .eq (16), 3, xJ 103),
  none, none, some (.iload 4, 2, xN), none, some (.iconst 1, 1, xI (1)), some (.iadd, 1, xN), some (.bipush 10, 2, xI (10)), none,
  some (.if_icmp .ge (7), 3, xJ 103), none, none, some (.iconst 1, 1, xI (1)), some (.goto (4), 3, xJ 104), none, none, some (.iconst 0, 1, xI (0)),
  some (.istore 6, 2, xN), none, some (.iload 6, 2, xN), none, some (.ifCond .eq (19), 3, xJ 127), none, none, some (.lload_n 2, 1, xN),
  some (.ldc2_w 30, 3, xL (-1)), none, none, some (.bipush 7, 2, xI (7)), none, some (.iload 4, 2, xN), none, some (.iconst 1, 1, xI (1)),
  some (.iadd, 1, xN), some (.imul, 1, xN), some (.lshl, 1, xN), some (.lor, 1, xN), some (.goto (4), 3, xJ 128), none, none, some (.lload_n 2, 1, xN),
  some (.lreturn, 1, xN), some (.iinc 4 (1), 3, xI (1)), none, none, some (.goto (-127), 3, xJ 5), none, none, some (.aload_n 0, 1, xN),
  some (.iconst 1, 1, xI (1)), some (.putfield 22, 3, xF 2 3 3), none, none, some (.lconst 0, 1, xL 0), some (.lreturn, 1, xN)]
def M_Cu_leb : am_Me := (⟨R_Cu, "leb", "(Z)J"⟩, prog_3_method_6_code, 7, (some .long), Y_Cu, cd_Cu_leb, 0, 0, 0, 0)
set_option maxRecDepth 100000 in
theorem ok_Cu_leb : am_ok S_c M_Cu_leb := am_ok_ofY (Y := Y_Cu) (cd := cd_Cu_leb) (by decide +kernel) rfl rfl rfl oY_Cu (by decide +kernel)
def cd_Cu_text : List (Option am_I) := [some (.aload_n 0, 1, xN), some (.getfield 15, 3, xF 2 1 0), none, none, some (.istore_n 1, 1, xN), some (.aload_n 0, 1, xN), some (.getfield 15, 3, xF 2 1 0), none,
  none, some (.istore_n 2, 1, xN), some (.iload_n 2, 1, xN), some (.aload_n 0, 1, xN), some (.getfield 19, 3, xF 2 2 0), none, none, some (.if_icmp .ge (34), 3, xJ 49),
  none, none, some (.aload_n 0, 1, xN), some (.getfield 22, 3, xF 2 3 3), none, none, some (.ifCond .ne (27), 3, xJ 49), none,
  none, some (.aload_n 0, 1, xN), some (.getfield 9, 3, xF 2 0 2), none, none, some (.iload_n 2, 1, xN), some (.baload, 1, xJ 2), some (.ifCond .ne (12), 3, xJ 43),
  none, none, some (.aload_n 0, 1, xN), some (.iload_n 2, 1, xN), some (.iconst 1, 1, xI (1)), some (.iadd, 1, xN), some (.putfield 15, 3, xF 2 1 0), none,
  none, some (.iload_n 1, 1, xN), some (.ireturn, 1, xN), some (.iinc 2 (1), 3, xI (1)), none, none, some (.goto (-36), 3, xJ 10), none,
  none, some (.aload_n 0, 1, xN), some (.iconst 1, 1, xI (1)), some (.putfield 22, 3, xF 2 3 3), none, none, some (.iload_n 1, 1, xN), some (.ireturn, 1, xN)]
def M_Cu_text : am_Me := (⟨R_Cu, "text", "()I"⟩, prog_3_method_7_code, 3, (some .int), Y_Cu, cd_Cu_text, 0, 0, 0, 0)
set_option maxRecDepth 100000 in
theorem ok_Cu_text : am_ok S_c M_Cu_text := am_ok_ofY (Y := Y_Cu) (cd := cd_Cu_text) (by decide +kernel) rfl rfl rfl oY_Cu (by decide +kernel)
def cd_Cu_skip : List (Option am_I) := [some (.aload_n 0, 1, xN), some (.getfield 22, 3, xF 2 3 3), none, none, some (.ifCond .ne (24), 3, xJ 28), none, none, some (.lload_n 1, 1, xN),
  some (.lconst 0, 1, xL 0), some (.lcmp, 1, xN), some (.ifCond .lt (18), 3, xJ 28), none, none, some (.lload_n 1, 1, xN), some (.aload_n 0, 1, xN), some (.getfield 19, 3, xF 2 2 0),
  none, none, some (.aload_n 0, 1, xN), some (.getfield 15, 3, xF 2 1 0), none, none, some (.isub, 1, xN), some (.i2l, 1, xN),
  some (.lcmp, 1, xN), some (.ifCond .le (11), 3, xJ 36), none, none, some (.aload_n 0, 1, xN), some (.iconst 1, 1, xI (1)), some (.putfield 22, 3, xF 2 3 3), none,
  none, some (.goto (14), 3, xJ 47), none, none, some (.aload_n 0, 1, xN), some (.dup, 1, xN), some (.getfield 15, 3, xF 2 1 0), none,
  none, some (.lload_n 1, 1, xN), some (.l2i, 1, xN), some (.iadd, 1, xN), some (.putfield 15, 3, xF 2 1 0), none, none, some (.return_, 1, xN)]
def M_Cu_skip : am_Me := (⟨R_Cu, "skip", "(J)V"⟩, prog_3_method_8_code, 3, none, Y_Cu, cd_Cu_skip, 0, 0, 0, 0)
set_option maxRecDepth 100000 in
theorem ok_Cu_skip : am_ok S_c M_Cu_skip := am_ok_ofY (Y := Y_Cu) (cd := cd_Cu_skip) (by decide +kernel) rfl rfl rfl oY_Cu (by decide +kernel)
def cd_En_forgetAll : List (Option am_I) := [some (.aload_n 0, 1, xN), some (.iconst 0, 1, xI (0)), some (.putfield 43, 3, xF 3 10 0), none, none, some (.aload_n 0, 1, xN), some (.iconst 0, 1, xI (0)), some (.putfield 47, 3, xF 3 11 0),
  none, none, some (.return_, 1, xN)]
def M_En_forgetAll : am_Me := (⟨R_En, "forgetAll", "()V"⟩, prog_4_method_2_code, 1, none, Y_En, cd_En_forgetAll, 0, 0, 0, 0)
set_option maxRecDepth 100000 in
theorem ok_En_forgetAll : am_ok S_c M_En_forgetAll := am_ok_ofY (Y := Y_En) (cd := cd_En_forgetAll) (by decide +kernel) rfl rfl rfl oY_En (by decide +kernel)
def cd_En_addUnit : List (Option am_I) := [some (.aload_n 0, 1, xN), some (.getfield 31, 3, xF 3 6 2), none, none, some (.aload_n 0, 1, xN), some (.getfield 47, 3, xF 3 11 0), none, none,
  some (.iload_n 1, 1, xN), some (.iastore, 1, xN), some (.aload_n 0, 1, xN), some (.getfield 34, 3, xF 3 7 2), none, none, some (.aload_n 0, 1, xN), some (.getfield 47, 3, xF 3 11 0),
  none, none, some (.aload_n 0, 1, xN), some (.getfield 43, 3, xF 3 10 0), none, none, some (.iastore, 1, xN), some (.iconst 0, 1, xI (0)),
  some (.istore_n 2, 1, xN), some (.iload_n 2, 1, xN), some (.iconst 4, 1, xI (4)), some (.if_icmp .ge (37), 3, xJ 64), none, none, some (.aload_n 0, 1, xN), some (.getfield 37, 3, xF 3 8 2),
  none, none, some (.aload_n 0, 1, xN), some (.getfield 47, 3, xF 3 11 0), none, none, some (.iconst 4, 1, xI (4)), some (.imul, 1, xN),
  some (.iload_n 2, 1, xN), some (.iadd, 1, xN), some (.iconst 0, 1, xI (0)), some (.iastore, 1, xN), some (.aload_n 0, 1, xN), some (.getfield 40, 3, xF 3 9 2), none, none,
  some (.aload_n 0, 1, xN), some (.getfield 47, 3, xF 3 11 0), none, none, some (.iconst 4, 1, xI (4)), some (.imul, 1, xN), some (.iload_n 2, 1, xN), some (.iadd, 1, xN),
  some (.lconst 0, 1, xL 0), some (.lastore, 1, xN), some (.iinc 2 (1), 3, xI (1)), none, none, some (.goto (-36), 3, xJ 25), none, none,
  some (.aload_n 0, 1, xN), some (.dup, 1, xN), some (.getfield 47, 3, xF 3 11 0), none, none, some (.iconst 1, 1, xI (1)), some (.iadd, 1, xN), some (.putfield 47, 3, xF 3 11 0),
  none, none, some (.return_, 1, xN)]
def M_En_addUnit : am_Me := (⟨R_En, "addUnit", "(I)V"⟩, prog_4_method_3_code, 3, none, Y_En, cd_En_addUnit, 0, 0, 0, 0)
set_option maxRecDepth 100000 in
theorem ok_En_addUnit : am_ok S_c M_En_addUnit := am_ok_ofY (Y := Y_En) (cd := cd_En_addUnit) (by decide +kernel) rfl rfl rfl oY_En (by decide +kernel)
def cd_En_add : List (Option am_I) := [some (.aload_n 0, 1, xN), some (.getfield 9, 3, xF 3 0 2), none, none, some (.aload_n 0, 1, xN), some (.getfield 43, 3, xF 3 10 0), none, none,
  some (.lload_n 1, 1, xN), some (.lastore, 1, xN), some (.aload_n 0, 1, xN), some (.getfield 15, 3, xF 3 1 2), none, none, some (.aload_n 0, 1, xN), some (.getfield 43, 3, xF 3 10 0),
  none, none, some (.iload_n 3, 1, xN), some (.iastore, 1, xN), some (.aload_n 0, 1, xN), some (.getfield 19, 3, xF 3 2 2), none, none,
  some (.aload_n 0, 1, xN), some (.getfield 43, 3, xF 3 10 0), none, none, some (.aload_n 0, 1, xN), some (.getfield 47, 3, xF 3 11 0), none, none,
  some (.iconst 1, 1, xI (1)), some (.isub, 1, xN), some (.iastore, 1, xN), some (.aload_n 0, 1, xN), some (.getfield 22, 3, xF 3 3 2), none, none, some (.aload_n 0, 1, xN),
  some (.getfield 43, 3, xF 3 10 0), none, none, some (.iload 4, 2, xN), none, some (.iastore, 1, xN), some (.iconst 0, 1, xI (0)), some (.istore 5, 2, xN),
  none, some (.iload 5, 2, xN), none, some (.bipush 7, 2, xI (7)), none, some (.if_icmp .ge (25), 3, xJ 78), none, none,
  some (.aload_n 0, 1, xN), some (.getfield 25, 3, xF 3 4 2), none, none, some (.aload_n 0, 1, xN), some (.getfield 43, 3, xF 3 10 0), none, none,
  some (.bipush 7, 2, xI (7)), none, some (.imul, 1, xN), some (.iload 5, 2, xN), none, some (.iadd, 1, xN), some (.iconst 0, 1, xI (0)), some (.iastore, 1, xN),
  some (.iinc 5 (1), 3, xI (1)), none, none, some (.goto (-26), 3, xJ 49), none, none, some (.aload_n 0, 1, xN), some (.dup, 1, xN),
  some (.getfield 43, 3, xF 3 10 0), none, none, some (.iconst 1, 1, xI (1)), some (.iadd, 1, xN), some (.putfield 43, 3, xF 3 10 0), none, none,
  some (.return_, 1, xN)]
def M_En_add : am_Me := (⟨R_En, "add", "(JII)V"⟩, prog_4_method_4_code, 6, none, Y_En, cd_En_add, 0, 0, 0, 0)
set_option maxRecDepth 100000 in
theorem ok_En_add : am_ok S_c M_En_add := am_ok_ofY (Y := Y_En) (cd := cd_En_add) (by decide +kernel) rfl rfl rfl oY_En (by decide +kernel)
def cd_En_keep : List (Option am_I) := [some (.aload_n 0, 1, xN), some (.getfield 43, 3, xF 3 10 0), none, none, some (.iconst 1, 1, xI (1)), some (.isub, 1, xN), some (.istore 6, 2, xN), none,
  some (.getstatic 50, 3, xS 66 1), none, none, some (.lload_n 1, 1, xN), some (.invokestatic 53, 3, xN), none, none, some (.istore 7, 2, xN),
  none, some (.getstatic 57, 3, xS 67 2), none, none, some (.lload_n 1, 1, xN), some (.invokestatic 53, 3, xN), none, none,
  some (.istore 8, 2, xN), none, some (.iload 7, 2, xN), none, some (.iconst (-1), 1, xI (-1)), some (.if_icmp .eq (34), 3, xJ 63), none, none,
  some (.aload_n 0, 1, xN), some (.iload 6, 2, xN), none, some (.invokevirtual 60, 3, xN), none, none, some (.ifCond .eq (25), 3, xJ 63), none,
  none, some (.aload_n 0, 1, xN), some (.getfield 25, 3, xF 3 4 2), none, none, some (.aload_n 0, 1, xN), some (.getfield 28, 3, xF 3 5 2), none,
  none, some (.iload 6, 2, xN), none, some (.bipush 7, 2, xI (7)), none, some (.imul, 1, xN), some (.iload 7, 2, xN), none,
  some (.iadd, 1, xN), some (.iload_n 3, 1, xN), some (.lload 4, 2, xN), none, some (.invokestatic 64, 3, xN), none, none, some (.iload 8, 2, xN),
  none, some (.iconst (-1), 1, xI (-1)), some (.if_icmp .eq (43), 3, xJ 109), none, none, some (.aload_n 0, 1, xN), some (.getfield 9, 3, xF 3 0 2), none,
  none, some (.iload 6, 2, xN), none, some (.laload, 1, xN), some (.ldc2_w 68, 3, xL (17)), none, none, some (.lcmp, 1, xN),
  some (.ifCond .ne (29), 3, xJ 109), none, none, some (.aload_n 0, 1, xN), some (.getfield 37, 3, xF 3 8 2), none, none, some (.aload_n 0, 1, xN),
  some (.getfield 40, 3, xF 3 9 2), none, none, some (.aload_n 0, 1, xN), some (.getfield 19, 3, xF 3 2 2), none, none, some (.iload 6, 2, xN),
  none, some (.iaload, 1, xN), some (.iconst 4, 1, xI (4)), some (.imul, 1, xN), some (.iload 8, 2, xN), none, some (.iadd, 1, xN), some (.iload_n 3, 1, xN),
  some (.lload 4, 2, xN), none, some (.invokestatic 64, 3, xN), none, none, some (.return_, 1, xN)]
def M_En_keep : am_Me := (⟨R_En, "keep", "(JIJ)V"⟩, prog_4_method_5_code, 9, none, Y_En, cd_En_keep, 1, 25, 0, 0)
set_option maxRecDepth 100000 in
theorem ok_En_keep : am_ok S_c M_En_keep := am_ok_ofY (Y := Y_En) (cd := cd_En_keep) (by decide +kernel) rfl rfl rfl oY_En (by decide +kernel)
def cd_En_isLookedAt : List (Option am_I) := [some (.aload_n 0, 1, xN), some (.getfield 9, 3, xF 3 0 2), none, none, some (.iload_n 1, 1, xN), some (.laload, 1, xN), some (.ldc2_w 68, 3, xL (17)), none,
  none, some (.lcmp, 1, xN), some (.ifCond .eq (42), 3, xJ 52), none, none, some (.aload_n 0, 1, xN), some (.getfield 9, 3, xF 3 0 2), none,
  none, some (.iload_n 1, 1, xN), some (.laload, 1, xN), some (.ldc2_w 70, 3, xL (46)), none, none, some (.lcmp, 1, xN), some (.ifCond .eq (29), 3, xJ 52),
  none, none, some (.aload_n 0, 1, xN), some (.getfield 9, 3, xF 3 0 2), none, none, some (.iload_n 1, 1, xN), some (.laload, 1, xN),
  some (.ldc2_w 72, 3, xL (29)), none, none, some (.lcmp, 1, xN), some (.ifCond .eq (16), 3, xJ 52), none, none, some (.aload_n 0, 1, xN),
  some (.getfield 9, 3, xF 3 0 2), none, none, some (.iload_n 1, 1, xN), some (.laload, 1, xN), some (.ldc2_w 74, 3, xL (11)), none, none,
  some (.lcmp, 1, xN), some (.ifCond .ne (7), 3, xJ 56), none, none, some (.iconst 1, 1, xI (1)), some (.goto (4), 3, xJ 57), none, none,
  some (.iconst 0, 1, xI (0)), some (.ireturn, 1, xN)]
def M_En_isLookedAt : am_Me := (⟨R_En, "isLookedAt", "(I)Z"⟩, prog_4_method_6_code, 2, (some .boolean), Y_En, cd_En_isLookedAt, 0, 0, 0, 0)
set_option maxRecDepth 100000 in
theorem ok_En_isLookedAt : am_ok S_c M_En_isLookedAt := am_ok_ofY (Y := Y_En) (cd := cd_En_isLookedAt) (by decide +kernel) rfl rfl rfl oY_En (by decide +kernel)
def cd_En_has : List (Option am_I) := [some (.aload_n 0, 1, xN), some (.getfield 25, 3, xF 3 4 2), none, none, some (.iload_n 1, 1, xN), some (.bipush 7, 2, xI (7)), none, some (.imul, 1, xN),
  some (.iload_n 2, 1, xN), some (.iadd, 1, xN), some (.iaload, 1, xN), some (.ifCond .eq (7), 3, xJ 18), none, none, some (.iconst 1, 1, xI (1)), some (.goto (4), 3, xJ 19),
  none, none, some (.iconst 0, 1, xI (0)), some (.ireturn, 1, xN)]
def M_En_has : am_Me := (⟨R_En, "has", "(II)Z"⟩, prog_4_method_7_code, 3, (some .boolean), Y_En, cd_En_has, 0, 0, 0, 0)
set_option maxRecDepth 100000 in
theorem ok_En_has : am_ok S_c M_En_has := am_ok_ofY (Y := Y_En) (cd := cd_En_has) (by decide +kernel) rfl rfl rfl oY_En (by decide +kernel)
def cd_En_valueOf : List (Option am_I) := [some (.aload_n 0, 1, xN), some (.getfield 28, 3, xF 3 5 2), none, none, some (.iload_n 1, 1, xN), some (.bipush 7, 2, xI (7)), none, some (.imul, 1, xN),
  some (.iload_n 2, 1, xN), some (.iadd, 1, xN), some (.laload, 1, xN), some (.lreturn, 1, xN)]
def M_En_valueOf : am_Me := (⟨R_En, "valueOf", "(II)J"⟩, prog_4_method_8_code, 3, (some .long), Y_En, cd_En_valueOf, 0, 0, 0, 0)
set_option maxRecDepth 100000 in
theorem ok_En_valueOf : am_ok S_c M_En_valueOf := am_ok_ofY (Y := Y_En) (cd := cd_En_valueOf) (by decide +kernel) rfl rfl rfl oY_En (by decide +kernel)
def cd_En_hasPlaces : List (Option am_I) := [some (.aload_n 0, 1, xN), some (.iload_n 1, 1, xN), some (.iconst 3, 1, xI (3)), some (.invokevirtual 76, 3, xN), none, none, some (.ifCond .ne (21), 3, xJ 27), none,
  none, some (.aload_n 0, 1, xN), some (.iload_n 1, 1, xN), some (.iconst 1, 1, xI (1)), some (.invokevirtual 76, 3, xN), none, none, some (.ifCond .eq (16), 3, xJ 31),
  none, none, some (.aload_n 0, 1, xN), some (.iload_n 1, 1, xN), some (.iconst 2, 1, xI (2)), some (.invokevirtual 76, 3, xN), none, none,
  some (.ifCond .eq (7), 3, xJ 31), none, none, some (.iconst 1, 1, xI (1)), some (.goto (4), 3, xJ 32), none, none, some (.iconst 0, 1, xI (0)),
  some (.ireturn, 1, xN)]
def M_En_hasPlaces : am_Me := (⟨R_En, "hasPlaces", "(I)Z"⟩, prog_4_method_9_code, 2, (some .boolean), Y_En, cd_En_hasPlaces, 1, 22, 0, 0)
set_option maxRecDepth 100000 in
theorem ok_En_hasPlaces : am_ok S_c M_En_hasPlaces := am_ok_ofY (Y := Y_En) (cd := cd_En_hasPlaces) (by decide +kernel) rfl rfl rfl oY_En (by decide +kernel)
def cd_En_keepFirst : List (Option am_I) := [some (.aload_n 0, 1, xN), some (.iload_n 2, 1, xN), some (.iaload, 1, xN), some (.ifCond .ne (12), 3, xJ 15), none, none, some (.aload_n 0, 1, xN), some (.iload_n 2, 1, xN),
  some (.iload_n 3, 1, xN), some (.iastore, 1, xN), some (.aload_n 1, 1, xN), some (.iload_n 2, 1, xN), some (.lload 4, 2, xN), none, some (.lastore, 1, xN), some (.return_, 1, xN)]
def M_En_keepFirst : am_Me := (⟨R_En, "keepFirst", "([I[JIIJ)V"⟩, prog_4_method_10_code, 6, none, Y_En, cd_En_keepFirst, 0, 0, 0, 0)
set_option maxRecDepth 100000 in
theorem ok_En_keepFirst : am_ok S_c M_En_keepFirst := am_ok_ofY (Y := Y_En) (cd := cd_En_keepFirst) (by decide +kernel) rfl rfl rfl oY_En (by decide +kernel)
def cd_Ur_read : List (Option am_I) := [some (.aload_n 0, 1, xN), some (.getfield 15, 3, xF 4 1 2), none, none, some (.invokevirtual 38, 3, xN), none, none, some (.aload_n 0, 1, xN),
  some (.getfield 9, 3, xF 4 0 2), none, none, some (.aload_n 0, 1, xN), some (.getfield 31, 3, xF 4 3 2), none, none, some (.iconst 1, 1, xI (1)),
  some (.lconst 0, 1, xL 0), some (.invokevirtual 43, 3, xN), none, none, some (.aload_n 0, 1, xN), some (.getfield 31, 3, xF 4 3 2), none, none,
  some (.getfield 49, 3, xF 2 2 0), none, none, some (.istore_n 1, 1, xN), some (.iconst 0, 1, xI (0)), some (.istore_n 2, 1, xN), some (.iload_n 2, 1, xN), some (.iconst 4, 1, xI (4)),
  some (.if_icmp .gt (49), 3, xJ 81), none, none, some (.aload_n 0, 1, xN), some (.getfield 31, 3, xF 4 3 2), none, none, some (.getfield 53, 3, xF 2 1 0),
  none, none, some (.iload_n 1, 1, xN), some (.if_icmp .ge (38), 3, xJ 81), none, none, some (.iload_n 2, 1, xN), some (.iconst 4, 1, xI (4)),
  some (.if_icmp .eq (17), 3, xJ 65), none, none, some (.aload_n 0, 1, xN), some (.invokevirtual 56, 3, xN), none, none, some (.ifCond .eq (10), 3, xJ 65),
  none, none, some (.aload_n 0, 1, xN), some (.invokevirtual 60, 3, xN), none, none, some (.ifCond .ne (5), 3, xJ 67), none,
  none, some (.iconst 0, 1, xI (0)), some (.ireturn, 1, xN), some (.aload_n 0, 1, xN), some (.getfield 31, 3, xF 4 3 2), none, none, some (.iload_n 1, 1, xN),
  some (.putfield 49, 3, xF 2 2 0), none, none, some (.iinc 2 (1), 3, xI (1)), none, none, some (.goto (-48), 3, xJ 30), none,
  none, some (.iconst 1, 1, xI (1)), some (.ireturn, 1, xN)]
def M_Ur_read : am_Me := (⟨R_Ur, "read", "()Z"⟩, prog_11_method_2_code, 3, (some .boolean), Y_Ur, cd_Ur_read, 5, 124, 0, 0)
set_option maxRecDepth 100000 in
theorem ok_Ur_read : am_ok S_c M_Ur_read := am_ok_ofY (Y := Y_Ur) (cd := cd_Ur_read) (by decide +kernel) rfl rfl rfl oY_Ur (by decide +kernel)
def cd_Ur_readHead : List (Option am_I) := [some (.aload_n 0, 1, xN), some (.getfield 31, 3, xF 4 3 2), none, none, some (.getfield 53, 3, xF 2 1 0), none, none, some (.istore_n 1, 1, xN),
  some (.aload_n 0, 1, xN), some (.getfield 31, 3, xF 4 3 2), none, none, some (.iconst 4, 1, xI (4)), some (.invokevirtual 63, 3, xN), none, none,
  some (.lstore_n 2, 1, xN), some (.aload_n 0, 1, xN), some (.getfield 31, 3, xF 4 3 2), none, none, some (.getfield 67, 3, xF 2 3 3), none, none,
  some (.ifCond .ne (24), 3, xJ 48), none, none, some (.lload_n 2, 1, xN), some (.aload_n 0, 1, xN), some (.getfield 31, 3, xF 4 3 2), none, none,
  some (.getfield 49, 3, xF 2 2 0), none, none, some (.aload_n 0, 1, xN), some (.getfield 31, 3, xF 4 3 2), none, none, some (.getfield 53, 3, xF 2 1 0),
  none, none, some (.isub, 1, xN), some (.i2l, 1, xN), some (.lcmp, 1, xN), some (.ifCond .le (5), 3, xJ 50), none, none,
  some (.iconst 0, 1, xI (0)), some (.ireturn, 1, xN), some (.aload_n 0, 1, xN), some (.getfield 31, 3, xF 4 3 2), none, none, some (.aload_n 0, 1, xN), some (.getfield 31, 3, xF 4 3 2),
  none, none, some (.getfield 53, 3, xF 2 1 0), none, none, some (.lload_n 2, 1, xN), some (.l2i, 1, xN), some (.iadd, 1, xN),
  some (.putfield 49, 3, xF 2 2 0), none, none, some (.aload_n 0, 1, xN), some (.getfield 31, 3, xF 4 3 2), none, none, some (.iconst 2, 1, xI (2)),
  some (.invokevirtual 63, 3, xN), none, none, some (.ldc2_w 71, 3, xL (5)), none, none, some (.lcmp, 1, xN), some (.ifCond .ne (31), 3, xJ 110),
  none, none, some (.aload_n 0, 1, xN), some (.getfield 31, 3, xF 4 3 2), none, none, some (.iconst 1, 1, xI (1)), some (.invokevirtual 63, 3, xN),
  none, none, some (.lconst 1, 1, xL 1), some (.lcmp, 1, xN), some (.ifCond .ne (18), 3, xJ 110), none, none, some (.aload_n 0, 1, xN),
  some (.getfield 31, 3, xF 4 3 2), none, none, some (.iconst 1, 1, xI (1)), some (.invokevirtual 63, 3, xN), none, none, some (.ldc2_w 73, 3, xL (8)),
  none, none, some (.lcmp, 1, xN), some (.ifCond .eq (5), 3, xJ 112), none, none, some (.iconst 0, 1, xI (0)), some (.ireturn, 1, xN),
  some (.aload_n 0, 1, xN), some (.getfield 31, 3, xF 4 3 2), none, none, some (.iconst 4, 1, xI (4)), some (.invokevirtual 63, 3, xN), none, none,
  some (.lstore 4, 2, xN), none, some (.aload_n 0, 1, xN), some (.getfield 31, 3, xF 4 3 2), none, none, some (.getfield 67, 3, xF 2 3 3), none,
  none, some (.ifCond .eq (5), 3, xJ 134), none, none, some (.iconst 0, 1, xI (0)), some (.ireturn, 1, xN), some (.aload_n 0, 1, xN), some (.getfield 15, 3, xF 4 1 2),
  none, none, some (.iload_n 1, 1, xN), some (.invokevirtual 75, 3, xN), none, none, some (.aload_n 0, 1, xN), some (.getfield 9, 3, xF 4 0 2),
  none, none, some (.aload_n 0, 1, xN), some (.getfield 35, 3, xF 4 4 2), none, none, some (.iconst 0, 1, xI (0)), some (.lload 4, 2, xN),
  none, some (.invokevirtual 43, 3, xN), none, none, some (.aload_n 0, 1, xN), some (.getfield 22, 3, xF 4 2 2), none, none,
  some (.aload_n 0, 1, xN), some (.getfield 35, 3, xF 4 4 2), none, none, some (.invokevirtual 79, 3, xN), none, none, some (.ireturn, 1, xN)]
def M_Ur_readHead : am_Me := (⟨R_Ur, "readHead", "()Z"⟩, prog_11_method_3_code, 6, (some .boolean), Y_Ur, cd_Ur_readHead, 4, 99, 0, 0)
set_option maxRecDepth 100000 in
theorem ok_Ur_readHead : am_ok S_c M_Ur_readHead := am_ok_ofY (Y := Y_Ur) (cd := cd_Ur_readHead) (by decide +kernel) rfl rfl rfl oY_Ur (by decide +kernel)
def cd_Ur_readEntries : List (Option am_I) := [some (.aload_n 0, 1, xN), some (.iconst (-1), 1, xI (-1)), some (.putfield 83, 3, xF 4 5 0), none, none, some (.aload_n 0, 1, xN), some (.iconst 0, 1, xI (0)), some (.putfield 86, 3, xF 4 6 0),
  none, none, some (.aload_n 0, 1, xN), some (.getfield 15, 3, xF 4 1 2), none, none, some (.getfield 89, 3, xF 3 10 0), none,
  none, some (.istore_n 1, 1, xN), some (.iconst 0, 1, xI (0)), some (.istore_n 2, 1, xN), some (.iload_n 2, 1, xN), some (.sipush 3000, 3, xI (3000)), none, none,
  some (.if_icmp .ge (101), 3, xJ 125), none, none, some (.aload_n 0, 1, xN), some (.getfield 31, 3, xF 4 3 2), none, none, some (.getfield 53, 3, xF 2 1 0),
  none, none, some (.aload_n 0, 1, xN), some (.getfield 31, 3, xF 4 3 2), none, none, some (.getfield 49, 3, xF 2 2 0), none,
  none, some (.if_icmp .ge (84), 3, xJ 125), none, none, some (.aload_n 0, 1, xN), some (.getfield 31, 3, xF 4 3 2), none, none,
  some (.getfield 53, 3, xF 2 1 0), none, none, some (.istore_n 3, 1, xN), some (.aload_n 0, 1, xN), some (.getfield 31, 3, xF 4 3 2), none, none,
  some (.invokevirtual 92, 3, xN), none, none, some (.lstore 4, 2, xN), none, some (.aload_n 0, 1, xN), some (.getfield 31, 3, xF 4 3 2), none,
  none, some (.getfield 67, 3, xF 2 3 3), none, none, some (.ifCond .eq (5), 3, xJ 73), none, none, some (.iconst 0, 1, xI (0)),
  some (.ireturn, 1, xN), some (.lload 4, 2, xN), none, some (.lconst 0, 1, xL 0), some (.lcmp, 1, xN), some (.ifCond .ne (10), 3, xJ 87), none, none,
  some (.aload_n 0, 1, xN), some (.invokevirtual 96, 3, xN), none, none, some (.goto (26), 3, xJ 110), none, none, some (.aload_n 0, 1, xN),
  some (.lload 4, 2, xN), none, some (.iload_n 3, 1, xN), some (.aload_n 0, 1, xN), some (.getfield 15, 3, xF 4 1 2), none, none, some (.getfield 89, 3, xF 3 10 0),
  none, none, some (.iload_n 1, 1, xN), some (.if_icmp .ne (7), 3, xJ 106), none, none, some (.iconst 1, 1, xI (1)), some (.goto (4), 3, xJ 107),
  none, none, some (.iconst 0, 1, xI (0)), some (.invokevirtual 99, 3, xN), none, none, some (.istore 6, 2, xN), none,
  some (.iload 6, 2, xN), none, some (.ifCond .ne (5), 3, xJ 119), none, none, some (.iconst 0, 1, xI (0)), some (.ireturn, 1, xN), some (.iinc 2 (1), 3, xI (1)),
  none, none, some (.goto (-102), 3, xJ 20), none, none, some (.aload_n 0, 1, xN), some (.getfield 86, 3, xF 4 6 0), none,
  none, some (.ifCond .ne (18), 3, xJ 147), none, none, some (.aload_n 0, 1, xN), some (.getfield 15, 3, xF 4 1 2), none, none,
  some (.getfield 89, 3, xF 3 10 0), none, none, some (.iload_n 1, 1, xN), some (.if_icmp .le (7), 3, xJ 147), none, none, some (.iconst 1, 1, xI (1)),
  some (.goto (4), 3, xJ 148), none, none, some (.iconst 0, 1, xI (0)), some (.ireturn, 1, xN)]
def M_Ur_readEntries : am_Me := (⟨R_Ur, "readEntries", "()Z"⟩, prog_11_method_4_code, 7, (some .boolean), Y_Ur, cd_Ur_readEntries, 4, 98, 0, 0)
set_option maxRecDepth 100000 in
theorem ok_Ur_readEntries : am_ok S_c M_Ur_readEntries := am_ok_ofY (Y := Y_Ur) (cd := cd_Ur_readEntries) (by decide +kernel) rfl rfl rfl oY_Ur (by decide +kernel)
def cd_Ur_endChildren : List (Option am_I) := [some (.aload_n 0, 1, xN), some (.getfield 86, 3, xF 4 6 0), none, none, some (.ifCond .ne (5), 3, xJ 9), none, none, some (.iconst 0, 1, xI (0)),
  some (.ireturn, 1, xN), some (.aload_n 0, 1, xN), some (.dup, 1, xN), some (.getfield 86, 3, xF 4 6 0), none, none, some (.iconst 1, 1, xI (1)), some (.isub, 1, xN),
  some (.putfield 86, 3, xF 4 6 0), none, none, some (.aload_n 0, 1, xN), some (.aload_n 0, 1, xN), some (.getfield 15, 3, xF 4 1 2), none, none,
  some (.getfield 103, 3, xF 3 1 2), none, none, some (.aload_n 0, 1, xN), some (.getfield 83, 3, xF 4 5 0), none, none, some (.iaload, 1, xN),
  some (.putfield 83, 3, xF 4 5 0), none, none, some (.iconst 1, 1, xI (1)), some (.ireturn, 1, xN)]
def M_Ur_endChildren : am_Me := (⟨R_Ur, "endChildren", "()Z"⟩, prog_11_method_5_code, 1, (some .boolean), Y_Ur, cd_Ur_endChildren, 0, 0, 0, 0)
set_option maxRecDepth 100000 in
theorem ok_Ur_endChildren : am_ok S_c M_Ur_endChildren := am_ok_ofY (Y := Y_Ur) (cd := cd_Ur_endChildren) (by decide +kernel) rfl rfl rfl oY_Ur (by decide +kernel)
def cd_Ur_readEntry : List (Option am_I) := [some (.aload_n 0, 1, xN), some (.getfield 22, 3, xF 4 2 2), none, none, some (.lload_n 1, 1, xN), some (.invokevirtual 107, 3, xN), none, none,
  some (.istore 5, 2, xN), none, some (.iload 5, 2, xN), none, some (.iconst (-1), 1, xI (-1)), some (.if_icmp .eq (16), 3, xJ 29), none, none,
  some (.aload_n 0, 1, xN), some (.getfield 15, 3, xF 4 1 2), none, none, some (.getfield 89, 3, xF 3 10 0), none, none, some (.sipush 200, 3, xI (200)),
  none, none, some (.if_icmp .ne (5), 3, xJ 31), none, none, some (.iconst 0, 1, xI (0)), some (.ireturn, 1, xN), some (.aload_n 0, 1, xN),
  some (.getfield 22, 3, xF 4 2 2), none, none, some (.getfield 111, 3, xF 5 1 2), none, none, some (.iload 5, 2, xN), none,
  some (.laload, 1, xN), some (.ldc2_w 115, 3, xL (17)), none, none, some (.lcmp, 1, xN), some (.ifCond .ne (7), 3, xJ 52), none, none,
  some (.iconst 1, 1, xI (1)), some (.goto (4), 3, xJ 53), none, none, some (.iconst 0, 1, xI (0)), some (.istore 6, 2, xN), none, some (.iload 6, 2, xN),
  none, some (.iload 4, 2, xN), none, some (.if_icmp .ne (15), 3, xJ 74), none, none, some (.iload 4, 2, xN), none,
  some (.ifCond .ne (12), 3, xJ 76), none, none, some (.aload_n 0, 1, xN), some (.getfield 86, 3, xF 4 6 0), none, none, some (.ifCond .ne (5), 3, xJ 76),
  none, none, some (.iconst 0, 1, xI (0)), some (.ireturn, 1, xN), some (.aload_n 0, 1, xN), some (.getfield 15, 3, xF 4 1 2), none, none,
  some (.aload_n 0, 1, xN), some (.getfield 22, 3, xF 4 2 2), none, none, some (.getfield 111, 3, xF 5 1 2), none, none, some (.iload 5, 2, xN),
  none, some (.laload, 1, xN), some (.aload_n 0, 1, xN), some (.getfield 83, 3, xF 4 5 0), none, none, some (.iload_n 3, 1, xN), some (.invokevirtual 117, 3, xN),
  none, none, some (.iload 5, 2, xN), none, some (.bipush 12, 2, xI (12)), none, some (.imul, 1, xN), some (.istore 7, 2, xN),
  none, some (.iload 7, 2, xN), none, some (.istore 8, 2, xN), none, some (.iload 8, 2, xN), none, some (.iload 7, 2, xN),
  none, some (.aload_n 0, 1, xN), some (.getfield 22, 3, xF 4 2 2), none, none, some (.getfield 121, 3, xF 5 3 2), none, none,
  some (.iload 5, 2, xN), none, some (.iaload, 1, xN), some (.iadd, 1, xN), some (.if_icmp .ge (66), 3, xJ 190), none, none, some (.aload_n 0, 1, xN),
  some (.getfield 31, 3, xF 4 3 2), none, none, some (.getfield 67, 3, xF 2 3 3), none, none, some (.ifCond .ne (56), 3, xJ 190), none,
  none, some (.aload_n 0, 1, xN), some (.getfield 22, 3, xF 4 2 2), none, none, some (.getfield 124, 3, xF 5 5 2), none, none,
  some (.iload 8, 2, xN), none, some (.iaload, 1, xN), some (.istore 9, 2, xN), none, some (.aload_n 0, 1, xN), some (.getfield 15, 3, xF 4 1 2), none,
  none, some (.aload_n 0, 1, xN), some (.getfield 22, 3, xF 4 2 2), none, none, some (.getfield 127, 3, xF 5 4 2), none, none,
  some (.iload 8, 2, xN), none, some (.laload, 1, xN), some (.iload 9, 2, xN), none, some (.aload_n 0, 1, xN), some (.iload 9, 2, xN), none,
  some (.aload_n 0, 1, xN), some (.getfield 22, 3, xF 4 2 2), none, none, some (.getfield 130, 3, xF 5 6 2), none, none, some (.iload 8, 2, xN),
  none, some (.laload, 1, xN), some (.invokevirtual 133, 3, xN), none, none, some (.invokevirtual 137, 3, xN), none, none,
  some (.iinc 8 (1), 3, xI (1)), none, none, some (.goto (-78), 3, xJ 109), none, none, some (.aload_n 0, 1, xN), some (.getfield 22, 3, xF 4 2 2),
  none, none, some (.getfield 141, 3, xF 5 2 2), none, none, some (.iload 5, 2, xN), none, some (.baload, 1, xJ 3),
  some (.ifCond .eq (26), 3, xJ 226), none, none, some (.aload_n 0, 1, xN), some (.aload_n 0, 1, xN), some (.getfield 15, 3, xF 4 1 2), none, none,
  some (.getfield 89, 3, xF 3 10 0), none, none, some (.iconst 1, 1, xI (1)), some (.isub, 1, xN), some (.putfield 83, 3, xF 4 5 0), none, none,
  some (.aload_n 0, 1, xN), some (.dup, 1, xN), some (.getfield 86, 3, xF 4 6 0), none, none, some (.iconst 1, 1, xI (1)), some (.iadd, 1, xN), some (.putfield 86, 3, xF 4 6 0),
  none, none, some (.aload_n 0, 1, xN), some (.getfield 31, 3, xF 4 3 2), none, none, some (.getfield 67, 3, xF 2 3 3), none,
  none, some (.ifCond .ne (16), 3, xJ 249), none, none, some (.aload_n 0, 1, xN), some (.getfield 86, 3, xF 4 6 0), none, none,
  some (.bipush 16, 2, xI (16)), none, some (.if_icmp .gt (7), 3, xJ 249), none, none, some (.iconst 1, 1, xI (1)), some (.goto (4), 3, xJ 250), none,
  none, some (.iconst 0, 1, xI (0)), some (.ireturn, 1, xN)]
def M_Ur_readEntry : am_Me := (⟨R_Ur, "readEntry", "(JIZ)Z"⟩, prog_11_method_6_code, 10, (some .boolean), Y_Ur, cd_Ur_readEntry, 3, 69, 0, 0)
set_option maxRecDepth 100000 in
theorem ok_Ur_readEntry : am_ok S_c M_Ur_readEntry := am_ok_ofY (Y := Y_Ur) (cd := cd_Ur_readEntry) (by decide +kernel) rfl rfl rfl oY_Ur (by decide +kernel)
def cd_Ur_readValue : List (Option am_I) := [some (.iload_n 1, 1, xN), some (.tableswitch (236) (1) (37) #[163, 236, 236, 236, 182, 236, 163, 211, 236, 236, 173, 236, 191, 236, 199, 236, 236, 236, 236, 236, 236, 236, 236, 220, 209, 236, 199, 236, 236, 236, 236, 236, 207, 236, 199, 236, 173], 163, xN), none, none, none, none, none, none,
  none, none, none, none, none, none, none, none,
  none, none, none, none, none, none, none, none,
  none, none, none, none, none, none, none, none,
  none, none, none, none, none, none, none, none,
  none, none, none, none, none, none, none, none,
  none, none, none, none, none, none, none, none,
  none, none, none, none, none, none, none, none,
  none, none, none, none, none, none, none, none,
  none, none, none, none, none, none, none, none,
  none, none, none, none, none, none, none, none,
  none, none, none, none, none, none, none, none,
  none, none, none, none, none, none, none, none,
  none, none, none, none, none, none, none, none,
  none, none, none, none, none, none, none, none,
  none, none, none, none, none, none, none, none,
  none, none, none, none, none, none, none, none,
  none, none, none, none, none, none, none, none,
  none, none, none, none, none, none, none, none,
  none, none, none, none, none, none, none, none,
  none, none, none, none, some (.aload_n 0, 1, xN), some (.getfield 31, 3, xF 4 3 2), none, none,
  some (.bipush 8, 2, xI (8)), none, some (.invokevirtual 63, 3, xN), none, none, some (.lreturn, 1, xN), some (.aload_n 0, 1, xN), some (.getfield 31, 3, xF 4 3 2),
  none, none, some (.iconst 1, 1, xI (1)), some (.invokevirtual 63, 3, xN), none, none, some (.lreturn, 1, xN), some (.aload_n 0, 1, xN),
  some (.getfield 31, 3, xF 4 3 2), none, none, some (.iconst 2, 1, xI (2)), some (.invokevirtual 63, 3, xN), none, none, some (.lreturn, 1, xN),
  some (.aload_n 0, 1, xN), some (.getfield 31, 3, xF 4 3 2), none, none, some (.invokevirtual 145, 3, xN), none, none, some (.lreturn, 1, xN),
  some (.aload_n 0, 1, xN), some (.getfield 31, 3, xF 4 3 2), none, none, some (.invokevirtual 92, 3, xN), none, none, some (.lreturn, 1, xN),
  some (.lload_n 2, 1, xN), some (.lreturn, 1, xN), some (.lconst 1, 1, xL 1), some (.lreturn, 1, xN), some (.aload_n 0, 1, xN), some (.getfield 31, 3, xF 4 3 2), none, none,
  some (.invokevirtual 148, 3, xN), none, none, some (.i2l, 1, xN), some (.lreturn, 1, xN), some (.aload_n 0, 1, xN), some (.getfield 31, 3, xF 4 3 2), none,
  none, some (.aload_n 0, 1, xN), some (.getfield 31, 3, xF 4 3 2), none, none, some (.invokevirtual 92, 3, xN), none, none,
  some (.invokevirtual 152, 3, xN), none, none, some (.lconst 0, 1, xL 0), some (.lreturn, 1, xN), some (.aload_n 0, 1, xN), some (.getfield 31, 3, xF 4 3 2), none,
  none, some (.iconst 4, 1, xI (4)), some (.invokevirtual 63, 3, xN), none, none, some (.lreturn, 1, xN)]
def M_Ur_readValue : am_Me := (⟨R_Ur, "readValue", "(IJ)J"⟩, prog_11_method_7_code, 4, (some .long), Y_Ur, cd_Ur_readValue, 2, 46, 0, 0)
set_option maxRecDepth 100000 in
theorem ok_Ur_readValue : am_ok S_c M_Ur_readValue := am_ok_ofY (Y := Y_Ur) (cd := cd_Ur_readValue) (by decide +kernel) rfl rfl rfl oY_Ur (by decide +kernel)
def cd_Ab_read : List (Option am_I) := [some (.aload_n 0, 1, xN), some (.iconst 0, 1, xI (0)), some (.putfield 35, 3, xF 5 7 0), none, none, some (.iconst 0, 1, xI (0)), some (.istore_n 2, 1, xN), some (.iload_n 2, 1, xN),
  some (.bipush 40, 2, xI (40)), none, some (.if_icmp .gt (81), 3, xJ 91), none, none, some (.aload_n 1, 1, xN), some (.invokevirtual 39, 3, xN), none,
  none, some (.lstore_n 3, 1, xN), some (.aload_n 1, 1, xN), some (.getfield 45, 3, xF 2 3 3), none, none, some (.ifCond .eq (5), 3, xJ 27), none,
  none, some (.iconst 0, 1, xI (0)), some (.ireturn, 1, xN), some (.lload_n 3, 1, xN), some (.lconst 0, 1, xL 0), some (.lcmp, 1, xN), some (.ifCond .ne (5), 3, xJ 35), none,
  none, some (.iconst 1, 1, xI (1)), some (.ireturn, 1, xN), some (.aload_n 0, 1, xN), some (.getfield 35, 3, xF 5 7 0), none, none, some (.bipush 40, 2, xI (40)),
  none, some (.if_icmp .eq (12), 3, xJ 53), none, none, some (.aload_n 0, 1, xN), some (.lload_n 3, 1, xN), some (.invokevirtual 49, 3, xN), none,
  none, some (.iconst (-1), 1, xI (-1)), some (.if_icmp .eq (5), 3, xJ 55), none, none, some (.iconst 0, 1, xI (0)), some (.ireturn, 1, xN), some (.aload_n 0, 1, xN),
  some (.getfield 9, 3, xF 5 0 2), none, none, some (.aload_n 0, 1, xN), some (.getfield 35, 3, xF 5 7 0), none, none, some (.lload_n 3, 1, xN),
  some (.lastore, 1, xN), some (.aload_n 0, 1, xN), some (.aload_n 1, 1, xN), some (.invokevirtual 53, 3, xN), none, none, some (.ifCond .ne (5), 3, xJ 75), none,
  none, some (.iconst 0, 1, xI (0)), some (.ireturn, 1, xN), some (.aload_n 0, 1, xN), some (.dup, 1, xN), some (.getfield 35, 3, xF 5 7 0), none, none,
  some (.iconst 1, 1, xI (1)), some (.iadd, 1, xN), some (.putfield 35, 3, xF 5 7 0), none, none, some (.iinc 2 (1), 3, xI (1)), none, none,
  some (.goto (-81), 3, xJ 7), none, none, some (.iconst 0, 1, xI (0)), some (.ireturn, 1, xN)]
def M_Ab_read : am_Me := (⟨R_Ab, "read", "(LFrameFinder$Cursor;)Z"⟩, prog_2_method_2_code, 5, (some .boolean), Y_Ab, cd_Ab_read, 3, 75, 0, 0)
set_option maxRecDepth 100000 in
theorem ok_Ab_read : am_ok S_c M_Ab_read := am_ok_ofY (Y := Y_Ab) (cd := cd_Ab_read) (by decide +kernel) rfl rfl rfl oY_Ab (by decide +kernel)
def cd_Ab_withNumber : List (Option am_I) := [some (.iconst 0, 1, xI (0)), some (.istore_n 3, 1, xN), some (.iload_n 3, 1, xN), some (.aload_n 0, 1, xN), some (.getfield 35, 3, xF 5 7 0), none, none, some (.if_icmp .ge (22), 3, xJ 29),
  none, none, some (.aload_n 0, 1, xN), some (.getfield 9, 3, xF 5 0 2), none, none, some (.iload_n 3, 1, xN), some (.laload, 1, xN),
  some (.lload_n 1, 1, xN), some (.lcmp, 1, xN), some (.ifCond .ne (5), 3, xJ 23), none, none, some (.iload_n 3, 1, xN), some (.ireturn, 1, xN), some (.iinc 3 (1), 3, xI (1)),
  none, none, some (.goto (-24), 3, xJ 2), none, none, some (.iconst (-1), 1, xI (-1)), some (.ireturn, 1, xN)]
def M_Ab_withNumber : am_Me := (⟨R_Ab, "withNumber", "(J)I"⟩, prog_2_method_3_code, 4, (some .int), Y_Ab, cd_Ab_withNumber, 0, 0, 0, 0)
set_option maxRecDepth 100000 in
theorem ok_Ab_withNumber : am_ok S_c M_Ab_withNumber := am_ok_ofY (Y := Y_Ab) (cd := cd_Ab_withNumber) (by decide +kernel) rfl rfl rfl oY_Ab (by decide +kernel)
def cd_Ab_readOne : List (Option am_I) := [some (.aload_n 0, 1, xN), some (.getfield 15, 3, xF 5 1 2), none, none, some (.aload_n 0, 1, xN), some (.getfield 35, 3, xF 5 7 0), none, none,
  some (.aload_n 1, 1, xN), some (.invokevirtual 39, 3, xN), none, none, some (.lastore, 1, xN), some (.aload_n 1, 1, xN), some (.iconst 1, 1, xI (1)), some (.invokevirtual 57, 3, xN),
  none, none, some (.lstore_n 2, 1, xN), some (.aload_n 1, 1, xN), some (.getfield 45, 3, xF 2 3 3), none, none, some (.ifCond .ne (9), 3, xJ 32),
  none, none, some (.lload_n 2, 1, xN), some (.lconst 1, 1, xL 1), some (.lcmp, 1, xN), some (.ifCond .le (5), 3, xJ 34), none, none,
  some (.iconst 0, 1, xI (0)), some (.ireturn, 1, xN), some (.aload_n 0, 1, xN), some (.getfield 18, 3, xF 5 2 2), none, none, some (.aload_n 0, 1, xN), some (.getfield 35, 3, xF 5 7 0),
  none, none, some (.lload_n 2, 1, xN), some (.lconst 1, 1, xL 1), some (.lcmp, 1, xN), some (.ifCond .ne (7), 3, xJ 52), none, none,
  some (.iconst 1, 1, xI (1)), some (.goto (4), 3, xJ 53), none, none, some (.iconst 0, 1, xI (0)), some (.bastore, 1, xJ 3), some (.iconst 0, 1, xI (0)), some (.istore 4, 2, xN),
  none, some (.iload 4, 2, xN), none, some (.bipush 12, 2, xI (12)), none, some (.if_icmp .gt (129), 3, xJ 190), none, none,
  some (.aload_n 1, 1, xN), some (.invokevirtual 39, 3, xN), none, none, some (.lstore 5, 2, xN), none, some (.aload_n 1, 1, xN), some (.invokevirtual 39, 3, xN),
  none, none, some (.lstore 7, 2, xN), none, some (.aload_n 1, 1, xN), some (.getfield 45, 3, xF 2 3 3), none, none,
  some (.ifCond .eq (5), 3, xJ 85), none, none, some (.iconst 0, 1, xI (0)), some (.ireturn, 1, xN), some (.lload 5, 2, xN), none, some (.lconst 0, 1, xL 0),
  some (.lcmp, 1, xN), some (.ifCond .ne (23), 3, xJ 112), none, none, some (.lload 7, 2, xN), none, some (.lconst 0, 1, xL 0), some (.lcmp, 1, xN),
  some (.ifCond .ne (16), 3, xJ 112), none, none, some (.aload_n 0, 1, xN), some (.getfield 22, 3, xF 5 3 2), none, none, some (.aload_n 0, 1, xN),
  some (.getfield 35, 3, xF 5 7 0), none, none, some (.iload 4, 2, xN), none, some (.iastore, 1, xN), some (.iconst 1, 1, xI (1)), some (.ireturn, 1, xN),
  some (.iload 4, 2, xN), none, some (.bipush 12, 2, xI (12)), none, some (.if_icmp .eq (11), 3, xJ 127), none, none, some (.lload 7, 2, xN),
  none, some (.invokestatic 60, 3, xN), none, none, some (.ifCond .ne (5), 3, xJ 129), none, none, some (.iconst 0, 1, xI (0)),
  some (.ireturn, 1, xN), some (.aload_n 0, 1, xN), some (.getfield 35, 3, xF 5 7 0), none, none, some (.bipush 12, 2, xI (12)), none, some (.imul, 1, xN),
  some (.iload 4, 2, xN), none, some (.iadd, 1, xN), some (.istore 9, 2, xN), none, some (.aload_n 0, 1, xN), some (.getfield 26, 3, xF 5 4 2), none,
  none, some (.iload 9, 2, xN), none, some (.lload 5, 2, xN), none, some (.lastore, 1, xN), some (.aload_n 0, 1, xN), some (.getfield 29, 3, xF 5 5 2),
  none, none, some (.iload 9, 2, xN), none, some (.lload 7, 2, xN), none, some (.l2i, 1, xN), some (.iastore, 1, xN),
  some (.aload_n 0, 1, xN), some (.getfield 32, 3, xF 5 6 2), none, none, some (.iload 9, 2, xN), none, some (.lload 7, 2, xN), none,
  some (.ldc2_w 64, 3, xL (33)), none, none, some (.lcmp, 1, xN), some (.ifCond .ne (10), 3, xJ 182), none, none, some (.aload_n 1, 1, xN),
  some (.invokevirtual 66, 3, xN), none, none, some (.goto (4), 3, xJ 183), none, none, some (.lconst 0, 1, xL 0), some (.lastore, 1, xN),
  some (.iinc 4 (1), 3, xI (1)), none, none, some (.goto (-130), 3, xJ 57), none, none, some (.iconst 0, 1, xI (0)), some (.ireturn, 1, xN)]
def M_Ab_readOne : am_Me := (⟨R_Ab, "readOne", "(LFrameFinder$Cursor;)Z"⟩, prog_2_method_4_code, 10, (some .boolean), Y_Ab, cd_Ab_readOne, 2, 46, 0, 0)
set_option maxRecDepth 100000 in
theorem ok_Ab_readOne : am_ok S_c M_Ab_readOne := am_ok_ofY (Y := Y_Ab) (cd := cd_Ab_readOne) (by decide +kernel) rfl rfl rfl oY_Ab (by decide +kernel)
def cd_Ab_isForm : List (Option am_I) := [some (.lload_n 0, 1, xN), some (.lconst 1, 1, xL 1), some (.lcmp, 1, xN), some (.ifCond .eq (57), 3, xJ 60), none, none, some (.lload_n 0, 1, xN), some (.invokestatic 69, 3, xN),
  none, none, some (.ifCond .ne (50), 3, xJ 60), none, none, some (.lload_n 0, 1, xN), some (.invokestatic 72, 3, xN), none,
  none, some (.ifCond .ne (43), 3, xJ 60), none, none, some (.lload_n 0, 1, xN), some (.ldc2_w 75, 3, xL (19)), none, none,
  some (.lcmp, 1, xN), some (.ifCond .eq (35), 3, xJ 60), none, none, some (.lload_n 0, 1, xN), some (.ldc2_w 77, 3, xL (23)), none, none,
  some (.lcmp, 1, xN), some (.ifCond .eq (27), 3, xJ 60), none, none, some (.lload_n 0, 1, xN), some (.ldc2_w 79, 3, xL (24)), none, none,
  some (.lcmp, 1, xN), some (.ifCond .eq (19), 3, xJ 60), none, none, some (.lload_n 0, 1, xN), some (.ldc2_w 81, 3, xL (27)), none, none,
  some (.lcmp, 1, xN), some (.ifCond .eq (11), 3, xJ 60), none, none, some (.lload_n 0, 1, xN), some (.ldc2_w 83, 3, xL (35)), none, none,
  some (.lcmp, 1, xN), some (.ifCond .ne (7), 3, xJ 64), none, none, some (.iconst 1, 1, xI (1)), some (.goto (4), 3, xJ 65), none, none,
  some (.iconst 0, 1, xI (0)), some (.ireturn, 1, xN)]
def M_Ab_isForm : am_Me := (⟨R_Ab, "isForm", "(J)Z"⟩, prog_2_method_5_code, 2, (some .boolean), Y_Ab, cd_Ab_isForm, 1, 21, 0, 0)
set_option maxRecDepth 100000 in
theorem ok_Ab_isForm : am_ok S_c M_Ab_isForm := am_ok_ofY (Y := Y_Ab) (cd := cd_Ab_isForm) (by decide +kernel) rfl rfl rfl oY_Ab (by decide +kernel)
def cd_Ab_isConstantForm : List (Option am_I) := [some (.lload_n 0, 1, xN), some (.ldc2_w 85, 3, xL (11)), none, none, some (.lcmp, 1, xN), some (.ifCond .eq (59), 3, xJ 64), none, none,
  some (.lload_n 0, 1, xN), some (.ldc2_w 87, 3, xL (5)), none, none, some (.lcmp, 1, xN), some (.ifCond .eq (51), 3, xJ 64), none, none,
  some (.lload_n 0, 1, xN), some (.ldc2_w 89, 3, xL (6)), none, none, some (.lcmp, 1, xN), some (.ifCond .eq (43), 3, xJ 64), none, none,
  some (.lload_n 0, 1, xN), some (.ldc2_w 91, 3, xL (7)), none, none, some (.lcmp, 1, xN), some (.ifCond .eq (35), 3, xJ 64), none, none,
  some (.lload_n 0, 1, xN), some (.ldc2_w 93, 3, xL (13)), none, none, some (.lcmp, 1, xN), some (.ifCond .eq (27), 3, xJ 64), none, none,
  some (.lload_n 0, 1, xN), some (.ldc2_w 95, 3, xL (15)), none, none, some (.lcmp, 1, xN), some (.ifCond .eq (19), 3, xJ 64), none, none,
  some (.lload_n 0, 1, xN), some (.ldc2_w 64, 3, xL (33)), none, none, some (.lcmp, 1, xN), some (.ifCond .eq (11), 3, xJ 64), none, none,
  some (.lload_n 0, 1, xN), some (.ldc2_w 97, 3, xL (25)), none, none, some (.lcmp, 1, xN), some (.ifCond .ne (7), 3, xJ 68), none, none,
  some (.iconst 1, 1, xI (1)), some (.goto (4), 3, xJ 69), none, none, some (.iconst 0, 1, xI (0)), some (.ireturn, 1, xN)]
def M_Ab_isConstantForm : am_Me := (⟨R_Ab, "isConstantForm", "(J)Z"⟩, prog_2_method_6_code, 2, (some .boolean), Y_Ab, cd_Ab_isConstantForm, 0, 0, 0, 0)
set_option maxRecDepth 100000 in
theorem ok_Ab_isConstantForm : am_ok S_c M_Ab_isConstantForm := am_ok_ofY (Y := Y_Ab) (cd := cd_Ab_isConstantForm) (by decide +kernel) rfl rfl rfl oY_Ab (by decide +kernel)
def cd_Ab_isTextForm : List (Option am_I) := [some (.lload_n 0, 1, xN), some (.ldc2_w 99, 3, xL (8)), none, none, some (.lcmp, 1, xN), some (.ifCond .eq (27), 3, xJ 32), none, none,
  some (.lload_n 0, 1, xN), some (.ldc2_w 101, 3, xL (14)), none, none, some (.lcmp, 1, xN), some (.ifCond .eq (19), 3, xJ 32), none, none,
  some (.lload_n 0, 1, xN), some (.ldc2_w 103, 3, xL (31)), none, none, some (.lcmp, 1, xN), some (.ifCond .eq (11), 3, xJ 32), none, none,
  some (.lload_n 0, 1, xN), some (.ldc2_w 105, 3, xL (37)), none, none, some (.lcmp, 1, xN), some (.ifCond .ne (7), 3, xJ 36), none, none,
  some (.iconst 1, 1, xI (1)), some (.goto (4), 3, xJ 37), none, none, some (.iconst 0, 1, xI (0)), some (.ireturn, 1, xN)]
def M_Ab_isTextForm : am_Me := (⟨R_Ab, "isTextForm", "(J)Z"⟩, prog_2_method_7_code, 2, (some .boolean), Y_Ab, cd_Ab_isTextForm, 0, 0, 0, 0)
set_option maxRecDepth 100000 in
theorem ok_Ab_isTextForm : am_ok S_c M_Ab_isTextForm := am_ok_ofY (Y := Y_Ab) (cd := cd_Ab_isTextForm) (by decide +kernel) rfl rfl rfl oY_Ab (by decide +kernel)
def cd_Ra_begin : List (Option am_I) := [some (.aload_n 0, 1, xN), some (.getfield 18, 3, xF 6 2 2), none, none, some (.iload_n 1, 1, xN), some (.aload_n 0, 1, xN), some (.getfield 25, 3, xF 6 4 0), none,
  none, some (.iastore, 1, xN), some (.return_, 1, xN)]
def M_Ra_begin : am_Me := (⟨R_Ra, "begin", "(I)V"⟩, prog_7_method_2_code, 2, none, Y_Ra, cd_Ra_begin, 0, 0, 0, 0)
set_option maxRecDepth 100000 in
theorem ok_Ra_begin : am_ok S_c M_Ra_begin := am_ok_ofY (Y := Y_Ra) (cd := cd_Ra_begin) (by decide +kernel) rfl rfl rfl oY_Ra (by decide +kernel)
def cd_Ra_end : List (Option am_I) := [some (.aload_n 0, 1, xN), some (.getfield 22, 3, xF 6 3 2), none, none, some (.iload_n 1, 1, xN), some (.aload_n 0, 1, xN), some (.getfield 25, 3, xF 6 4 0), none,
  none, some (.iastore, 1, xN), some (.return_, 1, xN)]
def M_Ra_end : am_Me := (⟨R_Ra, "end", "(I)V"⟩, prog_7_method_3_code, 2, none, Y_Ra, cd_Ra_end, 0, 0, 0, 0)
set_option maxRecDepth 100000 in
theorem ok_Ra_end : am_ok S_c M_Ra_end := am_ok_ofY (Y := Y_Ra) (cd := cd_Ra_end) (by decide +kernel) rfl rfl rfl oY_Ra (by decide +kernel)
def cd_Ra_add : List (Option am_I) := [some (.aload_n 0, 1, xN), some (.getfield 25, 3, xF 6 4 0), none, none, some (.sipush 300, 3, xI (300)), none, none, some (.if_icmp .ne (5), 3, xJ 12),
  none, none, some (.iconst 0, 1, xI (0)), some (.ireturn, 1, xN), some (.aload_n 0, 1, xN), some (.getfield 9, 3, xF 6 0 2), none, none,
  some (.aload_n 0, 1, xN), some (.getfield 25, 3, xF 6 4 0), none, none, some (.lload_n 1, 1, xN), some (.lastore, 1, xN), some (.aload_n 0, 1, xN), some (.getfield 15, 3, xF 6 1 2),
  none, none, some (.aload_n 0, 1, xN), some (.getfield 25, 3, xF 6 4 0), none, none, some (.lload_n 3, 1, xN), some (.lastore, 1, xN),
  some (.aload_n 0, 1, xN), some (.dup, 1, xN), some (.getfield 25, 3, xF 6 4 0), none, none, some (.iconst 1, 1, xI (1)), some (.iadd, 1, xN), some (.putfield 25, 3, xF 6 4 0),
  none, none, some (.iconst 1, 1, xI (1)), some (.ireturn, 1, xN)]
def M_Ra_add : am_Me := (⟨R_Ra, "add", "(JJ)Z"⟩, prog_7_method_4_code, 5, (some .boolean), Y_Ra, cd_Ra_add, 0, 0, 0, 0)
set_option maxRecDepth 100000 in
theorem ok_Ra_add : am_ok S_c M_Ra_add := am_ok_ofY (Y := Y_Ra) (cd := cd_Ra_add) (by decide +kernel) rfl rfl rfl oY_Ra (by decide +kernel)
def cd_Ra_hold : List (Option am_I) := [some (.aload_n 0, 1, xN), some (.getfield 18, 3, xF 6 2 2), none, none, some (.iload_n 1, 1, xN), some (.iaload, 1, xN), some (.istore 4, 2, xN), none,
  some (.iload 4, 2, xN), none, some (.aload_n 0, 1, xN), some (.getfield 22, 3, xF 6 3 2), none, none, some (.iload_n 1, 1, xN), some (.iaload, 1, xN),
  some (.if_icmp .ge (39), 3, xJ 55), none, none, some (.lload_n 2, 1, xN), some (.aload_n 0, 1, xN), some (.getfield 9, 3, xF 6 0 2), none, none,
  some (.iload 4, 2, xN), none, some (.laload, 1, xN), some (.invokestatic 29, 3, xN), none, none, some (.ifCond .ne (19), 3, xJ 49), none,
  none, some (.lload_n 2, 1, xN), some (.aload_n 0, 1, xN), some (.getfield 15, 3, xF 6 1 2), none, none, some (.iload 4, 2, xN), none,
  some (.laload, 1, xN), some (.invokestatic 29, 3, xN), none, none, some (.ifCond .eq (5), 3, xJ 49), none, none, some (.iconst 1, 1, xI (1)),
  some (.ireturn, 1, xN), some (.iinc 4 (1), 3, xI (1)), none, none, some (.goto (-44), 3, xJ 8), none, none, some (.iconst 0, 1, xI (0)),
  some (.ireturn, 1, xN)]
def M_Ra_hold : am_Me := (⟨R_Ra, "hold", "(IJ)Z"⟩, prog_7_method_5_code, 5, (some .boolean), Y_Ra, cd_Ra_hold, 1, 23, 0, 0)
set_option maxRecDepth 100000 in
theorem ok_Ra_hold : am_ok S_c M_Ra_hold := am_ok_ofY (Y := Y_Ra) (cd := cd_Ra_hold) (by decide +kernel) rfl rfl rfl oY_Ra (by decide +kernel)
def cd_Va_read : List (Option am_I) := [some (.aload_n 0, 1, xN), some (.iconst 0, 1, xI (0)), some (.putfield 35, 3, xF 7 6 3), none, none, some (.aload_n 0, 1, xN), some (.getfield 19, 3, xF 7 2 2), none,
  none, some (.iconst 0, 1, xI (0)), some (.putfield 39, 3, xF 6 4 0), none, none, some (.iconst 0, 1, xI (0)), some (.istore_n 1, 1, xN), some (.iload_n 1, 1, xN),
  some (.aload_n 0, 1, xN), some (.getfield 15, 3, xF 7 1 2), none, none, some (.getfield 45, 3, xF 3 11 0), none, none, some (.iconst 4, 1, xI (4)),
  some (.imul, 1, xN), some (.if_icmp .ge (31), 3, xJ 56), none, none, some (.aload_n 0, 1, xN), some (.getfield 15, 3, xF 7 1 2), none, none,
  some (.getfield 50, 3, xF 3 8 2), none, none, some (.iload_n 1, 1, xN), some (.iaload, 1, xN), some (.istore_n 2, 1, xN), some (.iload_n 2, 1, xN), some (.ifCond .eq (11), 3, xJ 50),
  none, none, some (.iload_n 2, 1, xN), some (.bipush 23, 2, xI (23)), none, some (.if_icmp .eq (5), 3, xJ 50), none, none,
  some (.iconst 0, 1, xI (0)), some (.ireturn, 1, xN), some (.iinc 1 (1), 3, xI (1)), none, none, some (.goto (-38), 3, xJ 15), none, none,
  some (.iconst 0, 1, xI (0)), some (.istore_n 1, 1, xN), some (.iload_n 1, 1, xN), some (.aload_n 0, 1, xN), some (.getfield 15, 3, xF 7 1 2), none, none, some (.getfield 54, 3, xF 3 10 0),
  none, none, some (.if_icmp .ge (101), 3, xJ 167), none, none, some (.aload_n 0, 1, xN), some (.getfield 35, 3, xF 7 6 3), none,
  none, some (.ifCond .ne (94), 3, xJ 167), none, none, some (.aload_n 0, 1, xN), some (.getfield 19, 3, xF 7 2 2), none, none,
  some (.iload_n 1, 1, xN), some (.invokevirtual 55, 3, xN), none, none, some (.aload_n 0, 1, xN), some (.getfield 15, 3, xF 7 1 2), none, none,
  some (.iload_n 1, 1, xN), some (.invokevirtual 59, 3, xN), none, none, some (.ifCond .eq (8), 3, xJ 100), none, none, some (.aload_n 0, 1, xN),
  some (.iload_n 1, 1, xN), some (.invokevirtual 63, 3, xN), none, none, some (.aload_n 0, 1, xN), some (.getfield 15, 3, xF 7 1 2), none, none,
  some (.iload_n 1, 1, xN), some (.iconst 3, 1, xI (3)), some (.invokevirtual 66, 3, xN), none, none, some (.ifCond .eq (11), 3, xJ 120), none, none,
  some (.aload_n 0, 1, xN), some (.iload_n 1, 1, xN), some (.invokevirtual 70, 3, xN), none, none, some (.goto (36), 3, xJ 153), none, none,
  some (.aload_n 0, 1, xN), some (.getfield 15, 3, xF 7 1 2), none, none, some (.iload_n 1, 1, xN), some (.invokevirtual 73, 3, xN), none, none,
  some (.ifCond .eq (25), 3, xJ 153), none, none, some (.aload_n 0, 1, xN), some (.aload_n 0, 1, xN), some (.getfield 15, 3, xF 7 1 2), none, none,
  some (.iload_n 1, 1, xN), some (.iconst 1, 1, xI (1)), some (.invokevirtual 76, 3, xN), none, none, some (.aload_n 0, 1, xN), some (.getfield 15, 3, xF 7 1 2), none,
  none, some (.iload_n 1, 1, xN), some (.iconst 2, 1, xI (2)), some (.invokevirtual 76, 3, xN), none, none, some (.invokevirtual 80, 3, xN), none,
  none, some (.aload_n 0, 1, xN), some (.getfield 19, 3, xF 7 2 2), none, none, some (.iload_n 1, 1, xN), some (.invokevirtual 84, 3, xN), none,
  none, some (.iinc 1 (1), 3, xI (1)), none, none, some (.goto (-106), 3, xJ 58), none, none, some (.aload_n 0, 1, xN),
  some (.getfield 35, 3, xF 7 6 3), none, none, some (.ifCond .ne (7), 3, xJ 178), none, none, some (.iconst 1, 1, xI (1)), some (.goto (4), 3, xJ 179),
  none, none, some (.iconst 0, 1, xI (0)), some (.ireturn, 1, xN)]
def M_Va_read : am_Me := (⟨R_Va, "read", "()Z"⟩, prog_12_method_2_code, 3, (some .boolean), Y_Va, cd_Va_read, 6, 151, 0, 0)
set_option maxRecDepth 100000 in
theorem ok_Va_read : am_ok S_c M_Va_read := am_ok_ofY (Y := Y_Va) (cd := cd_Va_read) (by decide +kernel) rfl rfl rfl oY_Va (by decide +kernel)
def cd_Va_resolve : List (Option am_I) := [some (.iconst 0, 1, xI (0)), some (.istore_n 2, 1, xN), some (.iload_n 2, 1, xN), some (.bipush 7, 2, xI (7)), none, some (.if_icmp .ge (61), 3, xJ 66), none, none,
  some (.aload_n 0, 1, xN), some (.getfield 15, 3, xF 7 1 2), none, none, some (.iload_n 1, 1, xN), some (.iload_n 2, 1, xN), some (.invokevirtual 66, 3, xN), none,
  none, some (.ifCond .eq (43), 3, xJ 60), none, none, some (.iload_n 1, 1, xN), some (.bipush 7, 2, xI (7)), none, some (.imul, 1, xN),
  some (.iload_n 2, 1, xN), some (.iadd, 1, xN), some (.istore_n 3, 1, xN), some (.aload_n 0, 1, xN), some (.getfield 15, 3, xF 7 1 2), none, none, some (.getfield 87, 3, xF 3 5 2),
  none, none, some (.iload_n 3, 1, xN), some (.aload_n 0, 1, xN), some (.iload_n 1, 1, xN), some (.iload_n 2, 1, xN), some (.aload_n 0, 1, xN), some (.getfield 15, 3, xF 7 1 2),
  none, none, some (.getfield 91, 3, xF 3 4 2), none, none, some (.iload_n 3, 1, xN), some (.iaload, 1, xN), some (.aload_n 0, 1, xN),
  some (.getfield 15, 3, xF 7 1 2), none, none, some (.getfield 87, 3, xF 3 5 2), none, none, some (.iload_n 3, 1, xN), some (.laload, 1, xN),
  some (.invokevirtual 94, 3, xN), none, none, some (.lastore, 1, xN), some (.iinc 2 (1), 3, xI (1)), none, none, some (.goto (-61), 3, xJ 2),
  none, none, some (.return_, 1, xN)]
def M_Va_resolve : am_Me := (⟨R_Va, "resolve", "(I)V"⟩, prog_12_method_3_code, 4, none, Y_Va, cd_Va_resolve, 5, 128, 0, 0)
set_option maxRecDepth 100000 in
theorem ok_Va_resolve : am_ok S_c M_Va_resolve := am_ok_ofY (Y := Y_Va) (cd := cd_Va_resolve) (by decide +kernel) rfl rfl rfl oY_Va (by decide +kernel)
def cd_Va_resolved : List (Option am_I) := [some (.aload_n 0, 1, xN), some (.getfield 15, 3, xF 7 1 2), none, none, some (.getfield 98, 3, xF 3 2 2), none, none, some (.iload_n 1, 1, xN),
  some (.iaload, 1, xN), some (.istore 6, 2, xN), none, some (.iload_n 2, 1, xN), some (.tableswitch (105) (0) (4) #[36, 46, 56, 85, 95], 36, xN), none, none, none,
  none, none, none, none, none, none, none, none,
  none, none, none, none, none, none, none, none,
  none, none, none, none, none, none, none, none,
  none, none, none, none, none, none, none, none,
  some (.aload_n 0, 1, xN), some (.iload 6, 2, xN), none, some (.iload_n 3, 1, xN), some (.lload 4, 2, xN), none, some (.invokevirtual 101, 3, xN), none,
  none, some (.lreturn, 1, xN), some (.aload_n 0, 1, xN), some (.iload 6, 2, xN), none, some (.iload_n 3, 1, xN), some (.lload 4, 2, xN), none,
  some (.invokevirtual 105, 3, xN), none, none, some (.lreturn, 1, xN), some (.iload_n 3, 1, xN), some (.i2l, 1, xN), some (.invokestatic 108, 3, xN), none,
  none, some (.ifCond .eq (14), 3, xJ 87), none, none, some (.aload_n 0, 1, xN), some (.iload_n 1, 1, xN), some (.invokevirtual 114, 3, xN), none,
  none, some (.lload 4, 2, xN), none, some (.ladd, 1, xN), some (.goto (12), 3, xJ 96), none, none, some (.aload_n 0, 1, xN),
  some (.iload 6, 2, xN), none, some (.iload_n 3, 1, xN), some (.lload 4, 2, xN), none, some (.invokevirtual 105, 3, xN), none, none,
  some (.lreturn, 1, xN), some (.aload_n 0, 1, xN), some (.iload 6, 2, xN), none, some (.iload_n 3, 1, xN), some (.lload 4, 2, xN), none, some (.invokevirtual 118, 3, xN),
  none, none, some (.lreturn, 1, xN), some (.aload_n 0, 1, xN), some (.iload 6, 2, xN), none, some (.iload_n 3, 1, xN), some (.lload 4, 2, xN),
  none, some (.invokevirtual 121, 3, xN), none, none, some (.lreturn, 1, xN), some (.iload_n 3, 1, xN), some (.i2l, 1, xN), some (.invokestatic 108, 3, xN),
  none, none, some (.ifCond .eq (8), 3, xJ 130), none, none, some (.lload 4, 2, xN), none, some (.goto (7), 3, xJ 134),
  none, none, some (.aload_n 0, 1, xN), some (.invokevirtual 124, 3, xN), none, none, some (.lreturn, 1, xN)]
def M_Va_resolved : am_Me := (⟨R_Va, "resolved", "(IIIJ)J"⟩, prog_12_method_4_code, 7, (some .long), Y_Va, cd_Va_resolved, 4, 102, 0, 0)
set_option maxRecDepth 100000 in
theorem ok_Va_resolved : am_ok S_c M_Va_resolved := am_ok_ofY (Y := Y_Va) (cd := cd_Va_resolved) (by decide +kernel) rfl rfl rfl oY_Va (by decide +kernel)
def cd_Va_lowOf : List (Option am_I) := [some (.aload_n 0, 1, xN), some (.getfield 15, 3, xF 7 1 2), none, none, some (.iload_n 1, 1, xN), some (.iconst 1, 1, xI (1)), some (.invokevirtual 66, 3, xN), none,
  none, some (.ifCond .eq (15), 3, xJ 24), none, none, some (.aload_n 0, 1, xN), some (.getfield 15, 3, xF 7 1 2), none, none,
  some (.iload_n 1, 1, xN), some (.iconst 1, 1, xI (1)), some (.invokevirtual 76, 3, xN), none, none, some (.goto (4), 3, xJ 25), none, none,
  some (.lconst 0, 1, xL 0), some (.lreturn, 1, xN)]
def M_Va_lowOf : am_Me := (⟨R_Va, "lowOf", "(I)J"⟩, prog_12_method_5_code, 2, (some .long), Y_Va, cd_Va_lowOf, 1, 22, 0, 0)
set_option maxRecDepth 100000 in
theorem ok_Va_lowOf : am_ok S_c M_Va_lowOf := am_ok_ofY (Y := Y_Va) (cd := cd_Va_lowOf) (by decide +kernel) rfl rfl rfl oY_Va (by decide +kernel)
def cd_Va_text : List (Option am_I) := [some (.iload_n 2, 1, xN), some (.lookupswitch (78) #[(8, 43), (14, 45), (31, 52), (37, 59)], 43, xN), none, none, none, none, none, none,
  none, none, none, none, none, none, none, none,
  none, none, none, none, none, none, none, none,
  none, none, none, none, none, none, none, none,
  none, none, none, none, none, none, none, none,
  none, none, none, none, some (.lload_n 3, 1, xN), some (.lreturn, 1, xN), some (.aload_n 0, 1, xN), some (.iconst 2, 1, xI (2)),
  some (.lload_n 3, 1, xN), some (.invokevirtual 128, 3, xN), none, none, some (.lreturn, 1, xN), some (.aload_n 0, 1, xN), some (.iconst 3, 1, xI (3)), some (.lload_n 3, 1, xN),
  some (.invokevirtual 128, 3, xN), none, none, some (.lreturn, 1, xN), some (.aload_n 0, 1, xN), some (.iconst 2, 1, xI (2)), some (.aload_n 0, 1, xN), some (.iconst 4, 1, xI (4)),
  some (.aload_n 0, 1, xN), some (.iload_n 1, 1, xN), some (.iconst 1, 1, xI (1)), some (.invokevirtual 132, 3, xN), none, none, some (.lload_n 3, 1, xN), some (.iconst 4, 1, xI (4)),
  some (.invokevirtual 135, 3, xN), none, none, some (.invokevirtual 128, 3, xN), none, none, some (.lreturn, 1, xN), some (.aload_n 0, 1, xN),
  some (.invokevirtual 124, 3, xN), none, none, some (.lreturn, 1, xN)]
def M_Va_text : am_Me := (⟨R_Va, "text", "(IIJ)J"⟩, prog_12_method_6_code, 5, (some .long), Y_Va, cd_Va_text, 3, 75, 0, 0)
set_option maxRecDepth 100000 in
theorem ok_Va_text : am_ok S_c M_Va_text := am_ok_ofY (Y := Y_Va) (cd := cd_Va_text) (by decide +kernel) rfl rfl rfl oY_Va (by decide +kernel)
def cd_Va_textAt : List (Option am_I) := [some (.aload_n 0, 1, xN), some (.getfield 9, 3, xF 7 0 2), none, none, some (.iload_n 1, 1, xN), some (.lload_n 2, 1, xN), some (.invokevirtual 139, 3, xN), none,
  none, some (.istore 4, 2, xN), none, some (.iload 4, 2, xN), none, some (.iconst (-1), 1, xI (-1)), some (.if_icmp .ne (10), 3, xJ 24), none,
  none, some (.aload_n 0, 1, xN), some (.invokevirtual 124, 3, xN), none, none, some (.goto (6), 3, xJ 27), none, none,
  some (.iload 4, 2, xN), none, some (.i2l, 1, xN), some (.lreturn, 1, xN)]
def M_Va_textAt : am_Me := (⟨R_Va, "textAt", "(IJ)J"⟩, prog_12_method_7_code, 5, (some .long), Y_Va, cd_Va_textAt, 2, 51, 0, 0)
set_option maxRecDepth 100000 in
theorem ok_Va_textAt : am_ok S_c M_Va_textAt := am_ok_ofY (Y := Y_Va) (cd := cd_Va_textAt) (by decide +kernel) rfl rfl rfl oY_Va (by decide +kernel)
def cd_Va_address : List (Option am_I) := [some (.iload_n 2, 1, xN), some (.iconst 1, 1, xI (1)), some (.if_icmp .ne (5), 3, xJ 7), none, none, some (.lload_n 3, 1, xN), some (.lreturn, 1, xN), some (.iload_n 2, 1, xN),
  some (.bipush 27, 2, xI (27)), none, some (.if_icmp .ne (12), 3, xJ 22), none, none, some (.aload_n 0, 1, xN), some (.iload_n 1, 1, xN), some (.lload_n 3, 1, xN),
  some (.invokevirtual 144, 3, xN), none, none, some (.goto (7), 3, xJ 26), none, none, some (.aload_n 0, 1, xN), some (.invokevirtual 124, 3, xN),
  none, none, some (.lreturn, 1, xN)]
def M_Va_address : am_Me := (⟨R_Va, "address", "(IIJ)J"⟩, prog_12_method_8_code, 5, (some .long), Y_Va, cd_Va_address, 3, 78, 0, 0)
set_option maxRecDepth 100000 in
theorem ok_Va_address : am_ok S_c M_Va_address := am_ok_ofY (Y := Y_Va) (cd := cd_Va_address) (by decide +kernel) rfl rfl rfl oY_Va (by decide +kernel)
def cd_Va_listPlace : List (Option am_I) := [some (.iload_n 2, 1, xN), some (.bipush 23, 2, xI (23)), none, some (.if_icmp .ne (5), 3, xJ 8), none, none, some (.lload_n 3, 1, xN), some (.lreturn, 1, xN),
  some (.aload_n 0, 1, xN), some (.iload_n 1, 1, xN), some (.iconst 3, 1, xI (3)), some (.invokevirtual 132, 3, xN), none, none, some (.lstore 5, 2, xN), none,
  some (.iload_n 2, 1, xN), some (.bipush 35, 2, xI (35)), none, some (.if_icmp .ne (19), 3, xJ 38), none, none, some (.lload 5, 2, xN), none,
  some (.aload_n 0, 1, xN), some (.bipush 6, 2, xI (6)), none, some (.lload 5, 2, xN), none, some (.lload_n 3, 1, xN), some (.iconst 4, 1, xI (4)), some (.invokevirtual 135, 3, xN),
  none, none, some (.ladd, 1, xN), some (.goto (7), 3, xJ 42), none, none, some (.aload_n 0, 1, xN), some (.invokevirtual 124, 3, xN),
  none, none, some (.lreturn, 1, xN)]
def M_Va_listPlace : am_Me := (⟨R_Va, "listPlace", "(IIJ)J"⟩, prog_12_method_9_code, 7, (some .long), Y_Va, cd_Va_listPlace, 2, 55, 0, 0)
set_option maxRecDepth 100000 in
theorem ok_Va_listPlace : am_ok S_c M_Va_listPlace := am_ok_ofY (Y := Y_Va) (cd := cd_Va_listPlace) (by decide +kernel) rfl rfl rfl oY_Va (by decide +kernel)
def cd_Va_origin : List (Option am_I) := [some (.iload_n 2, 1, xN), some (.bipush 19, 2, xI (19)), none, some (.if_icmp .eq (8), 3, xJ 11), none, none, some (.aload_n 0, 1, xN), some (.invokevirtual 124, 3, xN),
  none, none, some (.lreturn, 1, xN), some (.aload_n 0, 1, xN), some (.getfield 15, 3, xF 7 1 2), none, none, some (.getfield 147, 3, xF 3 7 2),
  none, none, some (.iload_n 1, 1, xN), some (.iaload, 1, xN), some (.istore 5, 2, xN), none, some (.iload 5, 2, xN), none,
  some (.aload_n 0, 1, xN), some (.getfield 15, 3, xF 7 1 2), none, none, some (.getfield 54, 3, xF 3 10 0), none, none, some (.if_icmp .ge (99), 3, xJ 130),
  none, none, some (.aload_n 0, 1, xN), some (.getfield 15, 3, xF 7 1 2), none, none, some (.getfield 98, 3, xF 3 2 2), none,
  none, some (.iload 5, 2, xN), none, some (.iaload, 1, xN), some (.iload_n 1, 1, xN), some (.if_icmp .ne (85), 3, xJ 130), none, none,
  some (.aload_n 0, 1, xN), some (.getfield 15, 3, xF 7 1 2), none, none, some (.getfield 150, 3, xF 3 0 2), none, none, some (.iload 5, 2, xN),
  none, some (.laload, 1, xN), some (.ldc2_w 153, 3, xL (46)), none, none, some (.lcmp, 1, xN), some (.ifCond .eq (20), 3, xJ 82), none,
  none, some (.aload_n 0, 1, xN), some (.getfield 15, 3, xF 7 1 2), none, none, some (.getfield 150, 3, xF 3 0 2), none, none,
  some (.iload 5, 2, xN), none, some (.laload, 1, xN), some (.ldc2_w 155, 3, xL (29)), none, none, some (.lcmp, 1, xN), some (.ifCond .ne (7), 3, xJ 86),
  none, none, some (.iconst 1, 1, xI (1)), some (.goto (4), 3, xJ 87), none, none, some (.iconst 0, 1, xI (0)), some (.istore 6, 2, xN),
  none, some (.iload 6, 2, xN), none, some (.ifCond .eq (33), 3, xJ 124), none, none, some (.aload_n 0, 1, xN), some (.getfield 15, 3, xF 7 1 2),
  none, none, some (.getfield 157, 3, xF 3 3 2), none, none, some (.iload 5, 2, xN), none, some (.iaload, 1, xN),
  some (.aload_n 0, 1, xN), some (.getfield 15, 3, xF 7 1 2), none, none, some (.getfield 160, 3, xF 3 6 2), none, none, some (.iload_n 1, 1, xN),
  some (.iaload, 1, xN), some (.isub, 1, xN), some (.i2l, 1, xN), some (.lload_n 3, 1, xN), some (.lcmp, 1, xN), some (.ifCond .ne (7), 3, xJ 124), none, none,
  some (.iload 5, 2, xN), none, some (.i2l, 1, xN), some (.lreturn, 1, xN), some (.iinc 5 (1), 3, xI (1)), none, none, some (.goto (-105), 3, xJ 22),
  none, none, some (.aload_n 0, 1, xN), some (.invokevirtual 124, 3, xN), none, none, some (.lreturn, 1, xN)]
def M_Va_origin : am_Me := (⟨R_Va, "origin", "(IIJ)J"⟩, prog_12_method_10_code, 7, (some .long), Y_Va, cd_Va_origin, 1, 20, 0, 0)
set_option maxRecDepth 100000 in
theorem ok_Va_origin : am_ok S_c M_Va_origin := am_ok_ofY (Y := Y_Va) (cd := cd_Va_origin) (by decide +kernel) rfl rfl rfl oY_Va (by decide +kernel)
def cd_Va_readList : List (Option am_I) := [some (.aload_n 0, 1, xN), some (.getfield 15, 3, xF 7 1 2), none, none, some (.getfield 98, 3, xF 3 2 2), none, none, some (.iload_n 1, 1, xN),
  some (.iaload, 1, xN), some (.istore_n 2, 1, xN), some (.aload_n 0, 1, xN), some (.aload_n 0, 1, xN), some (.aload_n 0, 1, xN), some (.getfield 15, 3, xF 7 1 2), none, none,
  some (.getfield 147, 3, xF 3 7 2), none, none, some (.iload_n 2, 1, xN), some (.iaload, 1, xN), some (.invokevirtual 114, 3, xN), none, none,
  some (.putfield 163, 3, xF 7 5 1), none, none, some (.aload_n 0, 1, xN), some (.getfield 9, 3, xF 7 0 2), none, none, some (.aload_n 0, 1, xN),
  some (.getfield 28, 3, xF 7 3 2), none, none, some (.bipush 6, 2, xI (6)), none, some (.aload_n 0, 1, xN), some (.getfield 15, 3, xF 7 1 2), none,
  none, some (.iload_n 1, 1, xN), some (.iconst 3, 1, xI (3)), some (.invokevirtual 76, 3, xN), none, none, some (.invokevirtual 167, 3, xN), none,
  none, some (.iconst 0, 1, xI (0)), some (.istore_n 3, 1, xN), some (.iload_n 3, 1, xN), some (.sipush 3000, 3, xI (3000)), none, none, some (.if_icmp .ge (76), 3, xJ 131),
  none, none, some (.aload_n 0, 1, xN), some (.getfield 35, 3, xF 7 6 3), none, none, some (.ifCond .ne (69), 3, xJ 131), none,
  none, some (.aload_n 0, 1, xN), some (.getfield 28, 3, xF 7 3 2), none, none, some (.iconst 1, 1, xI (1)), some (.invokevirtual 171, 3, xN), none,
  none, some (.l2i, 1, xN), some (.istore 4, 2, xN), none, some (.iload 4, 2, xN), none, some (.ifCond .ne (14), 3, xJ 92), none,
  none, some (.aload_n 0, 1, xN), some (.getfield 28, 3, xF 7 3 2), none, none, some (.getfield 174, 3, xF 2 3 3), none, none,
  some (.ifCond .ne (4), 3, xJ 92), none, none, some (.return_, 1, xN), some (.aload_n 0, 1, xN), some (.iload_n 2, 1, xN), some (.iload 4, 2, xN), none,
  some (.invokevirtual 175, 3, xN), none, none, some (.aload_n 0, 1, xN), some (.aload_n 0, 1, xN), some (.getfield 35, 3, xF 7 6 3), none, none,
  some (.ifCond .ne (13), 3, xJ 117), none, none, some (.aload_n 0, 1, xN), some (.getfield 28, 3, xF 7 3 2), none, none, some (.getfield 174, 3, xF 2 3 3),
  none, none, some (.ifCond .eq (7), 3, xJ 121), none, none, some (.iconst 1, 1, xI (1)), some (.goto (4), 3, xJ 122), none,
  none, some (.iconst 0, 1, xI (0)), some (.putfield 35, 3, xF 7 6 3), none, none, some (.iinc 3 (1), 3, xI (1)), none, none,
  some (.goto (-77), 3, xJ 51), none, none, some (.return_, 1, xN)]
def M_Va_readList : am_Me := (⟨R_Va, "readList", "(I)V"⟩, prog_12_method_11_code, 5, none, Y_Va, cd_Va_readList, 5, 126, 0, 0)
set_option maxRecDepth 100000 in
theorem ok_Va_readList : am_ok S_c M_Va_readList := am_ok_ofY (Y := Y_Va) (cd := cd_Va_readList) (by decide +kernel) rfl rfl rfl oY_Va (by decide +kernel)
def cd_Va_readPiece : List (Option am_I) := [some (.iload_n 2, 1, xN), some (.iconst 1, 1, xI (1)), some (.if_icmp .ne (22), 3, xJ 24), none, none, some (.aload_n 0, 1, xN), some (.aload_n 0, 1, xN), some (.iload_n 1, 1, xN),
  some (.aload_n 0, 1, xN), some (.getfield 28, 3, xF 7 3 2), none, none, some (.invokevirtual 179, 3, xN), none, none, some (.invokevirtual 144, 3, xN),
  none, none, some (.putfield 163, 3, xF 7 5 1), none, none, some (.goto (134), 3, xJ 155), none, none,
  some (.iload_n 2, 1, xN), some (.iconst 5, 1, xI (5)), some (.if_icmp .ne (19), 3, xJ 45), none, none, some (.aload_n 0, 1, xN), some (.aload_n 0, 1, xN), some (.getfield 28, 3, xF 7 3 2),
  none, none, some (.bipush 8, 2, xI (8)), none, some (.invokevirtual 171, 3, xN), none, none, some (.putfield 163, 3, xF 7 5 1),
  none, none, some (.goto (113), 3, xJ 155), none, none, some (.iload_n 2, 1, xN), some (.iconst 4, 1, xI (4)), some (.if_icmp .ne (36), 3, xJ 83),
  none, none, some (.aload_n 0, 1, xN), some (.getfield 163, 3, xF 7 5 1), none, none, some (.aload_n 0, 1, xN), some (.getfield 28, 3, xF 7 3 2),
  none, none, some (.invokevirtual 179, 3, xN), none, none, some (.ladd, 1, xN), some (.lstore_n 3, 1, xN), some (.aload_n 0, 1, xN),
  some (.lload_n 3, 1, xN), some (.aload_n 0, 1, xN), some (.getfield 163, 3, xF 7 5 1), none, none, some (.aload_n 0, 1, xN), some (.getfield 28, 3, xF 7 3 2), none,
  none, some (.invokevirtual 179, 3, xN), none, none, some (.ladd, 1, xN), some (.invokevirtual 80, 3, xN), none, none,
  some (.goto (75), 3, xJ 155), none, none, some (.iload_n 2, 1, xN), some (.iconst 2, 1, xI (2)), some (.if_icmp .eq (20), 3, xJ 105), none, none,
  some (.iload_n 2, 1, xN), some (.iconst 3, 1, xI (3)), some (.if_icmp .eq (15), 3, xJ 105), none, none, some (.iload_n 2, 1, xN), some (.bipush 6, 2, xI (6)), none,
  some (.if_icmp .eq (9), 3, xJ 105), none, none, some (.iload_n 2, 1, xN), some (.bipush 7, 2, xI (7)), none, some (.if_icmp .ne (48), 3, xJ 150), none,
  none, some (.iload_n 2, 1, xN), some (.iconst 4, 1, xI (4)), some (.if_icmp .ge (18), 3, xJ 125), none, none, some (.aload_n 0, 1, xN), some (.iload_n 1, 1, xN),
  some (.aload_n 0, 1, xN), some (.getfield 28, 3, xF 7 3 2), none, none, some (.invokevirtual 179, 3, xN), none, none, some (.invokevirtual 144, 3, xN),
  none, none, some (.goto (12), 3, xJ 134), none, none, some (.aload_n 0, 1, xN), some (.getfield 28, 3, xF 7 3 2), none,
  none, some (.bipush 8, 2, xI (8)), none, some (.invokevirtual 171, 3, xN), none, none, some (.lstore_n 3, 1, xN), some (.aload_n 0, 1, xN),
  some (.lload_n 3, 1, xN), some (.aload_n 0, 1, xN), some (.iload_n 1, 1, xN), some (.iload_n 2, 1, xN), some (.lload_n 3, 1, xN), some (.invokevirtual 182, 3, xN), none, none,
  some (.invokevirtual 80, 3, xN), none, none, some (.goto (8), 3, xJ 155), none, none, some (.aload_n 0, 1, xN), some (.invokevirtual 124, 3, xN),
  none, none, some (.pop2, 1, xN), some (.return_, 1, xN)]
def M_Va_readPiece : am_Me := (⟨R_Va, "readPiece", "(II)V"⟩, prog_12_method_12_code, 5, none, Y_Va, cd_Va_readPiece, 4, 102, 0, 0)
set_option maxRecDepth 100000 in
theorem ok_Va_readPiece : am_ok S_c M_Va_readPiece := am_ok_ofY (Y := Y_Va) (cd := cd_Va_readPiece) (by decide +kernel) rfl rfl rfl oY_Va (by decide +kernel)
def cd_Va_rangeEnd : List (Option am_I) := [some (.iload_n 2, 1, xN), some (.iconst 2, 1, xI (2)), some (.if_icmp .ne (16), 3, xJ 18), none, none, some (.aload_n 0, 1, xN), some (.iload_n 1, 1, xN), some (.aload_n 0, 1, xN),
  some (.getfield 28, 3, xF 7 3 2), none, none, some (.invokevirtual 179, 3, xN), none, none, some (.invokevirtual 144, 3, xN), none,
  none, some (.lreturn, 1, xN), some (.iload_n 2, 1, xN), some (.bipush 6, 2, xI (6)), none, some (.if_icmp .ne (15), 3, xJ 36), none, none,
  some (.aload_n 0, 1, xN), some (.getfield 28, 3, xF 7 3 2), none, none, some (.bipush 8, 2, xI (8)), none, some (.invokevirtual 171, 3, xN), none,
  none, some (.goto (12), 3, xJ 45), none, none, some (.lload_n 3, 1, xN), some (.aload_n 0, 1, xN), some (.getfield 28, 3, xF 7 3 2), none,
  none, some (.invokevirtual 179, 3, xN), none, none, some (.ladd, 1, xN), some (.lreturn, 1, xN)]
def M_Va_rangeEnd : am_Me := (⟨R_Va, "rangeEnd", "(IIJ)J"⟩, prog_12_method_13_code, 5, (some .long), Y_Va, cd_Va_rangeEnd, 3, 78, 0, 0)
set_option maxRecDepth 100000 in
theorem ok_Va_rangeEnd : am_ok S_c M_Va_rangeEnd := am_ok_ofY (Y := Y_Va) (cd := cd_Va_rangeEnd) (by decide +kernel) rfl rfl rfl oY_Va (by decide +kernel)
def cd_Va_addRange : List (Option am_I) := [some (.aload_n 0, 1, xN), some (.getfield 19, 3, xF 7 2 2), none, none, some (.lload_n 1, 1, xN), some (.lload_n 3, 1, xN), some (.invokevirtual 185, 3, xN), none,
  none, some (.ifCond .ne (8), 3, xJ 17), none, none, some (.aload_n 0, 1, xN), some (.invokevirtual 124, 3, xN), none, none,
  some (.pop2, 1, xN), some (.return_, 1, xN)]
def M_Va_addRange : am_Me := (⟨R_Va, "addRange", "(JJ)V"⟩, prog_12_method_14_code, 5, none, Y_Va, cd_Va_addRange, 1, 24, 0, 0)
set_option maxRecDepth 100000 in
theorem ok_Va_addRange : am_ok S_c M_Va_addRange := am_ok_ofY (Y := Y_Va) (cd := cd_Va_addRange) (by decide +kernel) rfl rfl rfl oY_Va (by decide +kernel)
def cd_Va_addressAt : List (Option am_I) := [some (.aload_n 0, 1, xN), some (.iconst 5, 1, xI (5)), some (.aload_n 0, 1, xN), some (.iload_n 1, 1, xN), some (.iconst 2, 1, xI (2)), some (.invokevirtual 132, 3, xN), none, none,
  some (.lload_n 2, 1, xN), some (.bipush 8, 2, xI (8)), none, some (.invokevirtual 135, 3, xN), none, none, some (.lreturn, 1, xN)]
def M_Va_addressAt : am_Me := (⟨R_Va, "addressAt", "(IJ)J"⟩, prog_12_method_15_code, 4, (some .long), Y_Va, cd_Va_addressAt, 2, 55, 0, 0)
set_option maxRecDepth 100000 in
theorem ok_Va_addressAt : am_ok S_c M_Va_addressAt := am_ok_ofY (Y := Y_Va) (cd := cd_Va_addressAt) (by decide +kernel) rfl rfl rfl oY_Va (by decide +kernel)
def cd_Va_baseOf : List (Option am_I) := [some (.aload_n 0, 1, xN), some (.getfield 15, 3, xF 7 1 2), none, none, some (.getfield 189, 3, xF 3 9 2), none, none, some (.iload_n 1, 1, xN),
  some (.iconst 4, 1, xI (4)), some (.imul, 1, xN), some (.iload_n 2, 1, xN), some (.iadd, 1, xN), some (.laload, 1, xN), some (.lreturn, 1, xN)]
def M_Va_baseOf : am_Me := (⟨R_Va, "baseOf", "(II)J"⟩, prog_12_method_16_code, 3, (some .long), Y_Va, cd_Va_baseOf, 0, 0, 0, 0)
set_option maxRecDepth 100000 in
theorem ok_Va_baseOf : am_ok S_c M_Va_baseOf := am_ok_ofY (Y := Y_Va) (cd := cd_Va_baseOf) (by decide +kernel) rfl rfl rfl oY_Va (by decide +kernel)
def cd_Va_numberAt : List (Option am_I) := [some (.lload 4, 2, xN), none, some (.lconst 0, 1, xL 0), some (.lcmp, 1, xN), some (.ifCond .lt (12), 3, xJ 16), none, none, some (.lload 4, 2, xN),
  none, some (.ldc2_w 192, 3, xL (3000)), none, none, some (.lcmp, 1, xN), some (.ifCond .le (8), 3, xJ 21), none, none,
  some (.aload_n 0, 1, xN), some (.invokevirtual 124, 3, xN), none, none, some (.lreturn, 1, xN), some (.aload_n 0, 1, xN), some (.getfield 9, 3, xF 7 0 2), none,
  none, some (.aload_n 0, 1, xN), some (.getfield 32, 3, xF 7 4 2), none, none, some (.iload_n 1, 1, xN), some (.lload_n 2, 1, xN), some (.lload 4, 2, xN),
  none, some (.iload 6, 2, xN), none, some (.i2l, 1, xN), some (.lmul, 1, xN), some (.ladd, 1, xN), some (.invokevirtual 167, 3, xN), none,
  none, some (.aload_n 0, 1, xN), some (.getfield 32, 3, xF 7 4 2), none, none, some (.iload 6, 2, xN), none, some (.invokevirtual 171, 3, xN),
  none, none, some (.lstore 7, 2, xN), none, some (.aload_n 0, 1, xN), some (.aload_n 0, 1, xN), some (.getfield 35, 3, xF 7 6 3), none,
  none, some (.ifCond .ne (13), 3, xJ 70), none, none, some (.aload_n 0, 1, xN), some (.getfield 32, 3, xF 7 4 2), none, none,
  some (.getfield 174, 3, xF 2 3 3), none, none, some (.ifCond .eq (7), 3, xJ 74), none, none, some (.iconst 1, 1, xI (1)), some (.goto (4), 3, xJ 75),
  none, none, some (.iconst 0, 1, xI (0)), some (.putfield 35, 3, xF 7 6 3), none, none, some (.lload 7, 2, xN), none,
  some (.lreturn, 1, xN)]
def M_Va_numberAt : am_Me := (⟨R_Va, "numberAt", "(IJJI)J"⟩, prog_12_method_17_code, 9, (some .long), Y_Va, cd_Va_numberAt, 1, 27, 0, 0)
set_option maxRecDepth 100000 in
theorem ok_Va_numberAt : am_ok S_c M_Va_numberAt := am_ok_ofY (Y := Y_Va) (cd := cd_Va_numberAt) (by decide +kernel) rfl rfl rfl oY_Va (by decide +kernel)
def cd_Va_wrong : List (Option am_I) := [some (.aload_n 0, 1, xN), some (.iconst 1, 1, xI (1)), some (.putfield 35, 3, xF 7 6 3), none, none, some (.lconst 0, 1, xL 0), some (.lreturn, 1, xN)]
def M_Va_wrong : am_Me := (⟨R_Va, "wrong", "()J"⟩, prog_12_method_18_code, 1, (some .long), Y_Va, cd_Va_wrong, 0, 0, 0, 0)
set_option maxRecDepth 100000 in
theorem ok_Va_wrong : am_ok S_c M_Va_wrong := am_ok_ofY (Y := Y_Va) (cd := cd_Va_wrong) (by decide +kernel) rfl rfl rfl oY_Va (by decide +kernel)
def cd_Ro_forgetAll : List (Option am_I) := [some (.aload_n 0, 1, xN), some (.iconst 0, 1, xI (0)), some (.putfield 38, 3, xF 8 8 0), none, none, some (.return_, 1, xN)]
def M_Ro_forgetAll : am_Me := (⟨R_Ro, "forgetAll", "()V"⟩, prog_8_method_2_code, 1, none, Y_Ro, cd_Ro_forgetAll, 0, 0, 0, 0)
set_option maxRecDepth 100000 in
theorem ok_Ro_forgetAll : am_ok S_c M_Ro_forgetAll := am_ok_ofY (Y := Y_Ro) (cd := cd_Ro_forgetAll) (by decide +kernel) rfl rfl rfl oY_Ro (by decide +kernel)
def cd_Ro_begin : List (Option am_I) := [some (.aload_n 0, 1, xN), some (.getfield 26, 3, xF 8 4 2), none, none, some (.iload_n 1, 1, xN), some (.aload_n 0, 1, xN), some (.getfield 38, 3, xF 8 8 0), none,
  none, some (.iastore, 1, xN), some (.aload_n 0, 1, xN), some (.getfield 32, 3, xF 8 6 2), none, none, some (.iload_n 1, 1, xN), some (.iconst 0, 1, xI (0)),
  some (.iastore, 1, xN), some (.return_, 1, xN)]
def M_Ro_begin : am_Me := (⟨R_Ro, "begin", "(I)V"⟩, prog_8_method_3_code, 2, none, Y_Ro, cd_Ro_begin, 0, 0, 0, 0)
set_option maxRecDepth 100000 in
theorem ok_Ro_begin : am_ok S_c M_Ro_begin := am_ok_ofY (Y := Y_Ro) (cd := cd_Ro_begin) (by decide +kernel) rfl rfl rfl oY_Ro (by decide +kernel)
def cd_Ro_end : List (Option am_I) := [some (.aload_n 0, 1, xN), some (.getfield 29, 3, xF 8 5 2), none, none, some (.iload_n 1, 1, xN), some (.aload_n 0, 1, xN), some (.getfield 38, 3, xF 8 8 0), none,
  none, some (.iastore, 1, xN), some (.return_, 1, xN)]
def M_Ro_end : am_Me := (⟨R_Ro, "end", "(I)V"⟩, prog_8_method_4_code, 2, none, Y_Ro, cd_Ro_end, 0, 0, 0, 0)
set_option maxRecDepth 100000 in
theorem ok_Ro_end : am_ok S_c M_Ro_end := am_ok_ofY (Y := Y_Ro) (cd := cd_Ro_end) (by decide +kernel) rfl rfl rfl oY_Ro (by decide +kernel)
def cd_Ro_add : List (Option am_I) := [some (.aload_n 0, 1, xN), some (.getfield 38, 3, xF 8 8 0), none, none, some (.sipush 400, 3, xI (400)), none, none, some (.if_icmp .ne (5), 3, xJ 12),
  none, none, some (.iconst 0, 1, xI (0)), some (.ireturn, 1, xN), some (.aload_n 0, 1, xN), some (.getfield 9, 3, xF 8 0 2), none, none,
  some (.aload_n 0, 1, xN), some (.getfield 38, 3, xF 8 8 0), none, none, some (.lload_n 1, 1, xN), some (.lastore, 1, xN), some (.aload_n 0, 1, xN), some (.getfield 15, 3, xF 8 1 2),
  none, none, some (.aload_n 0, 1, xN), some (.getfield 38, 3, xF 8 8 0), none, none, some (.lload_n 3, 1, xN), some (.lastore, 1, xN),
  some (.aload_n 0, 1, xN), some (.getfield 18, 3, xF 8 2 2), none, none, some (.aload_n 0, 1, xN), some (.getfield 38, 3, xF 8 8 0), none, none,
  some (.iload 5, 2, xN), none, some (.iastore, 1, xN), some (.aload_n 0, 1, xN), some (.getfield 22, 3, xF 8 3 2), none, none, some (.aload_n 0, 1, xN),
  some (.getfield 38, 3, xF 8 8 0), none, none, some (.iload 6, 2, xN), none, some (.bastore, 1, xJ 3), some (.aload_n 0, 1, xN), some (.dup, 1, xN),
  some (.getfield 38, 3, xF 8 8 0), none, none, some (.iconst 1, 1, xI (1)), some (.iadd, 1, xN), some (.putfield 38, 3, xF 8 8 0), none, none,
  some (.iconst 1, 1, xI (1)), some (.ireturn, 1, xN)]
def M_Ro_add : am_Me := (⟨R_Ro, "add", "(JJIZ)Z"⟩, prog_8_method_5_code, 7, (some .boolean), Y_Ro, cd_Ro_add, 0, 0, 0, 0)
set_option maxRecDepth 100000 in
theorem ok_Ro_add : am_ok S_c M_Ro_add := am_ok_ofY (Y := Y_Ro) (cd := cd_Ro_add) (by decide +kernel) rfl rfl rfl oY_Ro (by decide +kernel)
def cd_Ro_addFile : List (Option am_I) := [some (.aload_n 0, 1, xN), some (.getfield 35, 3, xF 8 7 2), none, none, some (.iload_n 1, 1, xN), some (.bipush 30, 2, xI (30)), none, some (.imul, 1, xN),
  some (.aload_n 0, 1, xN), some (.getfield 32, 3, xF 8 6 2), none, none, some (.iload_n 1, 1, xN), some (.iaload, 1, xN), some (.iadd, 1, xN), some (.iload_n 2, 1, xN),
  some (.iastore, 1, xN), some (.aload_n 0, 1, xN), some (.getfield 32, 3, xF 8 6 2), none, none, some (.iload_n 1, 1, xN), some (.dup2, 1, xN), some (.iaload, 1, xN),
  some (.iconst 1, 1, xI (1)), some (.iadd, 1, xN), some (.iastore, 1, xN), some (.return_, 1, xN)]
def M_Ro_addFile : am_Me := (⟨R_Ro, "addFile", "(II)V"⟩, prog_8_method_6_code, 3, none, Y_Ro, cd_Ro_addFile, 0, 0, 0, 0)
set_option maxRecDepth 100000 in
theorem ok_Ro_addFile : am_ok S_c M_Ro_addFile := am_ok_ofY (Y := Y_Ro) (cd := cd_Ro_addFile) (by decide +kernel) rfl rfl rfl oY_Ro (by decide +kernel)
def cd_Ro_nameOfFile : List (Option am_I) := [some (.lload_n 2, 1, xN), some (.lconst 0, 1, xL 0), some (.lcmp, 1, xN), some (.ifCond .lt (30), 3, xJ 33), none, none, some (.lload_n 2, 1, xN), some (.aload_n 0, 1, xN),
  some (.getfield 32, 3, xF 8 6 2), none, none, some (.iload_n 1, 1, xN), some (.iaload, 1, xN), some (.i2l, 1, xN), some (.lcmp, 1, xN), some (.ifCond .ge (18), 3, xJ 33),
  none, none, some (.aload_n 0, 1, xN), some (.getfield 35, 3, xF 8 7 2), none, none, some (.iload_n 1, 1, xN), some (.bipush 30, 2, xI (30)),
  none, some (.imul, 1, xN), some (.lload_n 2, 1, xN), some (.l2i, 1, xN), some (.iadd, 1, xN), some (.iaload, 1, xN), some (.goto (4), 3, xJ 34), none,
  none, some (.iconst (-1), 1, xI (-1)), some (.ireturn, 1, xN)]
def M_Ro_nameOfFile : am_Me := (⟨R_Ro, "nameOfFile", "(IJ)I"⟩, prog_8_method_7_code, 4, (some .int), Y_Ro, cd_Ro_nameOfFile, 0, 0, 0, 0)
set_option maxRecDepth 100000 in
theorem ok_Ro_nameOfFile : am_ok S_c M_Ro_nameOfFile := am_ok_ofY (Y := Y_Ro) (cd := cd_Ro_nameOfFile) (by decide +kernel) rfl rfl rfl oY_Ro (by decide +kernel)
def cd_Ro_rowOf : List (Option am_I) := [some (.aload_n 0, 1, xN), some (.getfield 26, 3, xF 8 4 2), none, none, some (.iload_n 1, 1, xN), some (.iaload, 1, xN), some (.istore 4, 2, xN), none,
  some (.iload 4, 2, xN), none, some (.istore 5, 2, xN), none, some (.iload 5, 2, xN), none, some (.aload_n 0, 1, xN), some (.getfield 29, 3, xF 8 5 2),
  none, none, some (.iload_n 1, 1, xN), some (.iaload, 1, xN), some (.if_icmp .ge (63), 3, xJ 83), none, none, some (.aload_n 0, 1, xN),
  some (.getfield 22, 3, xF 8 3 2), none, none, some (.iload 5, 2, xN), none, some (.baload, 1, xJ 3), some (.ifCond .eq (47), 3, xJ 77), none,
  none, some (.lload_n 2, 1, xN), some (.aload_n 0, 1, xN), some (.getfield 9, 3, xF 8 0 2), none, none, some (.iload 4, 2, xN), none,
  some (.laload, 1, xN), some (.invokestatic 42, 3, xN), none, none, some (.ifCond .ne (27), 3, xJ 71), none, none, some (.lload_n 2, 1, xN),
  some (.aload_n 0, 1, xN), some (.getfield 9, 3, xF 8 0 2), none, none, some (.iload 5, 2, xN), none, some (.laload, 1, xN), some (.invokestatic 42, 3, xN),
  none, none, some (.ifCond .eq (13), 3, xJ 71), none, none, some (.aload_n 0, 1, xN), some (.iload 4, 2, xN), none,
  some (.iload 5, 2, xN), none, some (.lload_n 2, 1, xN), some (.invokevirtual 46, 3, xN), none, none, some (.ireturn, 1, xN), some (.iload 5, 2, xN),
  none, some (.iconst 1, 1, xI (1)), some (.iadd, 1, xN), some (.istore 4, 2, xN), none, some (.iinc 5 (1), 3, xI (1)), none, none,
  some (.goto (-68), 3, xJ 12), none, none, some (.iconst (-1), 1, xI (-1)), some (.ireturn, 1, xN)]
def M_Ro_rowOf : am_Me := (⟨R_Ro, "rowOf", "(IJ)I"⟩, prog_8_method_8_code, 6, (some .int), Y_Ro, cd_Ro_rowOf, 2, 48, 0, 0)
set_option maxRecDepth 100000 in
theorem ok_Ro_rowOf : am_ok S_c M_Ro_rowOf := am_ok_ofY (Y := Y_Ro) (cd := cd_Ro_rowOf) (by decide +kernel) rfl rfl rfl oY_Ro (by decide +kernel)
def cd_Ro_lastNotAbove : List (Option am_I) := [some (.iload_n 2, 1, xN), some (.iconst 1, 1, xI (1)), some (.isub, 1, xN), some (.istore 5, 2, xN), none, some (.iload 5, 2, xN), none, some (.iload_n 1, 1, xN),
  some (.if_icmp .lt (26), 3, xJ 34), none, none, some (.lload_n 3, 1, xN), some (.aload_n 0, 1, xN), some (.getfield 9, 3, xF 8 0 2), none, none,
  some (.iload 5, 2, xN), none, some (.laload, 1, xN), some (.invokestatic 42, 3, xN), none, none, some (.ifCond .ne (6), 3, xJ 28), none,
  none, some (.iload 5, 2, xN), none, some (.ireturn, 1, xN), some (.iinc 5 (-1), 3, xI (-1)), none, none, some (.goto (-26), 3, xJ 5),
  none, none, some (.iconst (-1), 1, xI (-1)), some (.ireturn, 1, xN)]
def M_Ro_lastNotAbove : am_Me := (⟨R_Ro, "lastNotAbove", "(IIJ)I"⟩, prog_8_method_9_code, 6, (some .int), Y_Ro, cd_Ro_lastNotAbove, 1, 23, 0, 0)
set_option maxRecDepth 100000 in
theorem ok_Ro_lastNotAbove : am_ok S_c M_Ro_lastNotAbove := am_ok_ofY (Y := Y_Ro) (cd := cd_Ro_lastNotAbove) (by decide +kernel) rfl rfl rfl oY_Ro (by decide +kernel)
def cd_Li_read : List (Option am_I) := [some (.aload_n 0, 1, xN), some (.getfield 27, 3, xF 9 2 2), none, none, some (.invokevirtual 40, 3, xN), none, none, some (.iconst 0, 1, xI (0)),
  some (.istore_n 1, 1, xN), some (.iload_n 1, 1, xN), some (.aload_n 0, 1, xN), some (.getfield 23, 3, xF 9 1 2), none, none, some (.getfield 45, 3, xF 3 11 0), none,
  none, some (.if_icmp .ge (62), 3, xJ 79), none, none, some (.aload_n 0, 1, xN), some (.getfield 27, 3, xF 9 2 2), none, none,
  some (.iload_n 1, 1, xN), some (.invokevirtual 51, 3, xN), none, none, some (.iload_n 1, 1, xN), some (.iconst 4, 1, xI (4)), some (.imul, 1, xN), some (.iconst 0, 1, xI (0)),
  some (.iadd, 1, xN), some (.istore_n 2, 1, xN), some (.aload_n 0, 1, xN), some (.getfield 23, 3, xF 9 1 2), none, none, some (.getfield 55, 3, xF 3 8 2), none,
  none, some (.iload_n 2, 1, xN), some (.iaload, 1, xN), some (.ifCond .eq (22), 3, xJ 65), none, none, some (.aload_n 0, 1, xN), some (.iload_n 1, 1, xN),
  some (.aload_n 0, 1, xN), some (.getfield 23, 3, xF 9 1 2), none, none, some (.getfield 58, 3, xF 3 9 2), none, none, some (.iload_n 2, 1, xN),
  some (.laload, 1, xN), some (.invokevirtual 62, 3, xN), none, none, some (.ifCond .ne (5), 3, xJ 65), none, none, some (.iconst 0, 1, xI (0)),
  some (.ireturn, 1, xN), some (.aload_n 0, 1, xN), some (.getfield 27, 3, xF 9 2 2), none, none, some (.iload_n 1, 1, xN), some (.invokevirtual 66, 3, xN), none,
  none, some (.iinc 1 (1), 3, xI (1)), none, none, some (.goto (-67), 3, xJ 9), none, none, some (.iconst 1, 1, xI (1)),
  some (.ireturn, 1, xN)]
def M_Li_read : am_Me := (⟨R_Li, "read", "()Z"⟩, prog_6_method_2_code, 3, (some .boolean), Y_Li, cd_Li_read, 6, 147, 0, 0)
set_option maxRecDepth 100000 in
theorem ok_Li_read : am_ok S_c M_Li_read := am_ok_ofY (Y := Y_Li) (cd := cd_Li_read) (by decide +kernel) rfl rfl rfl oY_Li (by decide +kernel)
def cd_Li_readTable : List (Option am_I) := [some (.aload_n 0, 1, xN), some (.getfield 19, 3, xF 9 0 2), none, none, some (.aload_n 0, 1, xN), some (.getfield 36, 3, xF 9 4 2), none, none,
  some (.bipush 7, 2, xI (7)), none, some (.lload_n 2, 1, xN), some (.invokevirtual 69, 3, xN), none, none, some (.aload_n 0, 1, xN), some (.getfield 36, 3, xF 9 4 2),
  none, none, some (.iconst 4, 1, xI (4)), some (.invokevirtual 75, 3, xN), none, none, some (.lstore 4, 2, xN), none,
  some (.aload_n 0, 1, xN), some (.getfield 36, 3, xF 9 4 2), none, none, some (.getfield 79, 3, xF 2 3 3), none, none, some (.ifCond .ne (25), 3, xJ 56),
  none, none, some (.lload 4, 2, xN), none, some (.aload_n 0, 1, xN), some (.getfield 36, 3, xF 9 4 2), none, none,
  some (.getfield 83, 3, xF 2 2 0), none, none, some (.aload_n 0, 1, xN), some (.getfield 36, 3, xF 9 4 2), none, none, some (.getfield 85, 3, xF 2 1 0),
  none, none, some (.isub, 1, xN), some (.i2l, 1, xN), some (.lcmp, 1, xN), some (.ifCond .le (5), 3, xJ 58), none, none,
  some (.iconst 0, 1, xI (0)), some (.ireturn, 1, xN), some (.aload_n 0, 1, xN), some (.getfield 36, 3, xF 9 4 2), none, none, some (.aload_n 0, 1, xN), some (.getfield 36, 3, xF 9 4 2),
  none, none, some (.getfield 85, 3, xF 2 1 0), none, none, some (.lload 4, 2, xN), none, some (.l2i, 1, xN),
  some (.iadd, 1, xN), some (.putfield 83, 3, xF 2 2 0), none, none, some (.aload_n 0, 1, xN), some (.getfield 36, 3, xF 9 4 2), none, none,
  some (.iconst 2, 1, xI (2)), some (.invokevirtual 75, 3, xN), none, none, some (.ldc2_w 88, 3, xL (5)), none, none, some (.lcmp, 1, xN),
  some (.ifCond .ne (31), 3, xJ 119), none, none, some (.aload_n 0, 1, xN), some (.getfield 36, 3, xF 9 4 2), none, none, some (.iconst 1, 1, xI (1)),
  some (.invokevirtual 75, 3, xN), none, none, some (.ldc2_w 90, 3, xL (8)), none, none, some (.lcmp, 1, xN), some (.ifCond .ne (16), 3, xJ 119),
  none, none, some (.aload_n 0, 1, xN), some (.getfield 36, 3, xF 9 4 2), none, none, some (.iconst 1, 1, xI (1)), some (.invokevirtual 75, 3, xN),
  none, none, some (.lconst 0, 1, xL 0), some (.lcmp, 1, xN), some (.ifCond .eq (5), 3, xJ 121), none, none, some (.iconst 0, 1, xI (0)),
  some (.ireturn, 1, xN), some (.aload_n 0, 1, xN), some (.getfield 36, 3, xF 9 4 2), none, none, some (.iconst 4, 1, xI (4)), some (.invokevirtual 75, 3, xN), none,
  none, some (.lstore 6, 2, xN), none, some (.aload_n 0, 1, xN), some (.getfield 36, 3, xF 9 4 2), none, none, some (.getfield 85, 3, xF 2 1 0),
  none, none, some (.i2l, 1, xN), some (.lload 6, 2, xN), none, some (.ladd, 1, xN), some (.lstore 8, 2, xN), none,
  some (.aload_n 0, 1, xN), some (.invokevirtual 92, 3, xN), none, none, some (.ifCond .eq (25), 3, xJ 173), none, none, some (.aload_n 0, 1, xN),
  some (.iload_n 1, 1, xN), some (.iconst 0, 1, xI (0)), some (.invokevirtual 96, 3, xN), none, none, some (.ifCond .eq (16), 3, xJ 173), none, none,
  some (.aload_n 0, 1, xN), some (.iload_n 1, 1, xN), some (.iconst 1, 1, xI (1)), some (.invokevirtual 96, 3, xN), none, none, some (.ifCond .eq (7), 3, xJ 173), none,
  none, some (.iconst 1, 1, xI (1)), some (.goto (4), 3, xJ 174), none, none, some (.iconst 0, 1, xI (0)), some (.istore 10, 2, xN), none,
  some (.iload 10, 2, xN), none, some (.ifCond .eq (31), 3, xJ 209), none, none, some (.lload 8, 2, xN), none, some (.aload_n 0, 1, xN),
  some (.getfield 36, 3, xF 9 4 2), none, none, some (.getfield 85, 3, xF 2 1 0), none, none, some (.i2l, 1, xN), some (.lcmp, 1, xN),
  some (.ifCond .lt (17), 3, xJ 209), none, none, some (.lload 8, 2, xN), none, some (.aload_n 0, 1, xN), some (.getfield 36, 3, xF 9 4 2), none,
  none, some (.getfield 83, 3, xF 2 2 0), none, none, some (.i2l, 1, xN), some (.lcmp, 1, xN), some (.ifCond .le (5), 3, xJ 211), none,
  none, some (.iconst 0, 1, xI (0)), some (.ireturn, 1, xN), some (.aload_n 0, 1, xN), some (.getfield 36, 3, xF 9 4 2), none, none, some (.lload 8, 2, xN),
  none, some (.l2i, 1, xN), some (.putfield 85, 3, xF 2 1 0), none, none, some (.aload_n 0, 1, xN), some (.invokevirtual 100, 3, xN), none,
  none, some (.ireturn, 1, xN)]
def M_Li_readTable : am_Me := (⟨R_Li, "readTable", "(IJ)Z"⟩, prog_6_method_3_code, 11, (some .boolean), Y_Li, cd_Li_readTable, 5, 117, 0, 0)
set_option maxRecDepth 100000 in
theorem ok_Li_readTable : am_ok S_c M_Li_readTable := am_ok_ofY (Y := Y_Li) (cd := cd_Li_readTable) (by decide +kernel) rfl rfl rfl oY_Li (by decide +kernel)
def cd_Li_readHead : List (Option am_I) := [some (.aload_n 0, 1, xN), some (.getfield 36, 3, xF 9 4 2), none, none, some (.iconst 1, 1, xI (1)), some (.invokevirtual 75, 3, xN), none, none,
  some (.lconst 1, 1, xL 1), some (.lcmp, 1, xN), some (.ifCond .ne (16), 3, xJ 26), none, none, some (.aload_n 0, 1, xN), some (.getfield 36, 3, xF 9 4 2), none,
  none, some (.iconst 1, 1, xI (1)), some (.invokevirtual 75, 3, xN), none, none, some (.lconst 1, 1, xL 1), some (.lcmp, 1, xN), some (.ifCond .eq (5), 3, xJ 28),
  none, none, some (.iconst 0, 1, xI (0)), some (.ireturn, 1, xN), some (.aload_n 0, 1, xN), some (.getfield 36, 3, xF 9 4 2), none, none,
  some (.lconst 1, 1, xL 1), some (.invokevirtual 103, 3, xN), none, none, some (.aload_n 0, 1, xN), some (.aload_n 0, 1, xN), some (.getfield 36, 3, xF 9 4 2), none,
  none, some (.iconst 1, 1, xI (1)), some (.invokevirtual 75, 3, xN), none, none, some (.l2i, 1, xN), some (.i2b, 1, xN), some (.putfield 107, 3, xF 9 8 0),
  none, none, some (.aload_n 0, 1, xN), some (.aload_n 0, 1, xN), some (.getfield 36, 3, xF 9 4 2), none, none, some (.iconst 1, 1, xI (1)),
  some (.invokevirtual 75, 3, xN), none, none, some (.l2i, 1, xN), some (.putfield 110, 3, xF 9 9 0), none, none, some (.aload_n 0, 1, xN),
  some (.aload_n 0, 1, xN), some (.getfield 36, 3, xF 9 4 2), none, none, some (.iconst 1, 1, xI (1)), some (.invokevirtual 75, 3, xN), none, none,
  some (.l2i, 1, xN), some (.putfield 113, 3, xF 9 10 0), none, none, some (.aload_n 0, 1, xN), some (.aload_n 0, 1, xN), some (.getfield 36, 3, xF 9 4 2), none,
  none, some (.getfield 85, 3, xF 2 1 0), none, none, some (.putfield 116, 3, xF 9 11 0), none, none, some (.aload_n 0, 1, xN),
  some (.getfield 36, 3, xF 9 4 2), none, none, some (.aload_n 0, 1, xN), some (.getfield 113, 3, xF 9 10 0), none, none, some (.iconst 1, 1, xI (1)),
  some (.isub, 1, xN), some (.i2l, 1, xN), some (.invokevirtual 103, 3, xN), none, none, some (.aload_n 0, 1, xN), some (.getfield 36, 3, xF 9 4 2), none,
  none, some (.getfield 79, 3, xF 2 3 3), none, none, some (.ifCond .ne (33), 3, xJ 141), none, none, some (.aload_n 0, 1, xN),
  some (.getfield 110, 3, xF 9 9 0), none, none, some (.ifCond .eq (26), 3, xJ 141), none, none, some (.aload_n 0, 1, xN), some (.getfield 113, 3, xF 9 10 0),
  none, none, some (.bipush 10, 2, xI (10)), none, some (.if_icmp .lt (17), 3, xJ 141), none, none, some (.aload_n 0, 1, xN),
  some (.getfield 113, 3, xF 9 10 0), none, none, some (.sipush 200, 3, xI (200)), none, none, some (.if_icmp .gt (7), 3, xJ 141), none,
  none, some (.iconst 1, 1, xI (1)), some (.goto (4), 3, xJ 142), none, none, some (.iconst 0, 1, xI (0)), some (.ireturn, 1, xN)]
def M_Li_readHead : am_Me := (⟨R_Li, "readHead", "()Z"⟩, prog_6_method_4_code, 1, (some .boolean), Y_Li, cd_Li_readHead, 1, 24, 0, 0)
set_option maxRecDepth 100000 in
theorem ok_Li_readHead : am_ok S_c M_Li_readHead := am_ok_ofY (Y := Y_Li) (cd := cd_Li_readHead) (by decide +kernel) rfl rfl rfl oY_Li (by decide +kernel)
def cd_Li_readNames : List (Option am_I) := [some (.aload_n 0, 1, xN), some (.invokevirtual 119, 3, xN), none, none, some (.ifCond .ne (5), 3, xJ 9), none, none, some (.iconst 0, 1, xI (0)),
  some (.ireturn, 1, xN), some (.aload_n 0, 1, xN), some (.getfield 36, 3, xF 9 4 2), none, none, some (.invokevirtual 122, 3, xN), none, none,
  some (.lstore_n 3, 1, xN), some (.aload_n 0, 1, xN), some (.getfield 36, 3, xF 9 4 2), none, none, some (.getfield 79, 3, xF 2 3 3), none, none,
  some (.ifCond .eq (5), 3, xJ 29), none, none, some (.iconst 0, 1, xI (0)), some (.ireturn, 1, xN), some (.aload_n 0, 1, xN), some (.getfield 126, 3, xF 9 6 0), none,
  none, some (.ifCond .ne (9), 3, xJ 42), none, none, some (.iload_n 2, 1, xN), some (.ifCond .ne (5), 3, xJ 42), none, none,
  some (.iconst 1, 1, xI (1)), some (.ireturn, 1, xN), some (.lload_n 3, 1, xN), some (.lconst 0, 1, xL 0), some (.lcmp, 1, xN), some (.ifCond .lt (21), 3, xJ 66), none, none,
  some (.lload_n 3, 1, xN), some (.iload_n 2, 1, xN), some (.ifCond .eq (8), 3, xJ 58), none, none, some (.bipush 30, 2, xI (30)), none, some (.goto (6), 3, xJ 61),
  none, none, some (.sipush 3000, 3, xI (3000)), none, none, some (.i2l, 1, xN), some (.lcmp, 1, xN), some (.ifCond .le (5), 3, xJ 68),
  none, none, some (.iconst 0, 1, xI (0)), some (.ireturn, 1, xN), some (.iconst 0, 1, xI (0)), some (.istore 5, 2, xN), none, some (.iload 5, 2, xN),
  none, some (.i2l, 1, xN), some (.lload_n 3, 1, xN), some (.lcmp, 1, xN), some (.ifCond .ge (39), 3, xJ 115), none, none, some (.aload_n 0, 1, xN),
  some (.getfield 36, 3, xF 9 4 2), none, none, some (.getfield 79, 3, xF 2 3 3), none, none, some (.ifCond .ne (29), 3, xJ 115), none,
  none, some (.aload_n 0, 1, xN), some (.invokevirtual 129, 3, xN), none, none, some (.istore 6, 2, xN), none, some (.iload_n 2, 1, xN),
  some (.ifCond .eq (13), 3, xJ 109), none, none, some (.aload_n 0, 1, xN), some (.getfield 27, 3, xF 9 2 2), none, none, some (.iload_n 1, 1, xN),
  some (.iload 6, 2, xN), none, some (.invokevirtual 133, 3, xN), none, none, some (.iinc 5 (1), 3, xI (1)), none, none,
  some (.goto (-41), 3, xJ 71), none, none, some (.aload_n 0, 1, xN), some (.getfield 36, 3, xF 9 4 2), none, none, some (.getfield 79, 3, xF 2 3 3),
  none, none, some (.ifCond .ne (7), 3, xJ 129), none, none, some (.iconst 1, 1, xI (1)), some (.goto (4), 3, xJ 130), none,
  none, some (.iconst 0, 1, xI (0)), some (.ireturn, 1, xN)]
def M_Li_readNames : am_Me := (⟨R_Li, "readNames", "(IZ)Z"⟩, prog_6_method_5_code, 7, (some .boolean), Y_Li, cd_Li_readNames, 4, 91, 0, 0)
set_option maxRecDepth 100000 in
theorem ok_Li_readNames : am_ok S_c M_Li_readNames := am_ok_ofY (Y := Y_Li) (cd := cd_Li_readNames) (by decide +kernel) rfl rfl rfl oY_Li (by decide +kernel)
def cd_Li_readForms : List (Option am_I) := [some (.aload_n 0, 1, xN), some (.aload_n 0, 1, xN), some (.getfield 36, 3, xF 9 4 2), none, none, some (.iconst 1, 1, xI (1)), some (.invokevirtual 75, 3, xN), none,
  none, some (.l2i, 1, xN), some (.putfield 126, 3, xF 9 6 0), none, none, some (.aload_n 0, 1, xN), some (.iconst (-1), 1, xI (-1)), some (.putfield 137, 3, xF 9 7 0),
  none, none, some (.aload_n 0, 1, xN), some (.getfield 36, 3, xF 9 4 2), none, none, some (.getfield 79, 3, xF 2 3 3), none,
  none, some (.ifCond .ne (12), 3, xJ 37), none, none, some (.aload_n 0, 1, xN), some (.getfield 126, 3, xF 9 6 0), none, none,
  some (.bipush 6, 2, xI (6)), none, some (.if_icmp .le (5), 3, xJ 39), none, none, some (.iconst 0, 1, xI (0)), some (.ireturn, 1, xN), some (.iconst 0, 1, xI (0)),
  some (.istore_n 1, 1, xN), some (.iload_n 1, 1, xN), some (.aload_n 0, 1, xN), some (.getfield 126, 3, xF 9 6 0), none, none, some (.if_icmp .ge (154), 3, xJ 200), none,
  none, some (.aload_n 0, 1, xN), some (.getfield 36, 3, xF 9 4 2), none, none, some (.invokevirtual 122, 3, xN), none, none,
  some (.lstore_n 2, 1, xN), some (.aload_n 0, 1, xN), some (.getfield 36, 3, xF 9 4 2), none, none, some (.invokevirtual 122, 3, xN), none, none,
  some (.lstore 4, 2, xN), none, some (.lload 4, 2, xN), none, some (.ldc2_w 90, 3, xL (8)), none, none, some (.lcmp, 1, xN),
  some (.ifCond .eq (12), 3, xJ 84), none, none, some (.lload 4, 2, xN), none, some (.ldc2_w 140, 3, xL (31)), none, none,
  some (.lcmp, 1, xN), some (.ifCond .ne (7), 3, xJ 88), none, none, some (.iconst 1, 1, xI (1)), some (.goto (4), 3, xJ 89), none, none,
  some (.iconst 0, 1, xI (0)), some (.istore 6, 2, xN), none, some (.lload_n 2, 1, xN), some (.lconst 1, 1, xL 1), some (.lcmp, 1, xN), some (.ifCond .ne (15), 3, xJ 109), none,
  none, some (.aload_n 0, 1, xN), some (.getfield 137, 3, xF 9 7 0), none, none, some (.iconst (-1), 1, xI (-1)), some (.if_icmp .ne (7), 3, xJ 109), none,
  none, some (.iconst 1, 1, xI (1)), some (.goto (4), 3, xJ 110), none, none, some (.iconst 0, 1, xI (0)), some (.istore 7, 2, xN), none,
  some (.aload_n 0, 1, xN), some (.getfield 36, 3, xF 9 4 2), none, none, some (.getfield 79, 3, xF 2 3 3), none, none, some (.ifCond .ne (13), 3, xJ 132),
  none, none, some (.iload 7, 2, xN), none, some (.ifCond .eq (10), 3, xJ 134), none, none, some (.iload 6, 2, xN),
  none, some (.ifCond .ne (5), 3, xJ 134), none, none, some (.iconst 0, 1, xI (0)), some (.ireturn, 1, xN), some (.iload 6, 2, xN), none,
  some (.ifCond .ne (32), 3, xJ 168), none, none, some (.lload 4, 2, xN), none, some (.ldc2_w 142, 3, xL (11)), none, none,
  some (.lcmp, 1, xN), some (.ifCond .eq (23), 3, xJ 168), none, none, some (.lload 4, 2, xN), none, some (.ldc2_w 88, 3, xL (5)), none,
  none, some (.lcmp, 1, xN), some (.ifCond .eq (14), 3, xJ 168), none, none, some (.lload 4, 2, xN), none, some (.ldc2_w 144, 3, xL (15)),
  none, none, some (.lcmp, 1, xN), some (.ifCond .eq (5), 3, xJ 168), none, none, some (.iconst 0, 1, xI (0)), some (.ireturn, 1, xN),
  some (.aload_n 0, 1, xN), some (.getfield 9, 3, xF 9 5 2), none, none, some (.iload_n 1, 1, xN), some (.lload 4, 2, xN), none, some (.l2i, 1, xN),
  some (.iastore, 1, xN), some (.aload_n 0, 1, xN), some (.iload 7, 2, xN), none, some (.ifCond .eq (7), 3, xJ 187), none, none, some (.iload_n 1, 1, xN),
  some (.goto (7), 3, xJ 191), none, none, some (.aload_n 0, 1, xN), some (.getfield 137, 3, xF 9 7 0), none, none, some (.putfield 137, 3, xF 9 7 0),
  none, none, some (.iinc 1 (1), 3, xI (1)), none, none, some (.goto (-156), 3, xJ 41), none, none,
  some (.iconst 1, 1, xI (1)), some (.ireturn, 1, xN)]
def M_Li_readForms : am_Me := (⟨R_Li, "readForms", "()Z"⟩, prog_6_method_6_code, 8, (some .boolean), Y_Li, cd_Li_readForms, 2, 46, 0, 0)
set_option maxRecDepth 100000 in
theorem ok_Li_readForms : am_ok S_c M_Li_readForms := am_ok_ofY (Y := Y_Li) (cd := cd_Li_readForms) (by decide +kernel) rfl rfl rfl oY_Li (by decide +kernel)
def cd_Li_readName : List (Option am_I) := [some (.iconst (-1), 1, xI (-1)), some (.istore_n 1, 1, xN), some (.iconst 0, 1, xI (0)), some (.istore_n 2, 1, xN), some (.iload_n 2, 1, xN), some (.aload_n 0, 1, xN), some (.getfield 126, 3, xF 9 6 0), none,
  none, some (.if_icmp .ge (87), 3, xJ 96), none, none, some (.iload_n 2, 1, xN), some (.bipush 6, 2, xI (6)), none, some (.if_icmp .ge (81), 3, xJ 96),
  none, none, some (.aload_n 0, 1, xN), some (.aload_n 0, 1, xN), some (.getfield 9, 3, xF 9 5 2), none, none, some (.iload_n 2, 1, xN),
  some (.iaload, 1, xN), some (.invokevirtual 146, 3, xN), none, none, some (.lstore_n 3, 1, xN), some (.iload_n 2, 1, xN), some (.aload_n 0, 1, xN), some (.getfield 137, 3, xF 9 7 0),
  none, none, some (.if_icmp .ne (56), 3, xJ 90), none, none, some (.aload_n 0, 1, xN), some (.getfield 9, 3, xF 9 5 2), none,
  none, some (.iload_n 2, 1, xN), some (.iaload, 1, xN), some (.bipush 8, 2, xI (8)), none, some (.if_icmp .ne (8), 3, xJ 53), none, none,
  some (.lload_n 3, 1, xN), some (.l2i, 1, xN), some (.goto (12), 3, xJ 62), none, none, some (.aload_n 0, 1, xN), some (.getfield 19, 3, xF 9 0 2), none,
  none, some (.iconst 3, 1, xI (3)), some (.lload_n 3, 1, xN), some (.invokevirtual 149, 3, xN), none, none, some (.istore_n 1, 1, xN), some (.aload_n 0, 1, xN),
  some (.getfield 36, 3, xF 9 4 2), none, none, some (.aload_n 0, 1, xN), some (.getfield 36, 3, xF 9 4 2), none, none, some (.getfield 79, 3, xF 2 3 3),
  none, none, some (.ifCond .ne (8), 3, xJ 82), none, none, some (.iload_n 1, 1, xN), some (.iconst (-1), 1, xI (-1)), some (.if_icmp .ne (7), 3, xJ 86),
  none, none, some (.iconst 1, 1, xI (1)), some (.goto (4), 3, xJ 87), none, none, some (.iconst 0, 1, xI (0)), some (.putfield 79, 3, xF 2 3 3),
  none, none, some (.iinc 2 (1), 3, xI (1)), none, none, some (.goto (-89), 3, xJ 4), none, none,
  some (.iload_n 1, 1, xN), some (.ireturn, 1, xN)]
def M_Li_readName : am_Me := (⟨R_Li, "readName", "()I"⟩, prog_6_method_7_code, 5, (some .int), Y_Li, cd_Li_readName, 3, 67, 0, 0)
set_option maxRecDepth 100000 in
theorem ok_Li_readName : am_ok S_c M_Li_readName := am_ok_ofY (Y := Y_Li) (cd := cd_Li_readName) (by decide +kernel) rfl rfl rfl oY_Li (by decide +kernel)
def cd_Li_readValue : List (Option am_I) := [some (.iload_n 1, 1, xN), some (.lookupswitch (79) #[(5, 70), (8, 43), (11, 61), (31, 52)], 43, xN), none, none, none, none, none, none,
  none, none, none, none, none, none, none, none,
  none, none, none, none, none, none, none, none,
  none, none, none, none, none, none, none, none,
  none, none, none, none, none, none, none, none,
  none, none, none, none, some (.aload_n 0, 1, xN), some (.getfield 36, 3, xF 9 4 2), none, none,
  some (.invokevirtual 153, 3, xN), none, none, some (.i2l, 1, xN), some (.lreturn, 1, xN), some (.aload_n 0, 1, xN), some (.getfield 36, 3, xF 9 4 2), none,
  none, some (.iconst 4, 1, xI (4)), some (.invokevirtual 75, 3, xN), none, none, some (.lreturn, 1, xN), some (.aload_n 0, 1, xN), some (.getfield 36, 3, xF 9 4 2),
  none, none, some (.iconst 1, 1, xI (1)), some (.invokevirtual 75, 3, xN), none, none, some (.lreturn, 1, xN), some (.aload_n 0, 1, xN),
  some (.getfield 36, 3, xF 9 4 2), none, none, some (.iconst 2, 1, xI (2)), some (.invokevirtual 75, 3, xN), none, none, some (.lreturn, 1, xN),
  some (.aload_n 0, 1, xN), some (.getfield 36, 3, xF 9 4 2), none, none, some (.invokevirtual 122, 3, xN), none, none, some (.lreturn, 1, xN)]
def M_Li_readValue : am_Me := (⟨R_Li, "readValue", "(I)J"⟩, prog_6_method_8_code, 2, (some .long), Y_Li, cd_Li_readValue, 2, 46, 0, 0)
set_option maxRecDepth 100000 in
theorem ok_Li_readValue : am_ok S_c M_Li_readValue := am_ok_ofY (Y := Y_Li) (cd := cd_Li_readValue) (by decide +kernel) rfl rfl rfl oY_Li (by decide +kernel)
def cd_Li_readProgram : List (Option am_I) := [some (.aload_n 0, 1, xN), some (.invokevirtual 156, 3, xN), none, none, some (.iconst 0, 1, xI (0)), some (.istore_n 1, 1, xN), some (.iload_n 1, 1, xN), some (.sipush 3000, 3, xI (3000)),
  none, none, some (.if_icmp .ge (83), 3, xJ 93), none, none, some (.aload_n 0, 1, xN), some (.getfield 36, 3, xF 9 4 2), none,
  none, some (.getfield 85, 3, xF 2 1 0), none, none, some (.aload_n 0, 1, xN), some (.getfield 36, 3, xF 9 4 2), none, none,
  some (.getfield 83, 3, xF 2 2 0), none, none, some (.if_icmp .ge (66), 3, xJ 93), none, none, some (.aload_n 0, 1, xN), some (.getfield 36, 3, xF 9 4 2),
  none, none, some (.getfield 79, 3, xF 2 3 3), none, none, some (.ifCond .ne (56), 3, xJ 93), none, none,
  some (.aload_n 0, 1, xN), some (.getfield 36, 3, xF 9 4 2), none, none, some (.iconst 1, 1, xI (1)), some (.invokevirtual 75, 3, xN), none, none,
  some (.l2i, 1, xN), some (.istore_n 2, 1, xN), some (.iload_n 2, 1, xN), some (.aload_n 0, 1, xN), some (.getfield 113, 3, xF 9 10 0), none, none, some (.if_icmp .lt (16), 3, xJ 71),
  none, none, some (.aload_n 0, 1, xN), some (.iload_n 2, 1, xN), some (.aload_n 0, 1, xN), some (.getfield 113, 3, xF 9 10 0), none, none,
  some (.isub, 1, xN), some (.invokevirtual 159, 3, xN), none, none, some (.goto (19), 3, xJ 87), none, none, some (.iload_n 2, 1, xN),
  some (.ifCond .ne (10), 3, xJ 82), none, none, some (.aload_n 0, 1, xN), some (.invokevirtual 162, 3, xN), none, none, some (.goto (8), 3, xJ 87),
  none, none, some (.aload_n 0, 1, xN), some (.iload_n 2, 1, xN), some (.invokevirtual 165, 3, xN), none, none, some (.iinc 1 (1), 3, xI (1)),
  none, none, some (.goto (-84), 3, xJ 6), none, none, some (.aload_n 0, 1, xN), some (.getfield 36, 3, xF 9 4 2), none,
  none, some (.getfield 79, 3, xF 2 3 3), none, none, some (.ifCond .ne (7), 3, xJ 107), none, none, some (.iconst 1, 1, xI (1)),
  some (.goto (4), 3, xJ 108), none, none, some (.iconst 0, 1, xI (0)), some (.ireturn, 1, xN)]
def M_Li_readProgram : am_Me := (⟨R_Li, "readProgram", "()Z"⟩, prog_6_method_9_code, 3, (some .boolean), Y_Li, cd_Li_readProgram, 4, 90, 0, 0)
set_option maxRecDepth 100000 in
theorem ok_Li_readProgram : am_ok S_c M_Li_readProgram := am_ok_ofY (Y := Y_Li) (cd := cd_Li_readProgram) (by decide +kernel) rfl rfl rfl oY_Li (by decide +kernel)
def cd_Li_restart : List (Option am_I) := [some (.aload_n 0, 1, xN), some (.lconst 0, 1, xL 0), some (.putfield 168, 3, xF 9 12 1), none, none, some (.aload_n 0, 1, xN), some (.lconst 1, 1, xL 1), some (.putfield 172, 3, xF 9 13 1),
  none, none, some (.aload_n 0, 1, xN), some (.iconst 1, 1, xI (1)), some (.putfield 175, 3, xF 9 14 0), none, none, some (.return_, 1, xN)]
def M_Li_restart : am_Me := (⟨R_Li, "restart", "()V"⟩, prog_6_method_10_code, 1, none, Y_Li, cd_Li_restart, 0, 0, 0, 0)
set_option maxRecDepth 100000 in
theorem ok_Li_restart : am_ok S_c M_Li_restart := am_ok_ofY (Y := Y_Li) (cd := cd_Li_restart) (by decide +kernel) rfl rfl rfl oY_Li (by decide +kernel)
def cd_Li_addRow : List (Option am_I) := [some (.aload_n 0, 1, xN), some (.getfield 27, 3, xF 9 2 2), none, none, some (.aload_n 0, 1, xN), some (.getfield 168, 3, xF 9 12 1), none, none,
  some (.aload_n 0, 1, xN), some (.getfield 172, 3, xF 9 13 1), none, none, some (.aload_n 0, 1, xN), some (.getfield 175, 3, xF 9 14 0), none, none,
  some (.iload_n 1, 1, xN), some (.invokevirtual 178, 3, xN), none, none, some (.ifCond .ne (11), 3, xJ 31), none, none, some (.aload_n 0, 1, xN),
  some (.getfield 36, 3, xF 9 4 2), none, none, some (.iconst 1, 1, xI (1)), some (.putfield 79, 3, xF 2 3 3), none, none, some (.return_, 1, xN)]
def M_Li_addRow : am_Me := (⟨R_Li, "addRow", "(Z)V"⟩, prog_6_method_11_code, 2, none, Y_Li, cd_Li_addRow, 1, 26, 0, 0)
set_option maxRecDepth 100000 in
theorem ok_Li_addRow : am_ok S_c M_Li_addRow := am_ok_ofY (Y := Y_Li) (cd := cd_Li_addRow) (by decide +kernel) rfl rfl rfl oY_Li (by decide +kernel)
def cd_Li_special : List (Option am_I) := [some (.aload_n 0, 1, xN), some (.dup, 1, xN), some (.getfield 168, 3, xF 9 12 1), none, none, some (.iload_n 1, 1, xN), some (.aload_n 0, 1, xN), some (.getfield 110, 3, xF 9 9 0),
  none, none, some (.idiv, 1, xN), some (.i2l, 1, xN), some (.ladd, 1, xN), some (.putfield 168, 3, xF 9 12 1), none, none,
  some (.aload_n 0, 1, xN), some (.dup, 1, xN), some (.getfield 175, 3, xF 9 14 0), none, none, some (.aload_n 0, 1, xN), some (.getfield 107, 3, xF 9 8 0), none,
  none, some (.iload_n 1, 1, xN), some (.aload_n 0, 1, xN), some (.getfield 110, 3, xF 9 9 0), none, none, some (.irem, 1, xN), some (.iadd, 1, xN),
  some (.iadd, 1, xN), some (.putfield 175, 3, xF 9 14 0), none, none, some (.aload_n 0, 1, xN), some (.iconst 0, 1, xI (0)), some (.invokevirtual 182, 3, xN), none,
  none, some (.return_, 1, xN)]
def M_Li_special : am_Me := (⟨R_Li, "special", "(I)V"⟩, prog_6_method_12_code, 2, none, Y_Li, cd_Li_special, 2, 47, 0, 0)
set_option maxRecDepth 100000 in
theorem ok_Li_special : am_ok S_c M_Li_special := am_ok_ofY (Y := Y_Li) (cd := cd_Li_special) (by decide +kernel) rfl rfl rfl oY_Li (by decide +kernel)
def cd_Li_extended : List (Option am_I) := [some (.aload_n 0, 1, xN), some (.getfield 36, 3, xF 9 4 2), none, none, some (.invokevirtual 122, 3, xN), none, none, some (.lstore_n 1, 1, xN),
  some (.aload_n 0, 1, xN), some (.getfield 36, 3, xF 9 4 2), none, none, some (.getfield 85, 3, xF 2 1 0), none, none, some (.istore_n 3, 1, xN),
  some (.aload_n 0, 1, xN), some (.getfield 36, 3, xF 9 4 2), none, none, some (.iconst 1, 1, xI (1)), some (.invokevirtual 75, 3, xN), none, none,
  some (.l2i, 1, xN), some (.istore 4, 2, xN), none, some (.iload 4, 2, xN), none, some (.iconst 2, 1, xI (2)), some (.if_icmp .ne (8), 3, xJ 38), none,
  none, some (.bipush 9, 2, xI (9)), none, some (.goto (4), 3, xJ 39), none, none, some (.iconst 1, 1, xI (1)), some (.istore 5, 2, xN),
  none, some (.aload_n 0, 1, xN), some (.getfield 36, 3, xF 9 4 2), none, none, some (.getfield 79, 3, xF 2 3 3), none, none,
  some (.ifCond .ne (26), 3, xJ 74), none, none, some (.lload_n 1, 1, xN), some (.iload 5, 2, xN), none, some (.i2l, 1, xN), some (.lcmp, 1, xN),
  some (.ifCond .lt (18), 3, xJ 74), none, none, some (.lload_n 1, 1, xN), some (.aload_n 0, 1, xN), some (.getfield 36, 3, xF 9 4 2), none, none,
  some (.getfield 83, 3, xF 2 2 0), none, none, some (.iload_n 3, 1, xN), some (.isub, 1, xN), some (.i2l, 1, xN), some (.lcmp, 1, xN), some (.ifCond .le (12), 3, xJ 83),
  none, none, some (.aload_n 0, 1, xN), some (.getfield 36, 3, xF 9 4 2), none, none, some (.iconst 1, 1, xI (1)), some (.putfield 79, 3, xF 2 3 3),
  none, none, some (.return_, 1, xN), some (.iload 4, 2, xN), none, some (.iconst 1, 1, xI (1)), some (.if_icmp .ne (15), 3, xJ 101), none,
  none, some (.aload_n 0, 1, xN), some (.iconst 1, 1, xI (1)), some (.invokevirtual 182, 3, xN), none, none, some (.aload_n 0, 1, xN), some (.invokevirtual 156, 3, xN),
  none, none, some (.goto (22), 3, xJ 120), none, none, some (.iload 4, 2, xN), none, some (.iconst 2, 1, xI (2)),
  some (.if_icmp .ne (16), 3, xJ 120), none, none, some (.aload_n 0, 1, xN), some (.aload_n 0, 1, xN), some (.getfield 36, 3, xF 9 4 2), none, none,
  some (.bipush 8, 2, xI (8)), none, some (.invokevirtual 75, 3, xN), none, none, some (.putfield 168, 3, xF 9 12 1), none, none,
  some (.aload_n 0, 1, xN), some (.getfield 36, 3, xF 9 4 2), none, none, some (.iload_n 3, 1, xN), some (.lload_n 1, 1, xN), some (.l2i, 1, xN), some (.iadd, 1, xN),
  some (.putfield 85, 3, xF 2 1 0), none, none, some (.return_, 1, xN)]
def M_Li_extended : am_Me := (⟨R_Li, "extended", "()V"⟩, prog_6_method_13_code, 6, none, Y_Li, cd_Li_extended, 2, 47, 0, 0)
set_option maxRecDepth 100000 in
theorem ok_Li_extended : am_ok S_c M_Li_extended := am_ok_ofY (Y := Y_Li) (cd := cd_Li_extended) (by decide +kernel) rfl rfl rfl oY_Li (by decide +kernel)
def cd_Li_standard : List (Option am_I) := [some (.iload_n 1, 1, xN), some (.tableswitch (184) (1) (12) #[63, 71, 90, 110, 124, 135, 135, 138, 164, 135, 135, 124], 63, xN), none, none, none, none, none, none,
  none, none, none, none, none, none, none, none,
  none, none, none, none, none, none, none, none,
  none, none, none, none, none, none, none, none,
  none, none, none, none, none, none, none, none,
  none, none, none, none, none, none, none, none,
  none, none, none, none, none, none, none, none,
  none, none, none, none, none, none, none, none,
  some (.aload_n 0, 1, xN), some (.iconst 0, 1, xI (0)), some (.invokevirtual 182, 3, xN), none, none, some (.goto (121), 3, xJ 190), none, none,
  some (.aload_n 0, 1, xN), some (.dup, 1, xN), some (.getfield 168, 3, xF 9 12 1), none, none, some (.aload_n 0, 1, xN), some (.getfield 36, 3, xF 9 4 2), none,
  none, some (.invokevirtual 122, 3, xN), none, none, some (.ladd, 1, xN), some (.putfield 168, 3, xF 9 12 1), none, none,
  some (.goto (102), 3, xJ 190), none, none, some (.aload_n 0, 1, xN), some (.dup, 1, xN), some (.getfield 175, 3, xF 9 14 0), none, none,
  some (.aload_n 0, 1, xN), some (.getfield 36, 3, xF 9 4 2), none, none, some (.invokevirtual 186, 3, xN), none, none, some (.l2i, 1, xN),
  some (.iadd, 1, xN), some (.putfield 175, 3, xF 9 14 0), none, none, some (.goto (82), 3, xJ 190), none, none, some (.aload_n 0, 1, xN),
  some (.aload_n 0, 1, xN), some (.getfield 36, 3, xF 9 4 2), none, none, some (.invokevirtual 122, 3, xN), none, none, some (.putfield 172, 3, xF 9 13 1),
  none, none, some (.goto (68), 3, xJ 190), none, none, some (.aload_n 0, 1, xN), some (.getfield 36, 3, xF 9 4 2), none,
  none, some (.invokevirtual 122, 3, xN), none, none, some (.pop2, 1, xN), some (.goto (57), 3, xJ 190), none, none,
  some (.goto (54), 3, xJ 190), none, none, some (.aload_n 0, 1, xN), some (.dup, 1, xN), some (.getfield 168, 3, xF 9 12 1), none, none,
  some (.sipush 255, 3, xI (255)), none, none, some (.aload_n 0, 1, xN), some (.getfield 113, 3, xF 9 10 0), none, none, some (.isub, 1, xN),
  some (.aload_n 0, 1, xN), some (.getfield 110, 3, xF 9 9 0), none, none, some (.idiv, 1, xN), some (.i2l, 1, xN), some (.ladd, 1, xN), some (.putfield 168, 3, xF 9 12 1),
  none, none, some (.goto (28), 3, xJ 190), none, none, some (.aload_n 0, 1, xN), some (.dup, 1, xN), some (.getfield 168, 3, xF 9 12 1),
  none, none, some (.aload_n 0, 1, xN), some (.getfield 36, 3, xF 9 4 2), none, none, some (.iconst 2, 1, xI (2)), some (.invokevirtual 75, 3, xN),
  none, none, some (.ladd, 1, xN), some (.putfield 168, 3, xF 9 12 1), none, none, some (.goto (8), 3, xJ 190), none,
  none, some (.aload_n 0, 1, xN), some (.iload_n 1, 1, xN), some (.invokevirtual 189, 3, xN), none, none, some (.return_, 1, xN)]
def M_Li_standard : am_Me := (⟨R_Li, "standard", "(I)V"⟩, prog_6_method_14_code, 2, none, Y_Li, cd_Li_standard, 3, 69, 0, 0)
set_option maxRecDepth 100000 in
theorem ok_Li_standard : am_ok S_c M_Li_standard := am_ok_ofY (Y := Y_Li) (cd := cd_Li_standard) (by decide +kernel) rfl rfl rfl oY_Li (by decide +kernel)
def cd_Li_passOperands : List (Option am_I) := [some (.aload_n 0, 1, xN), some (.getfield 15, 3, xF 9 3 2), none, none, some (.aload_n 0, 1, xN), some (.getfield 116, 3, xF 9 11 0), none, none,
  some (.iload_n 1, 1, xN), some (.iadd, 1, xN), some (.iconst 1, 1, xI (1)), some (.isub, 1, xN), some (.baload, 1, xJ 2), some (.sipush 255, 3, xI (255)), none, none,
  some (.iand, 1, xN), some (.istore_n 2, 1, xN), some (.iconst 0, 1, xI (0)), some (.istore_n 3, 1, xN), some (.iload_n 3, 1, xN), some (.iload_n 2, 1, xN), some (.if_icmp .ge (27), 3, xJ 49), none,
  none, some (.aload_n 0, 1, xN), some (.getfield 36, 3, xF 9 4 2), none, none, some (.getfield 79, 3, xF 2 3 3), none, none,
  some (.ifCond .ne (17), 3, xJ 49), none, none, some (.aload_n 0, 1, xN), some (.getfield 36, 3, xF 9 4 2), none, none, some (.invokevirtual 122, 3, xN),
  none, none, some (.pop2, 1, xN), some (.iinc 3 (1), 3, xI (1)), none, none, some (.goto (-26), 3, xJ 20), none,
  none, some (.return_, 1, xN)]
def M_Li_passOperands : am_Me := (⟨R_Li, "passOperands", "(I)V"⟩, prog_6_method_15_code, 4, none, Y_Li, cd_Li_passOperands, 2, 46, 0, 0)
set_option maxRecDepth 100000 in
theorem ok_Li_passOperands : am_ok S_c M_Li_passOperands := am_ok_ofY (Y := Y_Li) (cd := cd_Li_passOperands) (by decide +kernel) rfl rfl rfl oY_Li (by decide +kernel)
def cd_Sy_read : List (Option am_I) := [some (.aload_n 0, 1, xN), some (.iconst 0, 1, xI (0)), some (.putfield 39, 3, xF 10 6 0), none, none, some (.aload_n 0, 1, xN), some (.getfield 26, 3, xF 10 0 2), none,
  none, some (.aload_n 0, 1, xN), some (.getfield 35, 3, xF 10 1 2), none, none, some (.bipush 8, 2, xI (8)), none, some (.lconst 0, 1, xL 0),
  some (.invokevirtual 43, 3, xN), none, none, some (.aload_n 0, 1, xN), some (.getfield 35, 3, xF 10 1 2), none, none, some (.getfield 49, 3, xF 2 2 0),
  none, none, some (.aload_n 0, 1, xN), some (.getfield 35, 3, xF 10 1 2), none, none, some (.getfield 52, 3, xF 2 1 0), none,
  none, some (.isub, 1, xN), some (.istore_n 1, 1, xN), some (.iload_n 1, 1, xN), some (.bipush 24, 2, xI (24)), none, some (.irem, 1, xN), some (.ifCond .ne (12), 3, xJ 51),
  none, none, some (.iload_n 1, 1, xN), some (.bipush 24, 2, xI (24)), none, some (.idiv, 1, xN), some (.bipush 60, 2, xI (60)), none,
  some (.if_icmp .le (5), 3, xJ 53), none, none, some (.iconst 0, 1, xI (0)), some (.ireturn, 1, xN), some (.iconst 0, 1, xI (0)), some (.istore_n 2, 1, xN), some (.iload_n 2, 1, xN),
  some (.iload_n 1, 1, xN), some (.bipush 24, 2, xI (24)), none, some (.idiv, 1, xN), some (.if_icmp .ge (28), 3, xJ 88), none, none, some (.aload_n 0, 1, xN),
  some (.invokevirtual 55, 3, xN), none, none, some (.ifCond .ne (5), 3, xJ 72), none, none, some (.iconst 0, 1, xI (0)), some (.ireturn, 1, xN),
  some (.aload_n 0, 1, xN), some (.dup, 1, xN), some (.getfield 39, 3, xF 10 6 0), none, none, some (.iconst 1, 1, xI (1)), some (.iadd, 1, xN), some (.putfield 39, 3, xF 10 6 0),
  none, none, some (.iinc 2 (1), 3, xI (1)), none, none, some (.goto (-30), 3, xJ 55), none, none,
  some (.iconst 1, 1, xI (1)), some (.ireturn, 1, xN)]
def M_Sy_read : am_Me := (⟨R_Sy, "read", "()Z"⟩, prog_10_method_2_code, 3, (some .boolean), Y_Sy, cd_Sy_read, 3, 71, 0, 0)
set_option maxRecDepth 100000 in
theorem ok_Sy_read : am_ok S_c M_Sy_read := am_ok_ofY (Y := Y_Sy) (cd := cd_Sy_read) (by decide +kernel) rfl rfl rfl oY_Sy (by decide +kernel)
def cd_Sy_covering : List (Option am_I) := [some (.iconst 0, 1, xI (0)), some (.istore_n 3, 1, xN), some (.iload_n 3, 1, xN), some (.aload_n 0, 1, xN), some (.getfield 39, 3, xF 10 6 0), none, none, some (.if_icmp .ge (46), 3, xJ 53),
  none, none, some (.aload_n 0, 1, xN), some (.getfield 15, 3, xF 10 3 2), none, none, some (.iload_n 3, 1, xN), some (.baload, 1, xJ 3),
  some (.ifCond .eq (31), 3, xJ 47), none, none, some (.lload_n 1, 1, xN), some (.aload_n 0, 1, xN), some (.getfield 19, 3, xF 10 4 2), none, none,
  some (.iload_n 3, 1, xN), some (.laload, 1, xN), some (.invokestatic 59, 3, xN), none, none, some (.ifCond .ne (18), 3, xJ 47), none, none,
  some (.lload_n 1, 1, xN), some (.aload_n 0, 1, xN), some (.getfield 23, 3, xF 10 5 2), none, none, some (.iload_n 3, 1, xN), some (.laload, 1, xN), some (.invokestatic 59, 3, xN),
  none, none, some (.ifCond .eq (5), 3, xJ 47), none, none, some (.iload_n 3, 1, xN), some (.ireturn, 1, xN), some (.iinc 3 (1), 3, xI (1)),
  none, none, some (.goto (-48), 3, xJ 2), none, none, some (.iconst (-1), 1, xI (-1)), some (.ireturn, 1, xN)]
def M_Sy_covering : am_Me := (⟨R_Sy, "covering", "(J)I"⟩, prog_10_method_3_code, 4, (some .int), Y_Sy, cd_Sy_covering, 1, 23, 0, 0)
set_option maxRecDepth 100000 in
theorem ok_Sy_covering : am_ok S_c M_Sy_covering := am_ok_ofY (Y := Y_Sy) (cd := cd_Sy_covering) (by decide +kernel) rfl rfl rfl oY_Sy (by decide +kernel)
def cd_Sy_readOne : List (Option am_I) := [some (.aload_n 0, 1, xN), some (.getfield 9, 3, xF 10 2 2), none, none, some (.aload_n 0, 1, xN), some (.getfield 39, 3, xF 10 6 0), none, none,
  some (.aload_n 0, 1, xN), some (.getfield 26, 3, xF 10 0 2), none, none, some (.bipush 9, 2, xI (9)), none, some (.aload_n 0, 1, xN), some (.getfield 35, 3, xF 10 1 2),
  none, none, some (.iconst 4, 1, xI (4)), some (.invokevirtual 63, 3, xN), none, none, some (.invokevirtual 67, 3, xN), none,
  none, some (.iastore, 1, xN), some (.aload_n 0, 1, xN), some (.getfield 15, 3, xF 10 3 2), none, none, some (.aload_n 0, 1, xN), some (.getfield 39, 3, xF 10 6 0),
  none, none, some (.aload_n 0, 1, xN), some (.getfield 35, 3, xF 10 1 2), none, none, some (.iconst 1, 1, xI (1)), some (.invokevirtual 63, 3, xN),
  none, none, some (.ldc2_w 71, 3, xL (15)), none, none, some (.land, 1, xN), some (.ldc2_w 73, 3, xL (2)), none,
  none, some (.lcmp, 1, xN), some (.ifCond .ne (7), 3, xJ 57), none, none, some (.iconst 1, 1, xI (1)), some (.goto (4), 3, xJ 58), none,
  none, some (.iconst 0, 1, xI (0)), some (.bastore, 1, xJ 3), some (.aload_n 0, 1, xN), some (.getfield 35, 3, xF 10 1 2), none, none, some (.ldc2_w 75, 3, xL (3)),
  none, none, some (.invokevirtual 77, 3, xN), none, none, some (.aload_n 0, 1, xN), some (.getfield 19, 3, xF 10 4 2), none,
  none, some (.aload_n 0, 1, xN), some (.getfield 39, 3, xF 10 6 0), none, none, some (.aload_n 0, 1, xN), some (.getfield 35, 3, xF 10 1 2), none,
  none, some (.bipush 8, 2, xI (8)), none, some (.invokevirtual 63, 3, xN), none, none, some (.lastore, 1, xN), some (.aload_n 0, 1, xN),
  some (.getfield 23, 3, xF 10 5 2), none, none, some (.aload_n 0, 1, xN), some (.getfield 39, 3, xF 10 6 0), none, none, some (.aload_n 0, 1, xN),
  some (.getfield 19, 3, xF 10 4 2), none, none, some (.aload_n 0, 1, xN), some (.getfield 39, 3, xF 10 6 0), none, none, some (.laload, 1, xN),
  some (.aload_n 0, 1, xN), some (.getfield 35, 3, xF 10 1 2), none, none, some (.bipush 8, 2, xI (8)), none, some (.invokevirtual 63, 3, xN), none,
  none, some (.ladd, 1, xN), some (.lastore, 1, xN), some (.aload_n 0, 1, xN), some (.getfield 35, 3, xF 10 1 2), none, none, some (.getfield 81, 3, xF 2 3 3),
  none, none, some (.ifCond .ne (20), 3, xJ 142), none, none, some (.aload_n 0, 1, xN), some (.getfield 9, 3, xF 10 2 2), none,
  none, some (.aload_n 0, 1, xN), some (.getfield 39, 3, xF 10 6 0), none, none, some (.iaload, 1, xN), some (.iconst (-1), 1, xI (-1)), some (.if_icmp .eq (7), 3, xJ 142),
  none, none, some (.iconst 1, 1, xI (1)), some (.goto (4), 3, xJ 143), none, none, some (.iconst 0, 1, xI (0)), some (.ireturn, 1, xN)]
def M_Sy_readOne : am_Me := (⟨R_Sy, "readOne", "()Z"⟩, prog_10_method_4_code, 1, (some .boolean), Y_Sy, cd_Sy_readOne, 2, 51, 0, 0)
set_option maxRecDepth 100000 in
theorem ok_Sy_readOne : am_ok S_c M_Sy_readOne := am_ok_ofY (Y := Y_Sy) (cd := cd_Sy_readOne) (by decide +kernel) rfl rfl rfl oY_Sy (by decide +kernel)
def cd_Fr_has : List (Option am_I) := [some (.iload_n 1, 1, xN), some (.ifCond .lt (15), 3, xJ 16), none, none, some (.iload_n 1, 1, xN), some (.aload_n 0, 1, xN), some (.getfield 50, 3, xF 11 11 0), none,
  none, some (.if_icmp .ge (7), 3, xJ 16), none, none, some (.iconst 1, 1, xI (1)), some (.goto (4), 3, xJ 17), none, none,
  some (.iconst 0, 1, xI (0)), some (.ireturn, 1, xN)]
def M_Fr_has : am_Me := (⟨R_Fr, "has", "(I)Z"⟩, prog_5_method_2_code, 2, (some .boolean), Y_Fr, cd_Fr_has, 0, 0, 0, 0)
set_option maxRecDepth 100000 in
theorem ok_Fr_has : am_ok S_c M_Fr_has := am_ok_ofY (Y := Y_Fr) (cd := cd_Fr_has) (by decide +kernel) rfl rfl rfl oY_Fr (by decide +kernel)
def cd_Fr_build : List (Option am_I) := [some (.aload_n 0, 1, xN), some (.iconst 0, 1, xI (0)), some (.putfield 50, 3, xF 11 11 0), none, none, some (.aload_n 0, 1, xN), some (.lload_n 1, 1, xN), some (.invokevirtual 54, 3, xN),
  none, none, some (.istore_n 3, 1, xN), some (.iload_n 3, 1, xN), some (.iconst (-1), 1, xI (-1)), some (.if_icmp .eq (14), 3, xJ 27), none, none,
  some (.aload_n 0, 1, xN), some (.iload_n 3, 1, xN), some (.lload_n 1, 1, xN), some (.invokevirtual 58, 3, xN), none, none, some (.aload_n 0, 1, xN), some (.getfield 50, 3, xF 11 11 0),
  none, none, some (.ireturn, 1, xN), some (.aload_n 0, 1, xN), some (.getfield 46, 3, xF 11 4 2), none, none, some (.lload_n 1, 1, xN),
  some (.invokevirtual 62, 3, xN), none, none, some (.istore 4, 2, xN), none, some (.iload 4, 2, xN), none, some (.iconst (-1), 1, xI (-1)),
  some (.if_icmp .eq (19), 3, xJ 59), none, none, some (.aload_n 0, 1, xN), some (.aload_n 0, 1, xN), some (.getfield 46, 3, xF 11 4 2), none, none,
  some (.getfield 67, 3, xF 10 2 2), none, none, some (.iload 4, 2, xN), none, some (.iaload, 1, xN), some (.iconst (-1), 1, xI (-1)), some (.iconst 0, 1, xI (0)),
  some (.invokevirtual 68, 3, xN), none, none, some (.aload_n 0, 1, xN), some (.getfield 50, 3, xF 11 11 0), none, none, some (.ireturn, 1, xN)]
def M_Fr_build : am_Me := (⟨R_Fr, "build", "(J)I"⟩, prog_5_method_3_code, 5, (some .int), Y_Fr, cd_Fr_build, 5, 124, 0, 0)
set_option maxRecDepth 100000 in
theorem ok_Fr_build : am_ok S_c M_Fr_build := am_ok_ofY (Y := Y_Fr) (cd := cd_Fr_build) (by decide +kernel) rfl rfl rfl oY_Fr (by decide +kernel)
def cd_Fr_firstFunction : List (Option am_I) := [some (.iconst 0, 1, xI (0)), some (.istore_n 3, 1, xN), some (.iload_n 3, 1, xN), some (.aload_n 0, 1, xN), some (.getfield 34, 3, xF 11 1 2), none, none, some (.getfield 72, 3, xF 3 10 0),
  none, none, some (.if_icmp .ge (39), 3, xJ 49), none, none, some (.aload_n 0, 1, xN), some (.getfield 34, 3, xF 11 1 2), none,
  none, some (.getfield 75, 3, xF 3 0 2), none, none, some (.iload_n 3, 1, xN), some (.laload, 1, xN), some (.ldc2_w 79, 3, xL (46)), none,
  none, some (.lcmp, 1, xN), some (.ifCond .ne (17), 3, xJ 43), none, none, some (.aload_n 0, 1, xN), some (.getfield 38, 3, xF 11 2 2), none,
  none, some (.iload_n 3, 1, xN), some (.lload_n 1, 1, xN), some (.invokevirtual 81, 3, xN), none, none, some (.ifCond .eq (5), 3, xJ 43), none,
  none, some (.iload_n 3, 1, xN), some (.ireturn, 1, xN), some (.iinc 3 (1), 3, xI (1)), none, none, some (.goto (-44), 3, xJ 2), none,
  none, some (.iconst (-1), 1, xI (-1)), some (.ireturn, 1, xN)]
def M_Fr_firstFunction : am_Me := (⟨R_Fr, "firstFunction", "(J)I"⟩, prog_5_method_4_code, 4, (some .int), Y_Fr, cd_Fr_firstFunction, 2, 47, 0, 0)
set_option maxRecDepth 100000 in
theorem ok_Fr_firstFunction : am_ok S_c M_Fr_firstFunction := am_ok_ofY (Y := Y_Fr) (cd := cd_Fr_firstFunction) (by decide +kernel) rfl rfl rfl oY_Fr (by decide +kernel)
def cd_Fr_addChain : List (Option am_I) := [some (.iconst 0, 1, xI (0)), some (.istore 4, 2, xN), none, some (.iload_n 1, 1, xN), some (.istore 5, 2, xN), none, some (.iconst 0, 1, xI (0)), some (.istore 6, 2, xN),
  none, some (.iload 6, 2, xN), none, some (.bipush 16, 2, xI (16)), none, some (.if_icmp .ge (39), 3, xJ 52), none, none,
  some (.iload 5, 2, xN), none, some (.iconst (-1), 1, xI (-1)), some (.if_icmp .eq (33), 3, xJ 52), none, none, some (.aload_n 0, 1, xN), some (.getfield 9, 3, xF 11 5 2),
  none, none, some (.iload 6, 2, xN), none, some (.iload 5, 2, xN), none, some (.iastore, 1, xN), some (.iload 6, 2, xN),
  none, some (.iconst 1, 1, xI (1)), some (.iadd, 1, xN), some (.istore 4, 2, xN), none, some (.aload_n 0, 1, xN), some (.iload 5, 2, xN), none,
  some (.lload_n 2, 1, xN), some (.invokevirtual 87, 3, xN), none, none, some (.istore 5, 2, xN), none, some (.iinc 6 (1), 3, xI (1)), none,
  none, some (.goto (-40), 3, xJ 9), none, none, some (.aload_n 0, 1, xN), some (.aload_n 0, 1, xN), some (.getfield 9, 3, xF 11 5 2), none,
  none, some (.iload 4, 2, xN), none, some (.iconst 1, 1, xI (1)), some (.isub, 1, xN), some (.iaload, 1, xN), some (.lload_n 2, 1, xN), some (.invokevirtual 91, 3, xN),
  none, none, some (.iload 4, 2, xN), none, some (.iconst 2, 1, xI (2)), some (.isub, 1, xN), some (.istore 6, 2, xN), none,
  some (.iload 6, 2, xN), none, some (.ifCond .lt (29), 3, xJ 103), none, none, some (.aload_n 0, 1, xN), some (.aload_n 0, 1, xN), some (.getfield 9, 3, xF 11 5 2),
  none, none, some (.iload 6, 2, xN), none, some (.iaload, 1, xN), some (.aload_n 0, 1, xN), some (.getfield 9, 3, xF 11 5 2), none,
  none, some (.iload 6, 2, xN), none, some (.iconst 1, 1, xI (1)), some (.iadd, 1, xN), some (.iaload, 1, xN), some (.invokevirtual 94, 3, xN), none,
  none, some (.iinc 6 (-1), 3, xI (-1)), none, none, some (.goto (-28), 3, xJ 72), none, none, some (.return_, 1, xN)]
def M_Fr_addChain : am_Me := (⟨R_Fr, "addChain", "(IJ)V"⟩, prog_5_method_5_code, 7, none, Y_Fr, cd_Fr_addChain, 4, 98, 0, 0)
set_option maxRecDepth 100000 in
theorem ok_Fr_addChain : am_ok S_c M_Fr_addChain := am_ok_ofY (Y := Y_Fr) (cd := cd_Fr_addChain) (by decide +kernel) rfl rfl rfl oY_Fr (by decide +kernel)
def cd_Fr_firstPutInto : List (Option am_I) := [some (.iload_n 1, 1, xN), some (.iconst 1, 1, xI (1)), some (.iadd, 1, xN), some (.istore 4, 2, xN), none, some (.iload 4, 2, xN), none, some (.aload_n 0, 1, xN),
  some (.getfield 34, 3, xF 11 1 2), none, none, some (.getfield 72, 3, xF 3 10 0), none, none, some (.if_icmp .ge (53), 3, xJ 67), none,
  none, some (.aload_n 0, 1, xN), some (.getfield 34, 3, xF 11 1 2), none, none, some (.getfield 75, 3, xF 3 0 2), none, none,
  some (.iload 4, 2, xN), none, some (.laload, 1, xN), some (.ldc2_w 98, 3, xL (29)), none, none, some (.lcmp, 1, xN), some (.ifCond .ne (30), 3, xJ 61),
  none, none, some (.aload_n 0, 1, xN), some (.getfield 38, 3, xF 11 2 2), none, none, some (.iload 4, 2, xN), none,
  some (.lload_n 2, 1, xN), some (.invokevirtual 81, 3, xN), none, none, some (.ifCond .eq (17), 3, xJ 61), none, none, some (.aload_n 0, 1, xN),
  some (.iload 4, 2, xN), none, some (.iload_n 1, 1, xN), some (.lload_n 2, 1, xN), some (.invokevirtual 100, 3, xN), none, none, some (.ifCond .eq (6), 3, xJ 61),
  none, none, some (.iload 4, 2, xN), none, some (.ireturn, 1, xN), some (.iinc 4 (1), 3, xI (1)), none, none,
  some (.goto (-59), 3, xJ 5), none, none, some (.iconst (-1), 1, xI (-1)), some (.ireturn, 1, xN)]
def M_Fr_firstPutInto : am_Me := (⟨R_Fr, "firstPutInto", "(IJ)I"⟩, prog_5_method_6_code, 5, (some .int), Y_Fr, cd_Fr_firstPutInto, 3, 73, 0, 0)
set_option maxRecDepth 100000 in
theorem ok_Fr_firstPutInto : am_ok S_c M_Fr_firstPutInto := am_ok_ofY (Y := Y_Fr) (cd := cd_Fr_firstPutInto) (by decide +kernel) rfl rfl rfl oY_Fr (by decide +kernel)
def cd_Fr_isIn : List (Option am_I) := [some (.aload_n 0, 1, xN), some (.getfield 34, 3, xF 11 1 2), none, none, some (.getfield 104, 3, xF 3 1 2), none, none, some (.iload_n 1, 1, xN),
  some (.iaload, 1, xN), some (.istore 5, 2, xN), none, some (.iconst 0, 1, xI (0)), some (.istore 6, 2, xN), none, some (.iload 6, 2, xN), none,
  some (.bipush 16, 2, xI (16)), none, some (.if_icmp .ge (79), 3, xJ 97), none, none, some (.iload 5, 2, xN), none, some (.iload_n 2, 1, xN),
  some (.if_icmp .eq (73), 3, xJ 97), none, none, some (.iload 5, 2, xN), none, some (.iconst (-1), 1, xI (-1)), some (.if_icmp .eq (20), 3, xJ 50), none,
  none, some (.aload_n 0, 1, xN), some (.getfield 34, 3, xF 11 1 2), none, none, some (.getfield 75, 3, xF 3 0 2), none, none,
  some (.iload 5, 2, xN), none, some (.laload, 1, xN), some (.ldc2_w 107, 3, xL (11)), none, none, some (.lcmp, 1, xN), some (.ifCond .eq (5), 3, xJ 52),
  none, none, some (.iconst 0, 1, xI (0)), some (.ireturn, 1, xN), some (.aload_n 0, 1, xN), some (.getfield 34, 3, xF 11 1 2), none, none,
  some (.iload 5, 2, xN), none, some (.invokevirtual 109, 3, xN), none, none, some (.ifCond .eq (18), 3, xJ 79), none, none,
  some (.aload_n 0, 1, xN), some (.getfield 38, 3, xF 11 2 2), none, none, some (.iload 5, 2, xN), none, some (.lload_n 3, 1, xN), some (.invokevirtual 81, 3, xN),
  none, none, some (.ifCond .ne (5), 3, xJ 79), none, none, some (.iconst 0, 1, xI (0)), some (.ireturn, 1, xN), some (.aload_n 0, 1, xN),
  some (.getfield 34, 3, xF 11 1 2), none, none, some (.getfield 104, 3, xF 3 1 2), none, none, some (.iload 5, 2, xN), none,
  some (.iaload, 1, xN), some (.istore 5, 2, xN), none, some (.iinc 6 (1), 3, xI (1)), none, none, some (.goto (-80), 3, xJ 14), none,
  none, some (.iload 5, 2, xN), none, some (.iload_n 2, 1, xN), some (.if_icmp .ne (7), 3, xJ 107), none, none, some (.iconst 1, 1, xI (1)),
  some (.goto (4), 3, xJ 108), none, none, some (.iconst 0, 1, xI (0)), some (.ireturn, 1, xN)]
def M_Fr_isIn : am_Me := (⟨R_Fr, "isIn", "(IIJ)Z"⟩, prog_5_method_7_code, 7, (some .boolean), Y_Fr, cd_Fr_isIn, 2, 47, 0, 0)
set_option maxRecDepth 100000 in
theorem ok_Fr_isIn : am_ok S_c M_Fr_isIn := am_ok_ofY (Y := Y_Fr) (cd := cd_Fr_isIn) (by decide +kernel) rfl rfl rfl oY_Fr (by decide +kernel)
def cd_Fr_addInnermost : List (Option am_I) := [some (.aload_n 0, 1, xN), some (.getfield 34, 3, xF 11 1 2), none, none, some (.getfield 113, 3, xF 3 2 2), none, none, some (.iload_n 1, 1, xN),
  some (.iaload, 1, xN), some (.istore 4, 2, xN), none, some (.aload_n 0, 1, xN), some (.getfield 42, 3, xF 11 3 2), none, none, some (.iload 4, 2, xN),
  none, some (.lload_n 2, 1, xN), some (.invokevirtual 116, 3, xN), none, none, some (.istore 5, 2, xN), none, some (.iload 5, 2, xN),
  none, some (.iconst (-1), 1, xI (-1)), some (.if_icmp .ne (17), 3, xJ 43), none, none, some (.aload_n 0, 1, xN), some (.aload_n 0, 1, xN), some (.iload_n 1, 1, xN),
  some (.invokevirtual 121, 3, xN), none, none, some (.iconst (-1), 1, xI (-1)), some (.iconst 0, 1, xI (0)), some (.invokevirtual 68, 3, xN), none, none,
  some (.goto (41), 3, xJ 81), none, none, some (.aload_n 0, 1, xN), some (.aload_n 0, 1, xN), some (.iload_n 1, 1, xN), some (.invokevirtual 121, 3, xN), none,
  none, some (.aload_n 0, 1, xN), some (.getfield 42, 3, xF 11 3 2), none, none, some (.iload 4, 2, xN), none, some (.aload_n 0, 1, xN),
  some (.getfield 42, 3, xF 11 3 2), none, none, some (.getfield 125, 3, xF 8 1 2), none, none, some (.iload 5, 2, xN), none,
  some (.laload, 1, xN), some (.invokevirtual 128, 3, xN), none, none, some (.aload_n 0, 1, xN), some (.getfield 42, 3, xF 11 3 2), none, none,
  some (.getfield 131, 3, xF 8 2 2), none, none, some (.iload 5, 2, xN), none, some (.iaload, 1, xN), some (.invokevirtual 68, 3, xN), none,
  none, some (.return_, 1, xN)]
def M_Fr_addInnermost : am_Me := (⟨R_Fr, "addInnermost", "(IJ)V"⟩, prog_5_method_8_code, 6, none, Y_Fr, cd_Fr_addInnermost, 3, 73, 0, 0)
set_option maxRecDepth 100000 in
theorem ok_Fr_addInnermost : am_ok S_c M_Fr_addInnermost := am_ok_ofY (Y := Y_Fr) (cd := cd_Fr_addInnermost) (by decide +kernel) rfl rfl rfl oY_Fr (by decide +kernel)
def cd_Fr_addAround : List (Option am_I) := [some (.aload_n 0, 1, xN), some (.getfield 34, 3, xF 11 1 2), none, none, some (.iload_n 2, 1, xN), some (.iconst 5, 1, xI (5)), some (.invokevirtual 132, 3, xN), none,
  none, some (.istore_n 3, 1, xN), some (.iload_n 3, 1, xN), some (.ifCond .eq (31), 3, xJ 42), none, none, some (.aload_n 0, 1, xN), some (.getfield 42, 3, xF 11 3 2),
  none, none, some (.aload_n 0, 1, xN), some (.getfield 34, 3, xF 11 1 2), none, none, some (.getfield 113, 3, xF 3 2 2), none,
  none, some (.iload_n 1, 1, xN), some (.iaload, 1, xN), some (.aload_n 0, 1, xN), some (.getfield 34, 3, xF 11 1 2), none, none, some (.iload_n 2, 1, xN),
  some (.iconst 5, 1, xI (5)), some (.invokevirtual 136, 3, xN), none, none, some (.invokevirtual 128, 3, xN), none, none, some (.goto (4), 3, xJ 43),
  none, none, some (.iconst (-1), 1, xI (-1)), some (.istore 4, 2, xN), none, some (.aload_n 0, 1, xN), some (.aload_n 0, 1, xN), some (.iload_n 1, 1, xN),
  some (.invokevirtual 121, 3, xN), none, none, some (.iload 4, 2, xN), none, some (.aload_n 0, 1, xN), some (.getfield 34, 3, xF 11 1 2), none,
  none, some (.iload_n 2, 1, xN), some (.bipush 6, 2, xI (6)), none, some (.invokevirtual 132, 3, xN), none, none, some (.ifCond .eq (17), 3, xJ 80),
  none, none, some (.aload_n 0, 1, xN), some (.getfield 34, 3, xF 11 1 2), none, none, some (.iload_n 2, 1, xN), some (.bipush 6, 2, xI (6)),
  none, some (.invokevirtual 136, 3, xN), none, none, some (.l2i, 1, xN), some (.goto (4), 3, xJ 81), none, none,
  some (.iconst 0, 1, xI (0)), some (.invokevirtual 68, 3, xN), none, none, some (.return_, 1, xN)]
def M_Fr_addAround : am_Me := (⟨R_Fr, "addAround", "(II)V"⟩, prog_5_method_9_code, 5, none, Y_Fr, cd_Fr_addAround, 2, 45, 0, 0)
set_option maxRecDepth 100000 in
theorem ok_Fr_addAround : am_ok S_c M_Fr_addAround := am_ok_ofY (Y := Y_Fr) (cd := cd_Fr_addAround) (by decide +kernel) rfl rfl rfl oY_Fr (by decide +kernel)
def cd_Fr_nameOf : List (Option am_I) := [some (.iload_n 1, 1, xN), some (.istore_n 2, 1, xN), some (.iconst 0, 1, xI (0)), some (.istore_n 3, 1, xN), some (.iload_n 3, 1, xN), some (.bipush 8, 2, xI (8)), none, some (.if_icmp .gt (57), 3, xJ 64),
  none, none, some (.aload_n 0, 1, xN), some (.getfield 34, 3, xF 11 1 2), none, none, some (.iload_n 2, 1, xN), some (.iconst 0, 1, xI (0)),
  some (.invokevirtual 132, 3, xN), none, none, some (.ifCond .eq (14), 3, xJ 33), none, none, some (.aload_n 0, 1, xN), some (.getfield 34, 3, xF 11 1 2),
  none, none, some (.iload_n 2, 1, xN), some (.iconst 0, 1, xI (0)), some (.invokevirtual 136, 3, xN), none, none, some (.l2i, 1, xN),
  some (.ireturn, 1, xN), some (.aload_n 0, 1, xN), some (.getfield 34, 3, xF 11 1 2), none, none, some (.iload_n 2, 1, xN), some (.iconst 4, 1, xI (4)), some (.invokevirtual 132, 3, xN),
  none, none, some (.ifCond .ne (5), 3, xJ 47), none, none, some (.iconst (-1), 1, xI (-1)), some (.ireturn, 1, xN), some (.aload_n 0, 1, xN),
  some (.getfield 34, 3, xF 11 1 2), none, none, some (.iload_n 2, 1, xN), some (.iconst 4, 1, xI (4)), some (.invokevirtual 136, 3, xN), none, none,
  some (.l2i, 1, xN), some (.istore_n 2, 1, xN), some (.iinc 3 (1), 3, xI (1)), none, none, some (.goto (-57), 3, xJ 4), none, none,
  some (.iconst (-1), 1, xI (-1)), some (.ireturn, 1, xN)]
def M_Fr_nameOf : am_Me := (⟨R_Fr, "nameOf", "(I)I"⟩, prog_5_method_10_code, 4, (some .int), Y_Fr, cd_Fr_nameOf, 1, 22, 0, 0)
set_option maxRecDepth 100000 in
theorem ok_Fr_nameOf : am_ok S_c M_Fr_nameOf := am_ok_ofY (Y := Y_Fr) (cd := cd_Fr_nameOf) (by decide +kernel) rfl rfl rfl oY_Fr (by decide +kernel)
def cd_Fr_add : List (Option am_I) := [some (.aload_n 0, 1, xN), some (.getfield 15, 3, xF 11 6 2), none, none, some (.aload_n 0, 1, xN), some (.getfield 50, 3, xF 11 11 0), none, none,
  some (.iload_n 1, 1, xN), some (.iastore, 1, xN), some (.aload_n 0, 1, xN), some (.getfield 18, 3, xF 11 7 2), none, none, some (.aload_n 0, 1, xN), some (.getfield 50, 3, xF 11 11 0),
  none, none, some (.aload_n 0, 1, xN), some (.iload_n 1, 1, xN), some (.invokevirtual 140, 3, xN), none, none, some (.iastore, 1, xN),
  some (.aload_n 0, 1, xN), some (.getfield 21, 3, xF 11 8 2), none, none, some (.aload_n 0, 1, xN), some (.getfield 50, 3, xF 11 11 0), none, none,
  some (.iload_n 2, 1, xN), some (.iastore, 1, xN), some (.aload_n 0, 1, xN), some (.getfield 24, 3, xF 11 9 2), none, none, some (.aload_n 0, 1, xN), some (.getfield 50, 3, xF 11 11 0),
  none, none, some (.aload_n 0, 1, xN), some (.iload_n 2, 1, xN), some (.invokevirtual 140, 3, xN), none, none, some (.iastore, 1, xN),
  some (.aload_n 0, 1, xN), some (.getfield 27, 3, xF 11 10 2), none, none, some (.aload_n 0, 1, xN), some (.getfield 50, 3, xF 11 11 0), none, none,
  some (.iload_n 3, 1, xN), some (.iastore, 1, xN), some (.aload_n 0, 1, xN), some (.dup, 1, xN), some (.getfield 50, 3, xF 11 11 0), none, none, some (.iconst 1, 1, xI (1)),
  some (.iadd, 1, xN), some (.putfield 50, 3, xF 11 11 0), none, none, some (.return_, 1, xN)]
def M_Fr_add : am_Me := (⟨R_Fr, "add", "(III)V"⟩, prog_5_method_11_code, 4, none, Y_Fr, cd_Fr_add, 1, 22, 0, 0)
set_option maxRecDepth 100000 in
theorem ok_Fr_add : am_ok S_c M_Fr_add := am_ok_ofY (Y := Y_Fr) (cd := cd_Fr_add) (by decide +kernel) rfl rfl rfl oY_Fr (by decide +kernel)
def cd_Fr_textEnd : List (Option am_I) := [some (.iload_n 1, 1, xN), some (.iconst (-1), 1, xI (-1)), some (.if_icmp .ne (5), 3, xJ 7), none, none, some (.iconst (-1), 1, xI (-1)), some (.ireturn, 1, xN), some (.iload_n 1, 1, xN),
  some (.istore_n 2, 1, xN), some (.iload_n 2, 1, xN), some (.sipush 3000, 3, xI (3000)), none, none, some (.if_icmp .ge (18), 3, xJ 31), none, none,
  some (.aload_n 0, 1, xN), some (.getfield 30, 3, xF 11 0 2), none, none, some (.iload_n 2, 1, xN), some (.baload, 1, xJ 2), some (.ifCond .eq (9), 3, xJ 31), none,
  none, some (.iinc 2 (1), 3, xI (1)), none, none, some (.goto (-19), 3, xJ 9), none, none, some (.iload_n 2, 1, xN),
  some (.ireturn, 1, xN)]
def M_Fr_textEnd : am_Me := (⟨R_Fr, "textEnd", "(I)I"⟩, prog_5_method_12_code, 3, (some .int), Y_Fr, cd_Fr_textEnd, 0, 0, 0, 0)
set_option maxRecDepth 100000 in
theorem ok_Fr_textEnd : am_ok S_c M_Fr_textEnd := am_ok_ofY (Y := Y_Fr) (cd := cd_Fr_textEnd) (by decide +kernel) rfl rfl rfl oY_Fr (by decide +kernel)
