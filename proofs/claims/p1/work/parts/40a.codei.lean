def cd_F_init : List (Option am_I) := [some (.aload_n 0, 1, xN), some (.invokespecial 3, 3, xN), none, none, some (.aload_n 0, 1, xN), some (.sipush 3000, 3, xI (3000)), none, none,
  some (.newarray .byte, 2, xN), none, some (.putfield 9, 3, xF 0 0 2), none, none, some (.aload_n 0, 1, xN), some (.new 13, 3, xN), none,
  none, some (.dup, 1, xN), some (.aload_n 0, 1, xN), some (.getfield 9, 3, xF 0 0 2), none, none, some (.invokespecial 15, 3, xN), none,
  none, some (.putfield 18, 3, xF 0 1 2), none, none, some (.aload_n 0, 1, xN), some (.new 22, 3, xN), none, none,
  some (.dup, 1, xN), some (.invokespecial 24, 3, xN), none, none, some (.putfield 25, 3, xF 0 2 2), none, none, some (.aload_n 0, 1, xN),
  some (.new 29, 3, xN), none, none, some (.dup, 1, xN), some (.aload_n 0, 1, xN), some (.getfield 9, 3, xF 0 0 2), none, none,
  some (.aload_n 0, 1, xN), some (.getfield 18, 3, xF 0 1 2), none, none, some (.aload_n 0, 1, xN), some (.getfield 25, 3, xF 0 2 2), none, none,
  some (.invokespecial 31, 3, xN), none, none, some (.putfield 34, 3, xF 0 3 2), none, none, some (.aload_n 0, 1, xN), some (.new 38, 3, xN),
  none, none, some (.dup, 1, xN), some (.invokespecial 40, 3, xN), none, none, some (.putfield 41, 3, xF 0 4 2), none,
  none, some (.aload_n 0, 1, xN), some (.new 45, 3, xN), none, none, some (.dup, 1, xN), some (.aload_n 0, 1, xN), some (.getfield 9, 3, xF 0 0 2),
  none, none, some (.aload_n 0, 1, xN), some (.getfield 18, 3, xF 0 1 2), none, none, some (.aload_n 0, 1, xN), some (.getfield 25, 3, xF 0 2 2),
  none, none, some (.aload_n 0, 1, xN), some (.getfield 41, 3, xF 0 4 2), none, none, some (.invokespecial 47, 3, xN), none,
  none, some (.putfield 50, 3, xF 0 5 2), none, none, some (.aload_n 0, 1, xN), some (.new 54, 3, xN), none, none,
  some (.dup, 1, xN), some (.invokespecial 56, 3, xN), none, none, some (.putfield 57, 3, xF 0 6 2), none, none, some (.aload_n 0, 1, xN),
  some (.new 61, 3, xN), none, none, some (.dup, 1, xN), some (.aload_n 0, 1, xN), some (.getfield 9, 3, xF 0 0 2), none, none,
  some (.aload_n 0, 1, xN), some (.getfield 18, 3, xF 0 1 2), none, none, some (.aload_n 0, 1, xN), some (.getfield 25, 3, xF 0 2 2), none, none,
  some (.aload_n 0, 1, xN), some (.getfield 57, 3, xF 0 6 2), none, none, some (.invokespecial 63, 3, xN), none, none, some (.putfield 66, 3, xF 0 7 2),
  none, none, some (.aload_n 0, 1, xN), some (.new 70, 3, xN), none, none, some (.dup, 1, xN), some (.aload_n 0, 1, xN),
  some (.getfield 9, 3, xF 0 0 2), none, none, some (.aload_n 0, 1, xN), some (.getfield 18, 3, xF 0 1 2), none, none, some (.invokespecial 72, 3, xN),
  none, none, some (.putfield 75, 3, xF 0 8 2), none, none, some (.aload_n 0, 1, xN), some (.new 79, 3, xN), none,
  none, some (.dup, 1, xN), some (.aload_n 0, 1, xN), some (.getfield 9, 3, xF 0 0 2), none, none, some (.aload_n 0, 1, xN), some (.getfield 25, 3, xF 0 2 2),
  none, none, some (.aload_n 0, 1, xN), some (.getfield 41, 3, xF 0 4 2), none, none, some (.aload_n 0, 1, xN), some (.getfield 57, 3, xF 0 6 2),
  none, none, some (.aload_n 0, 1, xN), some (.getfield 75, 3, xF 0 8 2), none, none, some (.invokespecial 81, 3, xN), none,
  none, some (.putfield 84, 3, xF 0 9 2), none, none, some (.return_, 1, xN)]
def M_F_init : am_Me := (⟨R_F, "<init>", "()V"⟩, prog_1_method_1_code, 1, none, Y_F, cd_F_init, 3, 57, 64, 11537)
set_option maxRecDepth 100000 in
theorem ok_F_init : am_ok S_c M_F_init := am_ok_ofY (Y := Y_F) (cd := cd_F_init) (by decide +kernel) rfl rfl rfl oY_F (by decide +kernel)
def cd_Se_init : List (Option am_I) := [some (.aload_n 0, 1, xN), some (.invokespecial 3, 3, xN), none, none, some (.aload_n 0, 1, xN), some (.bipush 24, 2, xI (24)), none, some (.newarray .int, 2, xN),
  none, some (.putfield 9, 3, xF 1 2 2), none, none, some (.aload_n 0, 1, xN), some (.bipush 24, 2, xI (24)), none, some (.newarray .int, 2, xN),
  none, some (.putfield 15, 3, xF 1 3 2), none, none, some (.aload_n 0, 1, xN), some (.bipush 24, 2, xI (24)), none, some (.newarray .long, 2, xN),
  none, some (.putfield 18, 3, xF 1 4 2), none, none, some (.aload_n 0, 1, xN), some (.bipush 10, 2, xI (10)), none, some (.newarray .int, 2, xN),
  none, some (.putfield 22, 3, xF 1 5 2), none, none, some (.aload_n 0, 1, xN), some (.bipush 10, 2, xI (10)), none, some (.newarray .int, 2, xN),
  none, some (.putfield 25, 3, xF 1 6 2), none, none, some (.aload_n 0, 1, xN), some (.bipush 10, 2, xI (10)), none, some (.newarray .boolean, 2, xN),
  none, some (.putfield 28, 3, xF 1 7 2), none, none, some (.aload_n 0, 1, xN), some (.aload_n 1, 1, xN), some (.putfield 32, 3, xF 1 0 2), none,
  none, some (.aload_n 0, 1, xN), some (.new 36, 3, xN), none, none, some (.dup, 1, xN), some (.aload_n 1, 1, xN), some (.invokespecial 38, 3, xN),
  none, none, some (.putfield 41, 3, xF 1 1 2), none, none, some (.return_, 1, xN)]
def M_Se_init : am_Me := (⟨R_Se, "<init>", "([B)V"⟩, prog_9_method_1_code, 2, none, Y_Se, cd_Se_init, 2, 33, 7, 106)
set_option maxRecDepth 100000 in
theorem ok_Se_init : am_ok S_c M_Se_init := am_ok_ofY (Y := Y_Se) (cd := cd_Se_init) (by decide +kernel) rfl rfl rfl oY_Se (by decide +kernel)
def cd_Cu_init : List (Option am_I) := [some (.aload_n 0, 1, xN), some (.invokespecial 3, 3, xN), none, none, some (.aload_n 0, 1, xN), some (.aload_n 1, 1, xN), some (.putfield 9, 3, xF 2 0 2), none,
  none, some (.return_, 1, xN)]
def M_Cu_init : am_Me := (⟨R_Cu, "<init>", "([B)V"⟩, prog_3_method_1_code, 2, none, Y_Cu, cd_Cu_init, 1, 12, 0, 0)
set_option maxRecDepth 100000 in
theorem ok_Cu_init : am_ok S_c M_Cu_init := am_ok_ofY (Y := Y_Cu) (cd := cd_Cu_init) (by decide +kernel) rfl rfl rfl oY_Cu (by decide +kernel)
def cd_En_init : List (Option am_I) := [some (.aload_n 0, 1, xN), some (.invokespecial 3, 3, xN), none, none, some (.aload_n 0, 1, xN), some (.sipush 200, 3, xI (200)), none, none,
  some (.newarray .long, 2, xN), none, some (.putfield 9, 3, xF 3 0 2), none, none, some (.aload_n 0, 1, xN), some (.sipush 200, 3, xI (200)), none,
  none, some (.newarray .int, 2, xN), none, some (.putfield 15, 3, xF 3 1 2), none, none, some (.aload_n 0, 1, xN), some (.sipush 200, 3, xI (200)),
  none, none, some (.newarray .int, 2, xN), none, some (.putfield 19, 3, xF 3 2 2), none, none, some (.aload_n 0, 1, xN),
  some (.sipush 200, 3, xI (200)), none, none, some (.newarray .int, 2, xN), none, some (.putfield 22, 3, xF 3 3 2), none, none,
  some (.aload_n 0, 1, xN), some (.sipush 1400, 3, xI (1400)), none, none, some (.newarray .int, 2, xN), none, some (.putfield 25, 3, xF 3 4 2), none,
  none, some (.aload_n 0, 1, xN), some (.sipush 1400, 3, xI (1400)), none, none, some (.newarray .long, 2, xN), none, some (.putfield 28, 3, xF 3 5 2),
  none, none, some (.aload_n 0, 1, xN), some (.iconst 4, 1, xI (4)), some (.newarray .int, 2, xN), none, some (.putfield 31, 3, xF 3 6 2), none,
  none, some (.aload_n 0, 1, xN), some (.iconst 4, 1, xI (4)), some (.newarray .int, 2, xN), none, some (.putfield 34, 3, xF 3 7 2), none, none,
  some (.aload_n 0, 1, xN), some (.bipush 16, 2, xI (16)), none, some (.newarray .int, 2, xN), none, some (.putfield 37, 3, xF 3 8 2), none, none,
  some (.aload_n 0, 1, xN), some (.bipush 16, 2, xI (16)), none, some (.newarray .long, 2, xN), none, some (.putfield 40, 3, xF 3 9 2), none, none,
  some (.return_, 1, xN)]
def M_En_init : am_Me := (⟨R_En, "<init>", "()V"⟩, prog_4_method_1_code, 1, none, Y_En, cd_En_init, 1, 12, 10, 3640)
set_option maxRecDepth 100000 in
theorem ok_En_init : am_ok S_c M_En_init := am_ok_ofY (Y := Y_En) (cd := cd_En_init) (by decide +kernel) rfl rfl rfl oY_En (by decide +kernel)
def cd_Ur_init : List (Option am_I) := [some (.aload_n 0, 1, xN), some (.invokespecial 3, 3, xN), none, none, some (.aload_n 0, 1, xN), some (.aload_n 2, 1, xN), some (.putfield 9, 3, xF 4 0 2), none,
  none, some (.aload_n 0, 1, xN), some (.aload_n 3, 1, xN), some (.putfield 15, 3, xF 4 1 2), none, none, some (.aload_n 0, 1, xN), some (.new 19, 3, xN),
  none, none, some (.dup, 1, xN), some (.invokespecial 21, 3, xN), none, none, some (.putfield 22, 3, xF 4 2 2), none,
  none, some (.aload_n 0, 1, xN), some (.new 26, 3, xN), none, none, some (.dup, 1, xN), some (.aload_n 1, 1, xN), some (.invokespecial 28, 3, xN),
  none, none, some (.putfield 31, 3, xF 4 3 2), none, none, some (.aload_n 0, 1, xN), some (.new 26, 3, xN), none,
  none, some (.dup, 1, xN), some (.aload_n 1, 1, xN), some (.invokespecial 28, 3, xN), none, none, some (.putfield 35, 3, xF 4 4 2), none,
  none, some (.return_, 1, xN)]
def M_Ur_init : am_Me := (⟨R_Ur, "<init>", "([BLFrameFinder$Sections;LFrameFinder$Entries;)V"⟩, prog_11_method_1_code, 4, none, Y_Ur, cd_Ur_init, 2, 33, 10, 1616)
set_option maxRecDepth 100000 in
theorem ok_Ur_init : am_ok S_c M_Ur_init := am_ok_ofY (Y := Y_Ur) (cd := cd_Ur_init) (by decide +kernel) rfl rfl rfl oY_Ur (by decide +kernel)
def cd_Ab_init : List (Option am_I) := [some (.aload_n 0, 1, xN), some (.invokespecial 3, 3, xN), none, none, some (.aload_n 0, 1, xN), some (.bipush 40, 2, xI (40)), none, some (.newarray .long, 2, xN),
  none, some (.putfield 9, 3, xF 5 0 2), none, none, some (.aload_n 0, 1, xN), some (.bipush 40, 2, xI (40)), none, some (.newarray .long, 2, xN),
  none, some (.putfield 15, 3, xF 5 1 2), none, none, some (.aload_n 0, 1, xN), some (.bipush 40, 2, xI (40)), none, some (.newarray .boolean, 2, xN),
  none, some (.putfield 18, 3, xF 5 2 2), none, none, some (.aload_n 0, 1, xN), some (.bipush 40, 2, xI (40)), none, some (.newarray .int, 2, xN),
  none, some (.putfield 22, 3, xF 5 3 2), none, none, some (.aload_n 0, 1, xN), some (.sipush 480, 3, xI (480)), none, none,
  some (.newarray .long, 2, xN), none, some (.putfield 26, 3, xF 5 4 2), none, none, some (.aload_n 0, 1, xN), some (.sipush 480, 3, xI (480)), none,
  none, some (.newarray .int, 2, xN), none, some (.putfield 29, 3, xF 5 5 2), none, none, some (.aload_n 0, 1, xN), some (.sipush 480, 3, xI (480)),
  none, none, some (.newarray .long, 2, xN), none, some (.putfield 32, 3, xF 5 6 2), none, none, some (.return_, 1, xN)]
def M_Ab_init : am_Me := (⟨R_Ab, "<init>", "()V"⟩, prog_2_method_1_code, 1, none, Y_Ab, cd_Ab_init, 1, 12, 7, 1600)
set_option maxRecDepth 100000 in
theorem ok_Ab_init : am_ok S_c M_Ab_init := am_ok_ofY (Y := Y_Ab) (cd := cd_Ab_init) (by decide +kernel) rfl rfl rfl oY_Ab (by decide +kernel)
def cd_Ra_init : List (Option am_I) := [some (.aload_n 0, 1, xN), some (.invokespecial 3, 3, xN), none, none, some (.aload_n 0, 1, xN), some (.sipush 300, 3, xI (300)), none, none,
  some (.newarray .long, 2, xN), none, some (.putfield 9, 3, xF 6 0 2), none, none, some (.aload_n 0, 1, xN), some (.sipush 300, 3, xI (300)), none,
  none, some (.newarray .long, 2, xN), none, some (.putfield 15, 3, xF 6 1 2), none, none, some (.aload_n 0, 1, xN), some (.sipush 200, 3, xI (200)),
  none, none, some (.newarray .int, 2, xN), none, some (.putfield 18, 3, xF 6 2 2), none, none, some (.aload_n 0, 1, xN),
  some (.sipush 200, 3, xI (200)), none, none, some (.newarray .int, 2, xN), none, some (.putfield 22, 3, xF 6 3 2), none, none,
  some (.return_, 1, xN)]
def M_Ra_init : am_Me := (⟨R_Ra, "<init>", "()V"⟩, prog_7_method_1_code, 1, none, Y_Ra, cd_Ra_init, 1, 12, 4, 1000)
set_option maxRecDepth 100000 in
theorem ok_Ra_init : am_ok S_c M_Ra_init := am_ok_ofY (Y := Y_Ra) (cd := cd_Ra_init) (by decide +kernel) rfl rfl rfl oY_Ra (by decide +kernel)
def cd_Va_init : List (Option am_I) := [some (.aload_n 0, 1, xN), some (.invokespecial 3, 3, xN), none, none, some (.aload_n 0, 1, xN), some (.aload_n 2, 1, xN), some (.putfield 9, 3, xF 7 0 2), none,
  none, some (.aload_n 0, 1, xN), some (.aload_n 3, 1, xN), some (.putfield 15, 3, xF 7 1 2), none, none, some (.aload_n 0, 1, xN), some (.aload 4, 2, xN),
  none, some (.putfield 19, 3, xF 7 2 2), none, none, some (.aload_n 0, 1, xN), some (.new 23, 3, xN), none, none,
  some (.dup, 1, xN), some (.aload_n 1, 1, xN), some (.invokespecial 25, 3, xN), none, none, some (.putfield 28, 3, xF 7 3 2), none, none,
  some (.aload_n 0, 1, xN), some (.new 23, 3, xN), none, none, some (.dup, 1, xN), some (.aload_n 1, 1, xN), some (.invokespecial 25, 3, xN), none,
  none, some (.putfield 32, 3, xF 7 4 2), none, none, some (.return_, 1, xN)]
def M_Va_init : am_Me := (⟨R_Va, "<init>", "([BLFrameFinder$Sections;LFrameFinder$Entries;LFrameFinder$Ranges;)V"⟩, prog_12_method_1_code, 5, none, Y_Va, cd_Va_init, 2, 33, 2, 8)
set_option maxRecDepth 100000 in
theorem ok_Va_init : am_ok S_c M_Va_init := am_ok_ofY (Y := Y_Va) (cd := cd_Va_init) (by decide +kernel) rfl rfl rfl oY_Va (by decide +kernel)
def cd_Ro_init : List (Option am_I) := [some (.aload_n 0, 1, xN), some (.invokespecial 3, 3, xN), none, none, some (.aload_n 0, 1, xN), some (.sipush 400, 3, xI (400)), none, none,
  some (.newarray .long, 2, xN), none, some (.putfield 9, 3, xF 8 0 2), none, none, some (.aload_n 0, 1, xN), some (.sipush 400, 3, xI (400)), none,
  none, some (.newarray .long, 2, xN), none, some (.putfield 15, 3, xF 8 1 2), none, none, some (.aload_n 0, 1, xN), some (.sipush 400, 3, xI (400)),
  none, none, some (.newarray .int, 2, xN), none, some (.putfield 18, 3, xF 8 2 2), none, none, some (.aload_n 0, 1, xN),
  some (.sipush 400, 3, xI (400)), none, none, some (.newarray .boolean, 2, xN), none, some (.putfield 22, 3, xF 8 3 2), none, none,
  some (.aload_n 0, 1, xN), some (.iconst 4, 1, xI (4)), some (.newarray .int, 2, xN), none, some (.putfield 26, 3, xF 8 4 2), none, none, some (.aload_n 0, 1, xN),
  some (.iconst 4, 1, xI (4)), some (.newarray .int, 2, xN), none, some (.putfield 29, 3, xF 8 5 2), none, none, some (.aload_n 0, 1, xN), some (.iconst 4, 1, xI (4)),
  some (.newarray .int, 2, xN), none, some (.putfield 32, 3, xF 8 6 2), none, none, some (.aload_n 0, 1, xN), some (.bipush 120, 2, xI (120)), none,
  some (.newarray .int, 2, xN), none, some (.putfield 35, 3, xF 8 7 2), none, none, some (.return_, 1, xN)]
def M_Ro_init : am_Me := (⟨R_Ro, "<init>", "()V"⟩, prog_8_method_1_code, 1, none, Y_Ro, cd_Ro_init, 1, 12, 8, 1732)
set_option maxRecDepth 100000 in
theorem ok_Ro_init : am_ok S_c M_Ro_init := am_ok_ofY (Y := Y_Ro) (cd := cd_Ro_init) (by decide +kernel) rfl rfl rfl oY_Ro (by decide +kernel)
def cd_Li_init : List (Option am_I) := [some (.aload_n 0, 1, xN), some (.invokespecial 3, 3, xN), none, none, some (.aload_n 0, 1, xN), some (.bipush 6, 2, xI (6)), none, some (.newarray .int, 2, xN),
  none, some (.putfield 9, 3, xF 9 5 2), none, none, some (.aload_n 0, 1, xN), some (.aload_n 1, 1, xN), some (.putfield 15, 3, xF 9 3 2), none,
  none, some (.aload_n 0, 1, xN), some (.aload_n 2, 1, xN), some (.putfield 19, 3, xF 9 0 2), none, none, some (.aload_n 0, 1, xN), some (.aload_n 3, 1, xN),
  some (.putfield 23, 3, xF 9 1 2), none, none, some (.aload_n 0, 1, xN), some (.aload 4, 2, xN), none, some (.putfield 27, 3, xF 9 2 2), none,
  none, some (.aload_n 0, 1, xN), some (.new 31, 3, xN), none, none, some (.dup, 1, xN), some (.aload_n 1, 1, xN), some (.invokespecial 33, 3, xN),
  none, none, some (.putfield 36, 3, xF 9 4 2), none, none, some (.return_, 1, xN)]
def M_Li_init : am_Me := (⟨R_Li, "<init>", "([BLFrameFinder$Sections;LFrameFinder$Entries;LFrameFinder$Rows;)V"⟩, prog_6_method_1_code, 5, none, Y_Li, cd_Li_init, 2, 33, 2, 10)
set_option maxRecDepth 100000 in
theorem ok_Li_init : am_ok S_c M_Li_init := am_ok_ofY (Y := Y_Li) (cd := cd_Li_init) (by decide +kernel) rfl rfl rfl oY_Li (by decide +kernel)
def cd_Sy_init : List (Option am_I) := [some (.aload_n 0, 1, xN), some (.invokespecial 3, 3, xN), none, none, some (.aload_n 0, 1, xN), some (.bipush 60, 2, xI (60)), none, some (.newarray .int, 2, xN),
  none, some (.putfield 9, 3, xF 10 2 2), none, none, some (.aload_n 0, 1, xN), some (.bipush 60, 2, xI (60)), none, some (.newarray .boolean, 2, xN),
  none, some (.putfield 15, 3, xF 10 3 2), none, none, some (.aload_n 0, 1, xN), some (.bipush 60, 2, xI (60)), none, some (.newarray .long, 2, xN),
  none, some (.putfield 19, 3, xF 10 4 2), none, none, some (.aload_n 0, 1, xN), some (.bipush 60, 2, xI (60)), none, some (.newarray .long, 2, xN),
  none, some (.putfield 23, 3, xF 10 5 2), none, none, some (.aload_n 0, 1, xN), some (.aload_n 2, 1, xN), some (.putfield 26, 3, xF 10 0 2), none,
  none, some (.aload_n 0, 1, xN), some (.new 30, 3, xN), none, none, some (.dup, 1, xN), some (.aload_n 1, 1, xN), some (.invokespecial 32, 3, xN),
  none, none, some (.putfield 35, 3, xF 10 1 2), none, none, some (.return_, 1, xN)]
def M_Sy_init : am_Me := (⟨R_Sy, "<init>", "([BLFrameFinder$Sections;)V"⟩, prog_10_method_1_code, 3, none, Y_Sy, cd_Sy_init, 2, 33, 5, 244)
set_option maxRecDepth 100000 in
theorem ok_Sy_init : am_ok S_c M_Sy_init := am_ok_ofY (Y := Y_Sy) (cd := cd_Sy_init) (by decide +kernel) rfl rfl rfl oY_Sy (by decide +kernel)
def cd_Fr_init : List (Option am_I) := [some (.aload_n 0, 1, xN), some (.invokespecial 3, 3, xN), none, none, some (.aload_n 0, 1, xN), some (.bipush 16, 2, xI (16)), none, some (.newarray .int, 2, xN),
  none, some (.putfield 9, 3, xF 11 5 2), none, none, some (.aload_n 0, 1, xN), some (.bipush 16, 2, xI (16)), none, some (.newarray .int, 2, xN),
  none, some (.putfield 15, 3, xF 11 6 2), none, none, some (.aload_n 0, 1, xN), some (.bipush 16, 2, xI (16)), none, some (.newarray .int, 2, xN),
  none, some (.putfield 18, 3, xF 11 7 2), none, none, some (.aload_n 0, 1, xN), some (.bipush 16, 2, xI (16)), none, some (.newarray .int, 2, xN),
  none, some (.putfield 21, 3, xF 11 8 2), none, none, some (.aload_n 0, 1, xN), some (.bipush 16, 2, xI (16)), none, some (.newarray .int, 2, xN),
  none, some (.putfield 24, 3, xF 11 9 2), none, none, some (.aload_n 0, 1, xN), some (.bipush 16, 2, xI (16)), none, some (.newarray .int, 2, xN),
  none, some (.putfield 27, 3, xF 11 10 2), none, none, some (.aload_n 0, 1, xN), some (.aload_n 1, 1, xN), some (.putfield 30, 3, xF 11 0 2), none,
  none, some (.aload_n 0, 1, xN), some (.aload_n 2, 1, xN), some (.putfield 34, 3, xF 11 1 2), none, none, some (.aload_n 0, 1, xN), some (.aload_n 3, 1, xN),
  some (.putfield 38, 3, xF 11 2 2), none, none, some (.aload_n 0, 1, xN), some (.aload 4, 2, xN), none, some (.putfield 42, 3, xF 11 3 2), none,
  none, some (.aload_n 0, 1, xN), some (.aload 5, 2, xN), none, some (.putfield 46, 3, xF 11 4 2), none, none, some (.return_, 1, xN)]
def M_Fr_init : am_Me := (⟨R_Fr, "<init>", "([BLFrameFinder$Entries;LFrameFinder$Ranges;LFrameFinder$Rows;LFrameFinder$Symbols;)V"⟩, prog_5_method_1_code, 6, none, Y_Fr, cd_Fr_init, 1, 12, 6, 96)
set_option maxRecDepth 100000 in
theorem ok_Fr_init : am_ok S_c M_Fr_init := am_ok_ofY (Y := Y_Fr) (cd := cd_Fr_init) (by decide +kernel) rfl rfl rfl oY_Fr (by decide +kernel)
def cd_Mo_init : List (Option am_I) := [some (.aload_n 0, 1, xN), some (.invokespecial 1, 3, xN), none, none, some (.aload_n 0, 1, xN), some (.bipush 30, 2, xI (30)), none, some (.newarray .long, 2, xN),
  none, some (.dup, 1, xN), some (.iconst 0, 1, xI (0)), some (.ldc2_w 7, 3, xL (7016440498326168622)), none, none, some (.lastore, 1, xN), some (.dup, 1, xN),
  some (.iconst 1, 1, xI (1)), some (.ldc2_w 9, 3, xL (508508136034)), none, none, some (.lastore, 1, xN), some (.dup, 1, xN), some (.iconst 2, 1, xI (2)), some (.lconst 0, 1, xL 0),
  some (.lastore, 1, xN), some (.dup, 1, xN), some (.iconst 3, 1, xI (3)), some (.ldc2_w 11, 3, xL (7592901250629592110)), none, none, some (.lastore, 1, xN), some (.dup, 1, xN),
  some (.iconst 4, 1, xI (4)), some (.ldc2_w 13, 3, xL (7300718)), none, none, some (.lastore, 1, xN), some (.dup, 1, xN), some (.iconst 5, 1, xI (5)), some (.lconst 0, 1, xL 0),
  some (.lastore, 1, xN), some (.dup, 1, xN), some (.bipush 6, 2, xI (6)), none, some (.ldc2_w 15, 3, xL (8313477191008871470)), none, none, some (.lastore, 1, xN),
  some (.dup, 1, xN), some (.bipush 7, 2, xI (7)), none, some (.ldc2_w 17, 3, xL (29300)), none, none, some (.lastore, 1, xN), some (.dup, 1, xN),
  some (.bipush 8, 2, xI (8)), none, some (.lconst 0, 1, xL 0), some (.lastore, 1, xN), some (.dup, 1, xN), some (.bipush 9, 2, xI (9)), none, some (.ldc2_w 19, 3, xL (7809074032743375918)),
  none, none, some (.lastore, 1, xN), some (.dup, 1, xN), some (.bipush 10, 2, xI (10)), none, some (.ldc2_w 21, 3, xL (32216186215558761)), none,
  none, some (.lastore, 1, xN), some (.dup, 1, xN), some (.bipush 11, 2, xI (11)), none, some (.lconst 0, 1, xL 0), some (.lastore, 1, xN), some (.dup, 1, xN),
  some (.bipush 12, 2, xI (12)), none, some (.ldc2_w 15, 3, xL (8313477191008871470)), none, none, some (.lastore, 1, xN), some (.dup, 1, xN), some (.bipush 13, 2, xI (13)),
  none, some (.ldc2_w 23, 3, xL (7310299210293670516)), none, none, some (.lastore, 1, xN), some (.dup, 1, xN), some (.bipush 14, 2, xI (14)), none,
  some (.ldc2_w 25, 3, xL (29556)), none, none, some (.lastore, 1, xN), some (.dup, 1, xN), some (.bipush 15, 2, xI (15)), none, some (.ldc2_w 7, 3, xL (7016440498326168622)),
  none, none, some (.lastore, 1, xN), some (.dup, 1, xN), some (.bipush 16, 2, xI (16)), none, some (.ldc2_w 27, 3, xL (7496804)), none,
  none, some (.lastore, 1, xN), some (.dup, 1, xN), some (.bipush 17, 2, xI (17)), none, some (.lconst 0, 1, xL 0), some (.lastore, 1, xN), some (.dup, 1, xN),
  some (.bipush 18, 2, xI (18)), none, some (.ldc2_w 29, 3, xL (8241419596970943534)), none, none, some (.lastore, 1, xN), some (.dup, 1, xN), some (.bipush 19, 2, xI (19)),
  none, some (.ldc2_w 31, 3, xL (32497661360498542)), none, none, some (.lastore, 1, xN), some (.dup, 1, xN), some (.bipush 20, 2, xI (20)), none,
  some (.lconst 0, 1, xL 0), some (.lastore, 1, xN), some (.dup, 1, xN), some (.bipush 21, 2, xI (21)), none, some (.ldc2_w 19, 3, xL (7809074032743375918)), none, none,
  some (.lastore, 1, xN), some (.dup, 1, xN), some (.bipush 22, 2, xI (22)), none, some (.ldc2_w 33, 3, xL (6647401)), none, none, some (.lastore, 1, xN),
  some (.dup, 1, xN), some (.bipush 23, 2, xI (23)), none, some (.lconst 0, 1, xL 0), some (.lastore, 1, xN), some (.dup, 1, xN), some (.bipush 24, 2, xI (24)), none,
  some (.ldc2_w 35, 3, xL (27691700398420782)), none, none, some (.lastore, 1, xN), some (.dup, 1, xN), some (.bipush 25, 2, xI (25)), none, some (.lconst 0, 1, xL 0),
  some (.lastore, 1, xN), some (.dup, 1, xN), some (.bipush 26, 2, xI (26)), none, some (.lconst 0, 1, xL 0), some (.lastore, 1, xN), some (.dup, 1, xN), some (.bipush 27, 2, xI (27)),
  none, some (.ldc2_w 37, 3, xL (27691700481979182)), none, none, some (.lastore, 1, xN), some (.dup, 1, xN), some (.bipush 28, 2, xI (28)), none,
  some (.lconst 0, 1, xL 0), some (.lastore, 1, xN), some (.dup, 1, xN), some (.bipush 29, 2, xI (29)), none, some (.lconst 0, 1, xL 0), some (.lastore, 1, xN), some (.putfield 39, 3, xF 0 0 2),
  none, none, some (.aload_n 0, 1, xN), some (.sipush 3000, 3, xI (3000)), none, none, some (.newarray .byte, 2, xN), none,
  some (.putfield 45, 3, xF 0 2 2), none, none, some (.aload_n 0, 1, xN), some (.bipush 10, 2, xI (10)), none, some (.newarray .int, 2, xN), none,
  some (.putfield 49, 3, xF 0 10 2), none, none, some (.aload_n 0, 1, xN), some (.bipush 10, 2, xI (10)), none, some (.newarray .int, 2, xN), none,
  some (.putfield 53, 3, xF 0 11 2), none, none, some (.aload_n 0, 1, xN), some (.bipush 10, 2, xI (10)), none, some (.newarray .boolean, 2, xN), none,
  some (.putfield 56, 3, xF 0 12 2), none, none, some (.aload_n 0, 1, xN), some (.bipush 40, 2, xI (40)), none, some (.newarray .long, 2, xN), none,
  some (.putfield 60, 3, xF 0 14 2), none, none, some (.aload_n 0, 1, xN), some (.bipush 40, 2, xI (40)), none, some (.newarray .long, 2, xN), none,
  some (.putfield 63, 3, xF 0 15 2), none, none, some (.aload_n 0, 1, xN), some (.sipush 480, 3, xI (480)), none, none, some (.newarray .long, 2, xN),
  none, some (.putfield 66, 3, xF 0 16 2), none, none, some (.aload_n 0, 1, xN), some (.sipush 480, 3, xI (480)), none, none,
  some (.newarray .long, 2, xN), none, some (.putfield 69, 3, xF 0 17 2), none, none, some (.aload_n 0, 1, xN), some (.bipush 40, 2, xI (40)), none,
  some (.newarray .boolean, 2, xN), none, some (.putfield 72, 3, xF 0 18 2), none, none, some (.aload_n 0, 1, xN), some (.bipush 40, 2, xI (40)), none,
  some (.newarray .int, 2, xN), none, some (.putfield 75, 3, xF 0 19 2), none, none, some (.aload_n 0, 1, xN), some (.sipush 480, 3, xI (480)), none,
  none, some (.newarray .int, 2, xN), none, some (.putfield 78, 3, xF 0 20 2), none, none, some (.aload_n 0, 1, xN), some (.iconst 4, 1, xI (4)),
  some (.newarray .int, 2, xN), none, some (.putfield 81, 3, xF 0 24 2), none, none, some (.aload_n 0, 1, xN), some (.iconst 4, 1, xI (4)), some (.newarray .int, 2, xN),
  none, some (.putfield 84, 3, xF 0 25 2), none, none, some (.aload_n 0, 1, xN), some (.bipush 16, 2, xI (16)), none, some (.newarray .int, 2, xN),
  none, some (.putfield 87, 3, xF 0 26 2), none, none, some (.aload_n 0, 1, xN), some (.sipush 200, 3, xI (200)), none, none,
  some (.newarray .int, 2, xN), none, some (.putfield 90, 3, xF 0 27 2), none, none, some (.aload_n 0, 1, xN), some (.sipush 200, 3, xI (200)), none,
  none, some (.newarray .int, 2, xN), none, some (.putfield 93, 3, xF 0 28 2), none, none, some (.aload_n 0, 1, xN), some (.sipush 200, 3, xI (200)),
  none, none, some (.newarray .int, 2, xN), none, some (.putfield 96, 3, xF 0 29 2), none, none, some (.aload_n 0, 1, xN),
  some (.sipush 200, 3, xI (200)), none, none, some (.newarray .int, 2, xN), none, some (.putfield 99, 3, xF 0 30 2), none, none,
  some (.aload_n 0, 1, xN), some (.sipush 2200, 3, xI (2200)), none, none, some (.newarray .int, 2, xN), none, some (.putfield 102, 3, xF 0 31 2), none,
  none, some (.aload_n 0, 1, xN), some (.sipush 2200, 3, xI (2200)), none, none, some (.newarray .long, 2, xN), none, some (.putfield 105, 3, xF 0 32 2),
  none, none, some (.aload_n 0, 1, xN), some (.sipush 201, 3, xI (201)), none, none, some (.newarray .int, 2, xN), none,
  some (.putfield 108, 3, xF 0 34 2), none, none, some (.aload_n 0, 1, xN), some (.sipush 300, 3, xI (300)), none, none, some (.newarray .long, 2, xN),
  none, some (.putfield 111, 3, xF 0 35 2), none, none, some (.aload_n 0, 1, xN), some (.sipush 300, 3, xI (300)), none, none,
  some (.newarray .long, 2, xN), none, some (.putfield 114, 3, xF 0 36 2), none, none, some (.aload_n 0, 1, xN), some (.iconst 4, 1, xI (4)), some (.newarray .int, 2, xN),
  none, some (.putfield 117, 3, xF 0 39 2), none, none, some (.aload_n 0, 1, xN), some (.bipush 120, 2, xI (120)), none, some (.newarray .int, 2, xN),
  none, some (.putfield 120, 3, xF 0 40 2), none, none, some (.aload_n 0, 1, xN), some (.sipush 400, 3, xI (400)), none, none,
  some (.newarray .int, 2, xN), none, some (.putfield 123, 3, xF 0 41 2), none, none, some (.aload_n 0, 1, xN), some (.iconst 5, 1, xI (5)), some (.newarray .int, 2, xN),
  none, some (.putfield 126, 3, xF 0 42 2), none, none, some (.aload_n 0, 1, xN), some (.bipush 6, 2, xI (6)), none, some (.newarray .int, 2, xN),
  none, some (.putfield 129, 3, xF 0 43 2), none, none, some (.aload_n 0, 1, xN), some (.sipush 400, 3, xI (400)), none, none,
  some (.newarray .long, 2, xN), none, some (.putfield 132, 3, xF 0 44 2), none, none, some (.aload_n 0, 1, xN), some (.sipush 400, 3, xI (400)), none,
  none, some (.newarray .long, 2, xN), none, some (.putfield 135, 3, xF 0 45 2), none, none, some (.aload_n 0, 1, xN), some (.sipush 400, 3, xI (400)),
  none, none, some (.newarray .boolean, 2, xN), none, some (.putfield 138, 3, xF 0 46 2), none, none, some (.aload_n 0, 1, xN),
  some (.sipush 200, 3, xI (200)), none, none, some (.newarray .int, 2, xN), none, some (.putfield 141, 3, xF 0 58 2), none, none,
  some (.return_, 1, xN)]
def M_Mo_init : am_Me := (⟨R_Mo, "<init>", "()V"⟩, prog_14_method_1_code, 1, none, Y_Mo, cd_Mo_init, 1, 12, 33, 12620)
set_option maxRecDepth 100000 in
theorem ok_Mo_init : am_ok S_m M_Mo_init := am_ok_ofY (Y := Y_Mo) (cd := cd_Mo_init) (by decide +kernel) rfl rfl rfl oY_Mo (by decide +kernel)
