/-! the fresh objects as states of the abstract machine (mod_l.py) -/
def sp_L : List Int64 := [(7016440498326168622 : Int64), (508508136034 : Int64), 0, (7592901250629592110 : Int64), (7300718 : Int64), 0, (8313477191008871470 : Int64), (29300 : Int64), 0, (7809074032743375918 : Int64), (32216186215558761 : Int64), 0, (8313477191008871470 : Int64), (7310299210293670516 : Int64), (29556 : Int64), (7016440498326168622 : Int64), (7496804 : Int64), 0, (8241419596970943534 : Int64), (32497661360498542 : Int64), 0, (7809074032743375918 : Int64), (6647401 : Int64), 0, (27691700398420782 : Int64), 0, 0, (27691700481979182 : Int64), 0, 0]
def z_c : am_S := ((fun _ _ => 0, fun _ _ => 0), (fun _ _ => 0, fun _ _ => 0))
def z_m : am_S := ((fun _ _ => 0, fun _ _ => 0), (fun _ _ => 0, fun k => match k with | 1 => fun j => sp_L.getD j 0 | _ => fun _ => 0))
def rl_c (q0 : Nat) (u sa : Nat → Nat) : List Nat := [q0, u 0, u 1, u 2, u 3, u 4, u 5, u 6, u 7, u 8, u 9, u 10, u 11, u 12, u 13, u 14, u 15, u 16, u 17, u 18, u 19, u 20, u 21, u 22, u 23, u 24, u 25, u 26, u 27, u 28, u 29, u 30, u 31, u 32, u 33, u 34, u 35, u 36, u 37, u 38, u 39, u 40, u 41, u 42, u 43, u 44, u 45, u 46, u 47, u 48, u 49, u 50, u 51, u 52, u 53, u 54, u 55, u 56, u 57, u 58, u 59, u 60, u 61, u 62, u 63, sa 0, sa 1, sa 2, sa 3, sa 4, sa 5, sa 6, sa 7, sa 8, sa 9, sa 10, sa 11, sa 12, sa 13, sa 14, sa 15, sa 16, sa 17, sa 18, sa 19, sa 20, sa 21, sa 22]
def rl_m (q1 : Nat) (u : Nat → Nat) : List Nat := [q1, u 0, u 1, u 2, u 3, u 4, u 5, u 6, u 7, u 8, u 9, u 10, u 11, u 12, u 13, u 14, u 15, u 16, u 17, u 18, u 19, u 20, u 21, u 22, u 23, u 24, u 25, u 26, u 27, u 28, u 29, u 30, u 31, u 32]
set_option maxRecDepth 100000 in
set_option maxHeartbeats 4000000 in
theorem ww_c (q0 : Nat) (u sa : Nat → Nat) (ca : Nat → ClassId) : wo_F_init q0 ca u = am_ws sh_c ca (fun k => (rl_c q0 u sa).getD k 0) 65 z_c := rfl
set_option maxRecDepth 100000 in
set_option maxHeartbeats 4000000 in
theorem ww_m (q1 : Nat) (u : Nat → Nat) (ca : Nat → ClassId) : wo_Mo_init q1 ca u = am_ws sh_m ca (fun k => (rl_m q1 u).getD k 0) 34 z_m := rfl
