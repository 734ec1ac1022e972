-- X11_feed
def sm_m000 : zSm := (104, (1, 64), [.inr (.inl (some 56)), .inl ((-2147483648), 2147483647), .inl ((-2147483648), 2147483647), .inl ((-2147483648), 2147483647), .inl ((-2147483648), 2147483647), .inl ((-2147483648), 2147483647)], some (.inl ((-1), 1600)), [3586, 3648], [], (([], []), [([], [], [])]))
def ct_m000 : zCt := []
def tb_m000 : zTb := ([], zdec, zprs)
def cm_m000 : List (Nat × List Nat) := []
theorem rn_m000 : zgood tb_m000 cm_m000 0 sm_m000 ct_m000 20000 = true := by decide +kernel
theorem so_m000 {D : va_G} {l : Launch} : zSO zD0 D l pN sm_m000 := zfl1 rn_m000 zHn (hp_pM (by decide))
-- X11_end
def sm_m001 : zSm := (100, (1, 64), [.inr (.inl (some 56)), .inl ((-2147483648), 2147483647)], some (.inl ((-1), 1600)), [3586], [], (([], []), [([], [], [])]))
def ct_m001 : zCt := []
def tb_m001 : zTb := ([], zdec, zprs)
def cm_m001 : List (Nat × List Nat) := []
theorem rn_m001 : zgood tb_m001 cm_m001 0 sm_m001 ct_m001 20000 = true := by decide +kernel
theorem so_m001 {D : va_G} {l : Launch} : zSO zD0 D l pN sm_m001 := zfl1 rn_m001 zHn (hp_pM (by decide))
-- X11_here
def sm_m004 : zSm := (118, (1, 64), [.inr (.inl (some 56)), .inr (.inl (some 76)), .inl (0, 4), .inl (0, 3)], some (.inl ((-1), 2)), [], [], (([], []), [([], [], [])]))
def ct_m004 : zCt := [(3, [(0, .inr (.inl (some 56))), (1, .inr (.inl (some 76))), (2, .inl (0, 4)), (3, .inl (0, 3)), (4, .inl (0, 3))], [], [.inl 1, .inr (true, 4), .inl 0], ([], [], [], []))]
def tb_m004 : zTb := ([], zdec, zprs)
def cm_m004 : List (Nat × List Nat) := []
theorem rn_m004 : zgood tb_m004 cm_m004 0 sm_m004 ct_m004 20000 = true := by decide +kernel
theorem so_m004 {D : va_G} {l : Launch} : zSO zD0 D l pN sm_m004 := zfl1 rn_m004 zHn (hp_pM (by decide))
-- X11_readBoy
def sm_m005 : zSm := (169, (5, 153), [.inr (.inl (some 56))], none, [3588, 3589, 3590, 3591, 3592, 3593, 3594, 3840, 4544, 4608, 4864], [], (([(40, 56, .inl 6), (41, 56, .inl 7), (44, 56, .inl 8), (42, 56, .inl 35), (43, 60, .inr 42)], [(43, 0, 3)]), [([(63, 56, 4)], [(63, 1, 4)], []), ([(62, 56, 8), (63, 56, 4)], [(62, 0, 0), (63, 0, 0)], []), ([(60, 56, 6), (61, 56, 7), (62, 56, 8), (63, 56, 4)], [(44, 1, 5), (62, 1, 5), (63, 0, 0)], [(false, 41, 60, 0), (false, 60, 61, (-1))])]))
def ct_m005 : zCt := []
def tb_m005 : zTb := ([sm_goOn, sm_m004], zdec, zprs)
def cm_m005 : List (Nat × List Nat) := [(111, [0]), (118, [1])]
theorem rn_m005 : zgood tb_m005 cm_m005 2 sm_m005 ct_m005 20000 = true := by decide +kernel
theorem so_m005 {D : va_G} {l : Launch} : zSO zD0 D l pN sm_m005 := zfl1 rn_m005 (zHc (zSw so_goOn) (zHc so_m004 zHn)) (hp_pM (by decide))
-- X11_here
def sm_m006 : zSm := (118, (1, 64), [.inr (.inl (some 56)), .inr (.inl (some 75)), .inl (0, 6), .inl (0, 5)], some (.inl ((-1), 4)), [], [], (([], []), [([], [], [])]))
def ct_m006 : zCt := [(3, [(0, .inr (.inl (some 56))), (1, .inr (.inl (some 75))), (2, .inl (0, 6)), (3, .inl (0, 5)), (4, .inl (0, 5))], [], [.inl 1, .inr (true, 4), .inl 0], ([], [], [], []))]
def tb_m006 : zTb := ([], zdec, zprs)
def cm_m006 : List (Nat × List Nat) := []
theorem rn_m006 : zgood tb_m006 cm_m006 0 sm_m006 ct_m006 20000 = true := by decide +kernel
theorem so_m006 {D : va_G} {l : Launch} : zSO zD0 D l pN sm_m006 := zfl1 rn_m006 zHn (hp_pM (by decide))
-- X11_readMan
def sm_m007 : zSm := (171, (5, 153), [.inr (.inl (some 56))], none, [3588, 3589, 3590, 3591, 3592, 3593, 3594, 3776, 4224, 4288, 4352, 4416, 4480, 4800], [], (([(40, 56, .inl 6), (41, 56, .inl 7), (44, 56, .inl 8), (42, 56, .inl 35), (43, 59, .inr 42)], [(43, 0, 5)]), [([(63, 56, 4)], [(63, 1, 4)], []), ([(62, 56, 8), (63, 56, 4)], [(62, 0, 0), (63, 0, 0)], []), ([(60, 56, 6), (61, 56, 7), (62, 56, 8), (63, 56, 4)], [(44, 1, 5), (62, 1, 5), (63, 0, 0)], [(false, 41, 60, 0), (false, 60, 61, (-1))])]))
def ct_m007 : zCt := []
def tb_m007 : zTb := ([sm_goOn, sm_m006], zdec, zprs)
def cm_m007 : List (Nat × List Nat) := [(111, [0]), (118, [1])]
theorem rn_m007 : zgood tb_m007 cm_m007 2 sm_m007 ct_m007 20000 = true := by decide +kernel
theorem so_m007 {D : va_G} {l : Launch} : zSO zD0 D l pN sm_m007 := zfl1 rn_m007 (zHc (zSw so_goOn) (zHc so_m006 zHn)) (hp_pM (by decide))
