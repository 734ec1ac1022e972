-- X11_feed
def sm_m000 : zSm := (104, (1, 64), [.inr (.inl (some 56)), .inl ((-2147483648), 2147483647), .inl ((-2147483648), 2147483647), .inl ((-2147483648), 2147483647), .inl ((-2147483648), 2147483647), .inl ((-2147483648), 2147483647)], some (.inl ((-1), 1600)), [3586, 3648], [], (([], []), [([], [], [])]))
def ct_m000 : zCt := []
def tb_m000 : zTb := ([], zdec, zprs)
def cm_m000 : List (Nat × List Nat) := []
theorem rn_m000 : zgood tb_m000 cm_m000 0 sm_m000 ct_m000 20000 = true := by decide +kernel
theorem so_m000 {D : va_G} {l : Launch} : zSO zD0 D l pT sm_m000 := zfl1 rn_m000 zHn hp_T
-- X11_end
def sm_m001 : zSm := (100, (1, 64), [.inr (.inl (some 56)), .inl ((-2147483648), 2147483647)], some (.inl ((-1), 1600)), [3586], [], (([], []), [([], [], [])]))
def ct_m001 : zCt := []
def tb_m001 : zTb := ([], zdec, zprs)
def cm_m001 : List (Nat × List Nat) := []
theorem rn_m001 : zgood tb_m001 cm_m001 0 sm_m001 ct_m001 20000 = true := by decide +kernel
theorem so_m001 {D : va_G} {l : Launch} : zSO zD0 D l pT sm_m001 := zfl1 rn_m001 zHn hp_T
-- X11_fault
def sm_m002 : zSm := (103, (1, 64), [.inr (.inl (some 56)), .inl ((-2147483648), 2147483647)], some (.inl ((-2147483648), 2147483647)), [], [], (([], []), [([], [], [])]))
def ct_m002 : zCt := []
def tb_m002 : zTb := ([], zdec, zprs)
def cm_m002 : List (Nat × List Nat) := []
theorem rn_m002 : zgood tb_m002 cm_m002 0 sm_m002 ct_m002 20000 = true := by decide +kernel
theorem so_m002 {D : va_G} {l : Launch} : zSO zD0 D l pT sm_m002 := zfl1 rn_m002 zHn hp_T
-- X11_boyOf
def sm_m003 : zSm := (85, (2, 84), [.inr (.inl (some 56)), .inl (0, 5)], some (.inl ((-1), 3)), [], [], (([], []), [([], [], [])]))
def ct_m003 : zCt := [(2, [(0, .inr (.inl (some 56))), (1, .inl (0, 5)), (2, .inl (0, 4))], [], [.inl 1, .inr (true, 2), .inl 0], ([], [], [], []))]
def tb_m003 : zTb := ([], zdec, zprs)
def cm_m003 : List (Nat × List Nat) := []
theorem rn_m003 : zgood tb_m003 cm_m003 0 sm_m003 ct_m003 20000 = true := by decide +kernel
theorem so_m003 {D : va_G} {l : Launch} : zSO zD0 D l pT sm_m003 := zfl1 rn_m003 zHn hp_T
-- X11_boy
def sm_m009 : zSm := (84, (3, 107), [.inr (.inl (some 56)), .inl ((-2147483648), 2147483647), .inl ((-2147483648), 2147483647)], some (.inl ((-2147483648), 2147483647)), [], [], (([], []), [([], [], [])]))
def ct_m009 : zCt := []
def tb_m009 : zTb := ([], zdec, zprs)
def cm_m009 : List (Nat × List Nat) := []
theorem rn_m009 : zgood tb_m009 cm_m009 0 sm_m009 ct_m009 20000 = true := by decide +kernel
theorem so_m009 {D : va_G} {l : Launch} : zSO zD0 D l pT sm_m009 := zfl1 rn_m009 zHn hp_T
-- X11_keepAct
def sm_m016 : zSm := (142, (1, 64), [.inr (.inl (some 56))], none, [3630, 3631, 5376], [], (([], []), [([], [], [])]))
def ct_m016 : zCt := []
def tb_m016 : zTb := ([], zdec, zprs)
def cm_m016 : List (Nat × List Nat) := [(99999, [])]
theorem rn_m016 : zgood tb_m016 cm_m016 0 sm_m016 ct_m016 20000 = true := by decide +kernel
theorem so_m016 {D : va_G} {l : Launch} : zSO zD0 D l pT sm_m016 := zfl1 rn_m016 zHn hp_T
