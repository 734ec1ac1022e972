-- X11_readLine
def sm_m009 : zSm := (170, (11, 420), [.inr (.inl (some 56))], none, [3588, 3589, 3590, 3591, 3592, 3593, 3594, 3620, 3621, 3622, 3623, 3776, 3840, 3904, 3968, 4032, 4096, 4160, 4224, 4288, 4352, 4416, 4480, 4544, 4608, 4672, 4736, 4800, 4864, 4928, 4992, 5056, 5120], [], (([(40, 56, .inl 6), (41, 56, .inl 7), (44, 56, .inl 8)], []), [([(63, 56, 4)], [(63, 1, 4)], []), ([(62, 56, 8), (63, 56, 4)], [(62, 0, 0), (63, 0, 0)], []), ([(60, 56, 6), (61, 56, 7), (62, 56, 8), (63, 56, 4)], [(44, 1, 5), (62, 1, 5), (63, 0, 0)], [(false, 41, 60, 0), (false, 60, 61, (-1))])]))
def ct_m009 : zCt := []
def tb_m009 : zTb := ([sm_goOn, sm_m005, sm_m007, sm_rule], zdec, zprs)
def cm_m009 : List (Nat × List Nat) := [(111, [0]), (169, [1]), (171, [2]), (172, [3])]
theorem rn_m009 : zgood tb_m009 cm_m009 4 sm_m009 ct_m009 20000 = true := by decide +kernel
theorem so_m009 {D : va_G} {l : Launch} : zSO zD0 D l pN sm_m009 := zfl1 rn_m009 (zHc (zSw so_goOn) (zHc so_m005 (zHc so_m007 (zHc so_rule zHn)))) (hp_pM (by decide))
-- X11_layTold
def sm_m010 : zSm := (148, (2, 84), [.inr (.inl (some 56))], none, [5248], [], (([], []), [([], [], [])]))
def ct_m010 : zCt := [(2, [(0, .inr (.inl (some 56))), (1, .inl (0, 25))], [], [.inl 3, .inr (true, 1), .inl 0], ([], [], [], [])),
  (23, [(0, .inr (.inl (some 56))), (1, .inl (0, 6))], [], [.inl 2, .inr (true, 1), .inl 0], ([], [], [], [])),
  (107, [(0, .inr (.inl (some 56))), (1, .inl (0, 4))], [], [.inl 1, .inr (true, 1), .inl 0], ([], [], [], []))]
def tb_m010 : zTb := ([], zdec, zprs)
def cm_m010 : List (Nat × List Nat) := []
theorem rn_m010 : zgood tb_m010 cm_m010 0 sm_m010 ct_m010 20000 = true := by decide +kernel
theorem so_m010 {D : va_G} {l : Launch} : zSO zD0 D l pN sm_m010 := zfl1 rn_m010 zHn (hp_pM (by decide))
-- X11_startAnew
def sm_m011 : zSm := (185, (3, 105), [.inr (.inl (some 56))], none, [3630, 3631, 3633, 3641, 5248, 6016], [], (([], []), [([], [], [])]))
def ct_m011 : zCt := [(26, [(0, .inr (.inl (some 56))), (1, .inl (0, 3))], [], [.inl 1, .inr (true, 1), .inl 0], ([], [], [], []))]
def tb_m011 : zTb := ([sm_m010], zdec, zprs)
def cm_m011 : List (Nat × List Nat) := [(148, [0])]
theorem rn_m011 : zgood tb_m011 cm_m011 1 sm_m011 ct_m011 20000 = true := by decide +kernel
theorem so_m011 {D : va_G} {l : Launch} : zSO zD0 D l pN sm_m011 := zfl1 rn_m011 (zHc so_m010 zHn) (hp_pM (by decide))
-- X11_fault
def sm_m013 : zSm := (103, (1, 64), [.inr (.inl (some 56)), .inl ((-2147483648), 2147483647)], some (.inl ((-2147483648), 2147483647)), [], [], (([], []), [([], [], [])]))
def ct_m013 : zCt := []
def tb_m013 : zTb := ([], zdec, zprs)
def cm_m013 : List (Nat × List Nat) := []
theorem rn_m013 : zgood tb_m013 cm_m013 0 sm_m013 ct_m013 20000 = true := by decide +kernel
theorem so_m013 {D : va_G} {l : Launch} : zSO zD0 D l pN sm_m013 := zfl1 rn_m013 zHn (hp_pM (by decide))
-- X11_boyOf
def sm_m014 : zSm := (85, (2, 84), [.inr (.inl (some 56)), .inl (0, 5)], some (.inl ((-1), 3)), [], [], (([], []), [([], [], [])]))
def ct_m014 : zCt := [(2, [(0, .inr (.inl (some 56))), (1, .inl (0, 5)), (2, .inl (0, 4))], [], [.inl 1, .inr (true, 2), .inl 0], ([], [], [], []))]
def tb_m014 : zTb := ([], zdec, zprs)
def cm_m014 : List (Nat × List Nat) := []
theorem rn_m014 : zgood tb_m014 cm_m014 0 sm_m014 ct_m014 20000 = true := by decide +kernel
theorem so_m014 {D : va_G} {l : Launch} : zSO zD0 D l pN sm_m014 := zfl1 rn_m014 zHn (hp_pM (by decide))
-- X11_helpBy
def sm_m016 : zSm := (116, (4, 130), [.inr (.inl (some 56)), .inl (0, 5), .inl ((-2147483648), 2147483647), .inl ((-2147483648), 2147483647)], some (.inl (0, 99)), [3624, 3625, 3626, 5184], [], (([], []), [([], [], [])]))
def ct_m016 : zCt := []
def tb_m016 : zTb := ([sm_comes], zdec, zprs)
def cm_m016 : List (Nat × List Nat) := [(91, [0])]
theorem rn_m016 : zgood tb_m016 cm_m016 1 sm_m016 ct_m016 20000 = true := by decide +kernel
theorem so_m016 {D : va_G} {l : Launch} : zSO zD0 D l pN sm_m016 := zfl1 rn_m016 (zHc so_comes zHn) (hp_pM (by decide))
-- X11_helpOf
def sm_m017 : zSm := (117, (5, 153), [.inr (.inl (some 56)), .inl ((-1), 3), .inl (0, 5)], some (.inl (0, 99)), [3624, 3625, 3626, 5184], [], (([], []), [([], [], [])]))
def ct_m017 : zCt := []
def tb_m017 : zTb := ([sm_m016], zdec, zprs)
def cm_m017 : List (Nat × List Nat) := [(116, [0])]
theorem rn_m017 : zgood tb_m017 cm_m017 1 sm_m017 ct_m017 20000 = true := by decide +kernel
theorem so_m017 {D : va_G} {l : Launch} : zSO zD0 D l pN sm_m017 := zfl1 rn_m017 (zHc so_m016 zHn) (hp_pM (by decide))
-- X11_easeBy
def sm_m018 : zSm := (98, (6, 175), [.inr (.inl (some 56)), .inl (0, 5), .inl ((-1), 3)], some (.inl (0, 102)), [3624, 3625, 3626, 5184], [], (([], []), [([], [], [])]))
def ct_m018 : zCt := []
def tb_m018 : zTb := ([sm_m017], zdec, zprs)
def cm_m018 : List (Nat × List Nat) := [(117, [0])]
theorem rn_m018 : zgood tb_m018 cm_m018 1 sm_m018 ct_m018 20000 = true := by decide +kernel
theorem so_m018 {D : va_G} {l : Launch} : zSO zD0 D l pN sm_m018 := zfl1 rn_m018 (zHc so_m017 zHn) (hp_pM (by decide))
-- X11_man
def sm_m019 : zSm := (153, (7, 197), [.inr (.inl (some 56)), .inl ((-2147483648), 2147483647), .inl ((-2147483648), 2147483647)], some (.inl ((-2147483648), 2147483647)), [3624, 3625, 3626, 5184], [], (([], []), [([], [], [])]))
def ct_m019 : zCt := []
def tb_m019 : zTb := ([sm_m014, sm_m018], zdec, zprs)
def cm_m019 : List (Nat × List Nat) := [(85, [0]), (98, [1])]
theorem rn_m019 : zgood tb_m019 cm_m019 2 sm_m019 ct_m019 20000 = true := by decide +kernel
theorem so_m019 {D : va_G} {l : Launch} : zSO zD0 D l pN sm_m019 := zfl1 rn_m019 (zHc so_m014 (zHc so_m018 zHn)) (hp_pM (by decide))
-- X11_boy
def sm_m020 : zSm := (84, (3, 107), [.inr (.inl (some 56)), .inl ((-2147483648), 2147483647), .inl ((-2147483648), 2147483647)], some (.inl ((-2147483648), 2147483647)), [], [], (([], []), [([], [], [])]))
def ct_m020 : zCt := []
def tb_m020 : zTb := ([], zdec, zprs)
def cm_m020 : List (Nat × List Nat) := []
theorem rn_m020 : zgood tb_m020 cm_m020 0 sm_m020 ct_m020 20000 = true := by decide +kernel
theorem so_m020 {D : va_G} {l : Launch} : zSO zD0 D l pN sm_m020 := zfl1 rn_m020 zHn (hp_pM (by decide))
-- X11_help
def sm_m021 : zSm := (115, (6, 175), [.inr (.inl (some 56)), .inl ((-2147483648), 2147483647), .inl ((-2147483648), 2147483647)], some (.inl ((-1), 99)), [3624, 3625, 3626, 5184], [], (([], []), [([], [], [])]))
def ct_m021 : zCt := []
def tb_m021 : zTb := ([sm_m017], zdec, zprs)
def cm_m021 : List (Nat × List Nat) := [(117, [0])]
theorem rn_m021 : zgood tb_m021 cm_m021 1 sm_m021 ct_m021 20000 = true := by decide +kernel
theorem so_m021 {D : va_G} {l : Launch} : zSO zD0 D l pN sm_m021 := zfl1 rn_m021 (zHc so_m017 zHn) (hp_pM (by decide))
-- X11_doesSleep
def sm_m022 : zSm := (96, (7, 197), [.inr (.inl (some 56)), .inl (0, 5)], some (.inl (0, 1)), [3624, 3625, 3626, 5184], [], (([], []), [([], [], [])]))
def ct_m022 : zCt := []
def tb_m022 : zTb := ([sm_m014, sm_m018], zdec, zprs)
def cm_m022 : List (Nat × List Nat) := [(85, [0]), (98, [1])]
theorem rn_m022 : zgood tb_m022 cm_m022 2 sm_m022 ct_m022 20000 = true := by decide +kernel
theorem so_m022 {D : va_G} {l : Launch} : zSO zD0 D l pN sm_m022 := zfl1 rn_m022 (zHc so_m014 (zHc so_m018 zHn)) (hp_pM (by decide))
-- X11_asleepNow
def sm_m023 : zSm := (77, (8, 218), [.inr (.inl (some 56))], some (.inl (0, 63)), [3624, 3625, 3626, 5184], [], (([], []), [([], [], [])]))
def ct_m023 : zCt := [(4, [(0, .inr (.inl (some 56))), (1, .inl (0, 63)), (2, .inl (0, 6))], [], [.inl 1, .inr (true, 2), .inl 0], ([], [], [], []))]
def tb_m023 : zTb := ([sm_m022], zdec, zprs)
def cm_m023 : List (Nat × List Nat) := [(96, [0])]
theorem rn_m023 : zgood tb_m023 cm_m023 1 sm_m023 ct_m023 20000 = true := by decide +kernel
theorem so_m023 {D : va_G} {l : Launch} : zSO zD0 D l pN sm_m023 := zfl1 rn_m023 (zHc so_m022 zHn) (hp_pM (by decide))
-- X11_sleepers
def sm_m024 : zSm := (181, (9, 240), [.inr (.inl (some 56))], some (.inl (0, 63)), [3624, 3625, 3626, 5184], [], (([], []), [([], [], [])]))
def ct_m024 : zCt := []
def tb_m024 : zTb := ([sm_m023], zdec, zprs)
def cm_m024 : List (Nat × List Nat) := [(77, [0])]
theorem rn_m024 : zgood tb_m024 cm_m024 1 sm_m024 ct_m024 20000 = true := by decide +kernel
theorem so_m024 {D : va_G} {l : Launch} : zSO zD0 D l pN sm_m024 := zfl1 rn_m024 (zHc so_m023 zHn) (hp_pM (by decide))
-- X11_goOne
def sm_m025 : zSm := (112, (8, 218), [.inr (.inl (some 56)), .inl (0, 5)], some (.inl (0, 1)), [3624, 3625, 3626, 5184, 5248], [], (([], []), [([], [], [])]))
def ct_m025 : zCt := []
def tb_m025 : zTb := ([sm_m022], zdec, zprs)
def cm_m025 : List (Nat × List Nat) := [(96, [0])]
theorem rn_m025 : zgood tb_m025 cm_m025 1 sm_m025 ct_m025 20000 = true := by decide +kernel
theorem so_m025 {D : va_G} {l : Launch} : zSO zD0 D l pN sm_m025 := zfl1 rn_m025 (zHc so_m022 zHn) (hp_pM (by decide))
-- X11_goNight
def sm_m026 : zSm := (110, (9, 241), [.inr (.inl (some 56)), .inl (0, 1)], some (.inl (0, 63)), [3624, 3625, 3626, 5184, 5248], [], (([], []), [([], [], [])]))
def ct_m026 : zCt := [(4, [(0, .inr (.inl (some 56))), (1, .inl (0, 1)), (2, .inl (0, 63)), (3, .inl (0, 6))], [], [.inl 1, .inr (true, 3), .inl 0], ([], [], [], []))]
def tb_m026 : zTb := ([sm_m025], zdec, zprs)
def cm_m026 : List (Nat × List Nat) := [(112, [0])]
theorem rn_m026 : zgood tb_m026 cm_m026 1 sm_m026 ct_m026 20000 = true := by decide +kernel
theorem so_m026 {D : va_G} {l : Launch} : zSO zD0 D l pN sm_m026 := zfl1 rn_m026 (zHc so_m025 zHn) (hp_pM (by decide))
-- X11_keepAct
def sm_m027 : zSm := (142, (1, 64), [.inr (.inl (some 56))], none, [3630, 3631, 5376], [], (([], []), [([], [], [])]))
def ct_m027 : zCt := []
def tb_m027 : zTb := ([], zdec, zprs)
def cm_m027 : List (Nat × List Nat) := [(99999, [])]
theorem rn_m027 : zgood tb_m027 cm_m027 0 sm_m027 ct_m027 20000 = true := by decide +kernel
theorem so_m027 {D : va_G} {l : Launch} : zSO zD0 D l pN sm_m027 := zfl1 rn_m027 zHn (hp_pM (by decide))
