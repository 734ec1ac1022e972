-- X11_recall
def sm_m030 : zSm := (173, (3, 107), [.inr (.inl (some 56)), .inl ((-2147483648), 2147483647)], some (.inl ((-1), 5)), [3630, 3631, 5248, 5376], [], (([], []), [([], [], [])]))
def ct_m030 : zCt := []
def tb_m030 : zTb := ([sm_m027], zdec, zprs)
def cm_m030 : List (Nat × List Nat) := [(142, [0])]
theorem rn_m030 : zgood tb_m030 cm_m030 1 sm_m030 ct_m030 20000 = true := by decide +kernel
theorem so_m030 {D : va_G} {l : Launch} : zSO zD0 D l pT sm_m030 := zfl1 rn_m030 (zHc so_m027 zHn) hp_T
-- X11_light
def sm_m031 : zSm := (151, (4, 129), [.inr (.inl (some 56)), .inl ((-2147483648), 2147483647)], some (.inl ((-2147483648), 2147483647)), [3630, 3631, 5248, 5376], [], (([], []), [([], [], [])]))
def ct_m031 : zCt := []
def tb_m031 : zTb := ([sm_m027], zdec, zprs)
def cm_m031 : List (Nat × List Nat) := [(142, [0])]
theorem rn_m031 : zgood tb_m031 cm_m031 1 sm_m031 ct_m031 20000 = true := by decide +kernel
theorem so_m031 {D : va_G} {l : Launch} : zSO zD0 D l pT sm_m031 := zfl1 rn_m031 (zHc so_m027 zHn) hp_T
-- X11_snuff
def sm_m032 : zSm := (183, (4, 129), [.inr (.inl (some 56)), .inl ((-2147483648), 2147483647)], some (.inl ((-2147483648), 2147483647)), [3630, 3631, 5248, 5376], [], (([], []), [([], [], [])]))
def ct_m032 : zCt := []
def tb_m032 : zTb := ([sm_m027], zdec, zprs)
def cm_m032 : List (Nat × List Nat) := [(142, [0])]
theorem rn_m032 : zgood tb_m032 cm_m032 1 sm_m032 ct_m032 20000 = true := by decide +kernel
theorem so_m032 {D : va_G} {l : Launch} : zSO zD0 D l pT sm_m032 := zfl1 rn_m032 (zHc so_m027 zHn) hp_T
-- X11_pour
def sm_m033 : zSm := (165, (3, 107), [.inr (.inl (some 56)), .inl ((-2147483648), 2147483647), .inl ((-2147483648), 2147483647)], some (.inl ((-2147483648), 2147483647)), [3630, 3631, 5248, 5376], [], (([], []), [([], [], [])]))
def ct_m033 : zCt := []
def tb_m033 : zTb := ([sm_m027], zdec, zprs)
def cm_m033 : List (Nat × List Nat) := [(142, [0])]
theorem rn_m033 : zgood tb_m033 cm_m033 1 sm_m033 ct_m033 20000 = true := by decide +kernel
theorem so_m033 {D : va_G} {l : Launch} : zSO zD0 D l pT sm_m033 := zfl1 rn_m033 (zHc so_m027 zHn) hp_T
-- X11_swapAll
def sm_m034 : zSm := (187, (1, 64), [.inr (.inl (some 56))], none, [5248, 5376], [], (([], []), [([], [], [])]))
def ct_m034 : zCt := []
def tb_m034 : zTb := ([], zdec, zprs)
def cm_m034 : List (Nat × List Nat) := []
theorem rn_m034 : zgood tb_m034 cm_m034 0 sm_m034 ct_m034 20000 = true := by decide +kernel
theorem so_m034 {D : va_G} {l : Launch} : zSO zD0 D l pT sm_m034 := zfl1 rn_m034 zHn hp_T
-- X11_undo
def sm_m035 : zSm := (193, (2, 86), [.inr (.inl (some 56))], some (.inl (0, 1)), [3630, 3631, 5248, 5376], [], (([], []), [([], [], [])]))
def ct_m035 : zCt := []
def tb_m035 : zTb := ([sm_m034], zdec, zprs)
def cm_m035 : List (Nat × List Nat) := [(187, [0])]
theorem rn_m035 : zgood tb_m035 cm_m035 1 sm_m035 ct_m035 20000 = true := by decide +kernel
theorem so_m035 {D : va_G} {l : Launch} : zSO zD0 D l pT sm_m035 := zfl1 rn_m035 (zHc so_m034 zHn) hp_T
-- X11_redo
def sm_m036 : zSm := (174, (2, 86), [.inr (.inl (some 56))], some (.inl (0, 1)), [3630, 3631, 5248, 5376], [], (([], []), [([], [], [])]))
def ct_m036 : zCt := []
def tb_m036 : zTb := ([sm_m034], zdec, zprs)
def cm_m036 : List (Nat × List Nat) := [(187, [0])]
theorem rn_m036 : zgood tb_m036 cm_m036 1 sm_m036 ct_m036 20000 = true := by decide +kernel
theorem so_m036 {D : va_G} {l : Launch} : zSO zD0 D l pT sm_m036 := zfl1 rn_m036 (zHc so_m034 zHn) hp_T
-- X11_bringBack
def sm_m037 : zSm := (86, (1, 64), [.inr (.inl (some 56))], none, [5248], [], (([], []), [([], [], [])]))
def ct_m037 : zCt := []
def tb_m037 : zTb := ([], zdec, zprs)
def cm_m037 : List (Nat × List Nat) := []
theorem rn_m037 : zgood tb_m037 cm_m037 0 sm_m037 ct_m037 20000 = true := by decide +kernel
theorem so_m037 {D : va_G} {l : Launch} : zSO zD0 D l pT sm_m037 := zfl1 rn_m037 zHn hp_T
-- X11_keepNow
def sm_m038 : zSm := (143, (1, 64), [.inr (.inl (some 56))], none, [5312], [], (([], []), [([], [], [])]))
def ct_m038 : zCt := []
def tb_m038 : zTb := ([], zdec, zprs)
def cm_m038 : List (Nat × List Nat) := []
theorem rn_m038 : zgood tb_m038 cm_m038 0 sm_m038 ct_m038 20000 = true := by decide +kernel
theorem so_m038 {D : va_G} {l : Launch} : zSO zD0 D l pT sm_m038 := zfl1 rn_m038 zHn hp_T
-- X11_isSending
def sm_m042 : zSm := (137, (3, 109), [.inr (.inl (some 56)), .inl (0, 15625)], some (.inl (0, 1)), [], [], (([], []), [([], [], [])]))
def ct_m042 : zCt := [(4, [(0, .inr (.inl (some 56))), (1, .inl (0, 15625)), (2, .inl (0, 63)), (3, .inl (0, 6))], [], [.inl 1, .inr (true, 3), .inl 0], ([], [], [], []))]
def tb_m042 : zTb := ([], zdec, zprs)
def cm_m042 : List (Nat × List Nat) := []
theorem rn_m042 : zgood tb_m042 cm_m042 0 sm_m042 ct_m042 20000 = true := by decide +kernel
theorem so_m042 {D : va_G} {l : Launch} : zSO zD0 D l pT sm_m042 := zfl1 rn_m042 zHn hp_T
-- X11_wayOf
def sm_m045 : zSm := (196, (3, 109), [.inr (.inl (some 56)), .inl (0, 46656), .inl ((-2147483648), 2147483647)], some (.inl ((-2147483648), 2147483647)), [], [], (([], []), [([], [], [])]))
def ct_m045 : zCt := [(11, [(0, .inr (.inl (some 56))), (1, .inl (0, 46656)), (2, .inl ((-2147483648), 2147483647)), (3, .inl (0, 63)), (4, .inl ((-2147483648), 2147483647)), (5, .inl ((-2147483648), 2147483647)), (6, .inl (0, 6))], [], [.inl 1, .inr (true, 6), .inl 0], ([], [], [], []))]
def tb_m045 : zTb := ([], zdec, zprs)
def cm_m045 : List (Nat × List Nat) := []
theorem rn_m045 : zgood tb_m045 cm_m045 0 sm_m045 ct_m045 20000 = true := by decide +kernel
theorem so_m045 {D : va_G} {l : Launch} : zSO zD0 D l pT sm_m045 := zfl1 rn_m045 zHn hp_T
-- X11_round
def sm_m046 : zSm := (176, (4, 136), [.inr (.inl (some 56)), .inl ((-2147483648), 2147483647)], some (.inl ((-1), 100000)), [3633, 5440], [], (([], []), [([], [], [])]))
def ct_m046 : zCt := [(24, [(0, .inr (.inl (some 56))), (1, .inl (0, 3)), (2, .inl (0, 46656)), (3, .inl (0, 100000)), (4, .inl (0, 46656))], [], [.inl 2, .inr (true, 4), .inl 0], ([], [], [], [])),
  (82, [(0, .inr (.inl (some 56))), (1, .inl (0, 3)), (2, .inl (0, 46656)), (3, .inl (0, 100000)), (4, .inl (0, 6))], [], [.inl 1, .inr (true, 4), .inl 0], ([], [], [], []))]
def tb_m046 : zTb := ([sm_m045], zdec, zprs)
def cm_m046 : List (Nat × List Nat) := [(196, [0])]
theorem rn_m046 : zgood tb_m046 cm_m046 1 sm_m046 ct_m046 20000 = true := by decide +kernel
theorem so_m046 {D : va_G} {l : Launch} : zSO zD0 D l pT sm_m046 := zfl1 rn_m046 (zHc so_m045 zHn) hp_T
-- X11_bitsOf
def sm_m047 : zSm := (82, (1, 64), [.inl (0, 255)], some (.inl ((-2147483648), 2147483647)), [], [], (([], []), [([], [], [])]))
def ct_m047 : zCt := [(4, [(0, .inl (0, 255)), (1, .inl ((-2147483648), 2147483647)), (2, .inl (0, 255))], [], [.inl 1, .inr (false, 2), .inl 0], ([], [], [], []))]
def tb_m047 : zTb := ([], zdec, zprs)
def cm_m047 : List (Nat × List Nat) := []
theorem rn_m047 : zgood tb_m047 cm_m047 0 sm_m047 ct_m047 20000 = true := by decide +kernel
theorem so_m047 {D : va_G} {l : Launch} : zSO zD0 D l pT sm_m047 := zfl1 rn_m047 zHn hp_T
-- X11_wayTo
def sm_m048 : zSm := (197, (2, 85), [.inr (.inl (some 56)), .inl ((-2147483648), 2147483647), .inl (1, 63)], some (.inl ((-2147483648), 2147483647)), [], [], (([], []), [([], [], [])]))
def ct_m048 : zCt := [(10, [(0, .inr (.inl (some 56))), (1, .inl ((-2147483648), 2147483647)), (2, .inl (1, 63)), (3, .inl ((-2147483648), 100000)), (4, .inl ((-1), 2147483647)), (5, .inl (0, 6))], [], [.inl 1, .inr (true, 5), .inl 0], ([], [], [], []))]
def tb_m048 : zTb := ([], zdec, zprs)
def cm_m048 : List (Nat × List Nat) := []
theorem rn_m048 : zgood tb_m048 cm_m048 0 sm_m048 ct_m048 20000 = true := by decide +kernel
theorem so_m048 {D : va_G} {l : Launch} : zSO zD0 D l pT sm_m048 := zfl1 rn_m048 zHn hp_T
-- X11_twelve
def sm_m049 : zSm := (191, (3, 111), [.inr (.inl (some 56)), .inl ((-2147483648), 2147483647), .inl ((-2147483648), 2147483647), .inl ((-2147483648), 2147483647)], some (.inl ((-2147483648), 2147483647)), [], [], (([], []), [([], [], [])]))
def ct_m049 : zCt := [(36, [(0, .inr (.inl (some 56))), (1, .inl (0, 3)), (2, .inl (0, 999)), (3, .inl (0, 1)), (4, .inl (0, 63)), (5, .inl (1, 64))], [], [.inl 1, .inr (true, 5), .inl 0], ([], [], [], []))]
def tb_m049 : zTb := ([sm_m047, sm_m048], zdec, zprs)
def cm_m049 : List (Nat × List Nat) := [(82, [0]), (197, [1])]
theorem rn_m049 : zgood tb_m049 cm_m049 2 sm_m049 ct_m049 20000 = true := by decide +kernel
theorem so_m049 {D : va_G} {l : Launch} : zSO zD0 D l pT sm_m049 := zfl1 rn_m049 (zHc so_m047 (zHc so_m048 zHn)) hp_T
-- X11_need
def sm_m053 : zSm := (158, (2, 86), [.inr (.inl (some 56)), .inl ((-2147483648), 2147483647)], some (.inl ((-2147483648), 2147483647)), [], [], (([], []), [([], [], [])]))
def ct_m053 : zCt := [(16, [(0, .inr (.inl (some 56))), (1, .inl (0, 60)), (2, .inl ((-2147483648), 2147483647)), (3, .inl (0, 6))], [], [.inl 1, .inr (true, 3), .inl 0], ([], [], [], []))]
def tb_m053 : zTb := ([], zdec, zprs)
def cm_m053 : List (Nat × List Nat) := []
theorem rn_m053 : zgood tb_m053 cm_m053 0 sm_m053 ct_m053 20000 = true := by decide +kernel
theorem so_m053 {D : va_G} {l : Launch} : zSO zD0 D l pT sm_m053 := zfl1 rn_m053 zHn hp_T
-- X11_idle
def sm_m060 : zSm := (121, (2, 84), [.inr (.inl (some 56))], some (.inl (0, 63)), [], [], (([], []), [([], [], [])]))
def ct_m060 : zCt := [(4, [(0, .inr (.inl (some 56))), (1, .inl (0, 63)), (2, .inl (0, 4))], [], [.inl 1, .inr (true, 2), .inl 0], ([], [], [], []))]
def tb_m060 : zTb := ([], zdec, zprs)
def cm_m060 : List (Nat × List Nat) := []
theorem rn_m060 : zgood tb_m060 cm_m060 0 sm_m060 ct_m060 20000 = true := by decide +kernel
theorem so_m060 {D : va_G} {l : Launch} : zSO zD0 D l pT sm_m060 := zfl1 rn_m060 zHn hp_T
-- X11_dark
def sm_m061 : zSm := (92, (2, 84), [.inr (.inl (some 56))], some (.inl (0, 63)), [], [], (([], []), [([], [], [])]))
def ct_m061 : zCt := [(4, [(0, .inr (.inl (some 56))), (1, .inl (0, 63)), (2, .inl (0, 6))], [], [.inl 1, .inr (true, 2), .inl 0], ([], [], [], []))]
def tb_m061 : zTb := ([], zdec, zprs)
def cm_m061 : List (Nat × List Nat) := []
theorem rn_m061 : zgood tb_m061 cm_m061 0 sm_m061 ct_m061 20000 = true := by decide +kernel
theorem so_m061 {D : va_G} {l : Launch} : zSO zD0 D l pT sm_m061 := zfl1 rn_m061 zHn hp_T
-- X11_timid
def sm_m064 : zSm := (188, (2, 84), [.inr (.inl (some 56))], some (.inl ((-1), 5)), [], [], (([], []), [([], [], [])]))
def ct_m064 : zCt := [(4, [(0, .inr (.inl (some 56))), (1, .inl ((-1), 5)), (2, .inl (0, 6))], [], [.inl 1, .inr (true, 2), .inl 0], ([], [], [], []))]
def tb_m064 : zTb := ([], zdec, zprs)
def cm_m064 : List (Nat × List Nat) := []
theorem rn_m064 : zgood tb_m064 cm_m064 0 sm_m064 ct_m064 20000 = true := by decide +kernel
theorem so_m064 {D : va_G} {l : Launch} : zSO zD0 D l pT sm_m064 := zfl1 rn_m064 zHn hp_T
-- X11_nearest
def sm_m065 : zSm := (157, (3, 107), [.inr (.inl (some 56)), .inl ((-2147483648), 2147483647)], some (.inl ((-1), 5)), [], [], (([], []), [([], [], [])]))
def ct_m065 : zCt := [(14, [(0, .inr (.inl (some 56))), (1, .inl (0, 3)), (2, .inl ((-1), 5)), (3, .inl (0, 6))], [], [.inl 1, .inr (true, 3), .inl 0], ([], [], [], []))]
def tb_m065 : zTb := ([], zdec, zprs)
def cm_m065 : List (Nat × List Nat) := []
theorem rn_m065 : zgood tb_m065 cm_m065 0 sm_m065 ct_m065 20000 = true := by decide +kernel
theorem so_m065 {D : va_G} {l : Launch} : zSO zD0 D l pT sm_m065 := zfl1 rn_m065 zHn hp_T
-- X11_between
def sm_m066 : zSm := (80, (2, 86), [.inr (.inl (some 56)), .inl ((-2147483648), 2147483647), .inl ((-2147483648), 2147483647)], some (.inl ((-1), 63)), [], [], (([], []), [([], [], [])]))
def ct_m066 : zCt := [(27, [(0, .inr (.inl (some 56))), (1, .inl (0, 99)), (2, .inl (0, 99)), (3, .inl (0, 63)), (4, .inl (0, 6))], [], [.inl 1, .inr (true, 4), .inl 0], ([], [], [], []))]
def tb_m066 : zTb := ([], zdec, zprs)
def cm_m066 : List (Nat × List Nat) := []
theorem rn_m066 : zgood tb_m066 cm_m066 0 sm_m066 ct_m066 20000 = true := by decide +kernel
theorem so_m066 {D : va_G} {l : Launch} : zSO zD0 D l pT sm_m066 := zfl1 rn_m066 zHn hp_T
-- X11_divisor
def sm_m068 : zSm := (94, (1, 64), [.inl (1, 100000000), .inl ((-2147483648), 2147483647)], some (.inl (1, 2147483647)), [], [], (([], []), [([], [], [])]))
def ct_m068 : zCt := [(4, [(0, .inl (1, 100000000)), (1, .inl ((-2147483648), 2147483647)), (2, .inl (1, 2147483647)), (3, .inl ((-2147483648), 2147483647))], [], [.inl 1, .inr (false, 3), .inl 0], ([], [], [], []))]
def tb_m068 : zTb := ([], zdec, zprs)
def cm_m068 : List (Nat × List Nat) := []
theorem rn_m068 : zgood tb_m068 cm_m068 0 sm_m068 ct_m068 20000 = true := by decide +kernel
theorem so_m068 {D : va_G} {l : Launch} : zSO zD0 D l pT sm_m068 := zfl1 rn_m068 zHn hp_T
-- X11_odds
def sm_m069 : zSm := (161, (2, 88), [.inr (.inl (some 56)), .inl ((-2147483648), 2147483647), .inl ((-2147483648), 2147483647)], some (.inl ((-2147483648), 2147483647)), [], [], (([], []), [([], [], [])]))
def ct_m069 : zCt := []
def tb_m069 : zTb := ([sm_m068], zdec, zprs)
def cm_m069 : List (Nat × List Nat) := [(94, [0])]
theorem rn_m069 : zgood tb_m069 cm_m069 1 sm_m069 ct_m069 20000 = true := by decide +kernel
theorem so_m069 {D : va_G} {l : Launch} : zSO zD0 D l pT sm_m069 := zfl1 rn_m069 (zHc so_m068 zHn) hp_T
-- X11_lies
def sm_m070 : zSm := (150, (2, 86), [.inr (.inl (some 56)), .inl ((-2147483648), 2147483647)], some (.inl ((-2147483648), 2147483647)), [], [], (([], []), [([], [], [])]))
def ct_m070 : zCt := []
def tb_m070 : zTb := ([], zdec, zprs)
def cm_m070 : List (Nat × List Nat) := []
theorem rn_m070 : zgood tb_m070 cm_m070 0 sm_m070 ct_m070 20000 = true := by decide +kernel
theorem so_m070 {D : va_G} {l : Launch} : zSO zD0 D l pT sm_m070 := zfl1 rn_m070 zHn hp_T
-- X11_seen
def sm_m071 : zSm := (177, (2, 86), [.inr (.inl (some 56)), .inl ((-2147483648), 2147483647), .inl (0, 1)], some (.inl ((-1), 30)), [3641, 5696, 5760, 5824, 5888], [], (([], []), [([], [], [])]))
def ct_m071 : zCt := []
def tb_m071 : zTb := ([], zdec, zprs)
def cm_m071 : List (Nat × List Nat) := []
theorem rn_m071 : zgood tb_m071 cm_m071 0 sm_m071 ct_m071 20000 = true := by decide +kernel
theorem so_m071 {D : va_G} {l : Launch} : zSO zD0 D l pT sm_m071 := zfl1 rn_m071 zHn hp_T
-- X11_untell
def sm_m072 : zSm := (195, (2, 86), [.inr (.inl (some 56)), .inl ((-2147483648), 2147483647)], some (.inl (0, 1)), [5888], [], (([], []), [([], [], [])]))
def ct_m072 : zCt := []
def tb_m072 : zTb := ([], zdec, zprs)
def cm_m072 : List (Nat × List Nat) := []
theorem rn_m072 : zgood tb_m072 cm_m072 0 sm_m072 ct_m072 20000 = true := by decide +kernel
theorem so_m072 {D : va_G} {l : Launch} : zSO zD0 D l pT sm_m072 := zfl1 rn_m072 zHn hp_T
-- X11_later
def sm_m073 : zSm := (145, (2, 86), [.inr (.inl (some 56)), .inl ((-2147483648), 2147483647)], some (.inl ((-1), 100000)), [3642], [], (([], []), [([], [], [])]))
def ct_m073 : zCt := []
def tb_m073 : zTb := ([], zdec, zprs)
def cm_m073 : List (Nat × List Nat) := []
theorem rn_m073 : zgood tb_m073 cm_m073 0 sm_m073 ct_m073 20000 = true := by decide +kernel
theorem so_m073 {D : va_G} {l : Launch} : zSO zD0 D l pT sm_m073 := zfl1 rn_m073 zHn hp_T
-- X11_doesFit
def sm_m074 : zSm := (95, (1, 64), [.inr (.inl (some 56)), .inl (0, 40), .inl ((-2147483648), 2147483647)], some (.inl (0, 1)), [], [], (([], []), [([], [], [])]))
def ct_m074 : zCt := [(2, [(0, .inr (.inl (some 56))), (1, .inl (0, 40)), (2, .inl ((-2147483648), 2147483647)), (3, .inl (0, 30))], [], [.inl 1, .inr (true, 3), .inl 0], ([], [], [], []))]
def tb_m074 : zTb := ([], zdec, zprs)
def cm_m074 : List (Nat × List Nat) := []
theorem rn_m074 : zgood tb_m074 cm_m074 0 sm_m074 ct_m074 20000 = true := by decide +kernel
theorem so_m074 {D : va_G} {l : Launch} : zSO zD0 D l pT sm_m074 := zfl1 rn_m074 zHn hp_T
-- X11_mostOn
def sm_m077 : zSm := (155, (2, 87), [.inr (.inl (some 56)), .inl (0, 11), .inl ((-2147483648), 2147483647)], some (.inl ((-2147483648), 2147483647)), [], [], (([], []), [([], [], [])]))
def ct_m077 : zCt := [(8, [(0, .inr (.inl (some 56))), (1, .inl (0, 11)), (2, .inl ((-2147483648), 2147483647)), (3, .inl ((-2147483648), 2147483647)), (4, .inl ((-2147483648), 2147483647)), (5, .inl (0, 41))], [], [.inl 1, .inr (true, 5), .inl 0], ([], [], [], []))]
def tb_m077 : zTb := ([sm_m074], zdec, zprs)
def cm_m077 : List (Nat × List Nat) := [(95, [0])]
theorem rn_m077 : zgood tb_m077 cm_m077 1 sm_m077 ct_m077 20000 = true := by decide +kernel
theorem so_m077 {D : va_G} {l : Launch} : zSO zD0 D l pT sm_m077 := zfl1 rn_m077 (zHc so_m074 zHn) hp_T
-- X11_image
def sm_m079 : zSm := (122, (2, 86), [.inr (.inl (some 56)), .inl ((-2147483648), 2147483647)], some (.inl ((-2147483648), 2147483647)), [5952, 6016], [], (([], []), [([], [], [])]))
def ct_m079 : zCt := []
def tb_m079 : zTb := ([], zdec, zprs)
def cm_m079 : List (Nat × List Nat) := []
theorem rn_m079 : zgood tb_m079 cm_m079 0 sm_m079 ct_m079 20000 = true := by decide +kernel
theorem so_m079 {D : va_G} {l : Launch} : zSO zD0 D l pT sm_m079 := zfl1 rn_m079 zHn hp_T
-- X11_back
def sm_m080 : zSm := (78, (2, 86), [.inr (.inl (some 56)), .inl ((-2147483648), 2147483647)], some (.inl ((-2147483648), 2147483647)), [3630, 3631, 5248], [], (([], []), [([], [], [])]))
def ct_m080 : zCt := []
def tb_m080 : zTb := ([], zdec, zprs)
def cm_m080 : List (Nat × List Nat) := []
theorem rn_m080 : zgood tb_m080 cm_m080 0 sm_m080 ct_m080 20000 = true := by decide +kernel
theorem so_m080 {D : va_G} {l : Launch} : zSO zD0 D l pT sm_m080 := zfl1 rn_m080 zHn hp_T
