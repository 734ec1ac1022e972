-- X11_recall
def sm_m019 : zSm := (173, (3, 107), [.inr (.inl (some 56)), .inl ((-2147483648), 2147483647)], some (.inl ((-1), 5)), [3630, 3631, 5248, 5376], [], (([], []), [([], [], [])]))
def ct_m019 : zCt := []
def tb_m019 : zTb := ([sm_m016], zdec, zprs)
def cm_m019 : List (Nat × List Nat) := [(142, [0])]
theorem rn_m019 : zgood tb_m019 cm_m019 1 sm_m019 ct_m019 20000 = true := by decide +kernel
theorem so_m019 {D : va_G} {l : Launch} : zSO zD0 D l pT sm_m019 := zfl1 rn_m019 (zHc so_m016 zHn) hp_T
-- X11_light
def sm_m020 : zSm := (151, (4, 129), [.inr (.inl (some 56)), .inl ((-2147483648), 2147483647)], some (.inl ((-2147483648), 2147483647)), [3630, 3631, 5248, 5376], [], (([], []), [([], [], [])]))
def ct_m020 : zCt := []
def tb_m020 : zTb := ([sm_m016], zdec, zprs)
def cm_m020 : List (Nat × List Nat) := [(142, [0])]
theorem rn_m020 : zgood tb_m020 cm_m020 1 sm_m020 ct_m020 20000 = true := by decide +kernel
theorem so_m020 {D : va_G} {l : Launch} : zSO zD0 D l pT sm_m020 := zfl1 rn_m020 (zHc so_m016 zHn) hp_T
-- X11_snuff
def sm_m021 : zSm := (183, (4, 129), [.inr (.inl (some 56)), .inl ((-2147483648), 2147483647)], some (.inl ((-2147483648), 2147483647)), [3630, 3631, 5248, 5376], [], (([], []), [([], [], [])]))
def ct_m021 : zCt := []
def tb_m021 : zTb := ([sm_m016], zdec, zprs)
def cm_m021 : List (Nat × List Nat) := [(142, [0])]
theorem rn_m021 : zgood tb_m021 cm_m021 1 sm_m021 ct_m021 20000 = true := by decide +kernel
theorem so_m021 {D : va_G} {l : Launch} : zSO zD0 D l pT sm_m021 := zfl1 rn_m021 (zHc so_m016 zHn) hp_T
-- X11_pour
def sm_m022 : zSm := (165, (3, 107), [.inr (.inl (some 56)), .inl ((-2147483648), 2147483647), .inl ((-2147483648), 2147483647)], some (.inl ((-2147483648), 2147483647)), [3630, 3631, 5248, 5376], [], (([], []), [([], [], [])]))
def ct_m022 : zCt := []
def tb_m022 : zTb := ([sm_m016], zdec, zprs)
def cm_m022 : List (Nat × List Nat) := [(142, [0])]
theorem rn_m022 : zgood tb_m022 cm_m022 1 sm_m022 ct_m022 20000 = true := by decide +kernel
theorem so_m022 {D : va_G} {l : Launch} : zSO zD0 D l pT sm_m022 := zfl1 rn_m022 (zHc so_m016 zHn) hp_T
-- X11_swapAll
def sm_m023 : zSm := (187, (1, 64), [.inr (.inl (some 56))], none, [5248, 5376], [], (([], []), [([], [], [])]))
def ct_m023 : zCt := []
def tb_m023 : zTb := ([], zdec, zprs)
def cm_m023 : List (Nat × List Nat) := []
theorem rn_m023 : zgood tb_m023 cm_m023 0 sm_m023 ct_m023 20000 = true := by decide +kernel
theorem so_m023 {D : va_G} {l : Launch} : zSO zD0 D l pT sm_m023 := zfl1 rn_m023 zHn hp_T
-- X11_undo
def sm_m024 : zSm := (193, (2, 86), [.inr (.inl (some 56))], some (.inl (0, 1)), [3630, 3631, 5248, 5376], [], (([], []), [([], [], [])]))
def ct_m024 : zCt := []
def tb_m024 : zTb := ([sm_m023], zdec, zprs)
def cm_m024 : List (Nat × List Nat) := [(187, [0])]
theorem rn_m024 : zgood tb_m024 cm_m024 1 sm_m024 ct_m024 20000 = true := by decide +kernel
theorem so_m024 {D : va_G} {l : Launch} : zSO zD0 D l pT sm_m024 := zfl1 rn_m024 (zHc so_m023 zHn) hp_T
-- X11_redo
def sm_m025 : zSm := (174, (2, 86), [.inr (.inl (some 56))], some (.inl (0, 1)), [3630, 3631, 5248, 5376], [], (([], []), [([], [], [])]))
def ct_m025 : zCt := []
def tb_m025 : zTb := ([sm_m023], zdec, zprs)
def cm_m025 : List (Nat × List Nat) := [(187, [0])]
theorem rn_m025 : zgood tb_m025 cm_m025 1 sm_m025 ct_m025 20000 = true := by decide +kernel
theorem so_m025 {D : va_G} {l : Launch} : zSO zD0 D l pT sm_m025 := zfl1 rn_m025 (zHc so_m023 zHn) hp_T
-- X11_bringBack
def sm_m026 : zSm := (86, (1, 64), [.inr (.inl (some 56))], none, [5248], [], (([], []), [([], [], [])]))
def ct_m026 : zCt := []
def tb_m026 : zTb := ([], zdec, zprs)
def cm_m026 : List (Nat × List Nat) := []
theorem rn_m026 : zgood tb_m026 cm_m026 0 sm_m026 ct_m026 20000 = true := by decide +kernel
theorem so_m026 {D : va_G} {l : Launch} : zSO zD0 D l pT sm_m026 := zfl1 rn_m026 zHn hp_T
-- X11_keepNow
def sm_m027 : zSm := (143, (1, 64), [.inr (.inl (some 56))], none, [5312], [], (([], []), [([], [], [])]))
def ct_m027 : zCt := []
def tb_m027 : zTb := ([], zdec, zprs)
def cm_m027 : List (Nat × List Nat) := []
theorem rn_m027 : zgood tb_m027 cm_m027 0 sm_m027 ct_m027 20000 = true := by decide +kernel
theorem so_m027 {D : va_G} {l : Launch} : zSO zD0 D l pT sm_m027 := zfl1 rn_m027 zHn hp_T
-- X11_isSending
def sm_m031 : zSm := (137, (3, 109), [.inr (.inl (some 56)), .inl (0, 15625)], some (.inl (0, 1)), [], [], (([], []), [([], [], [])]))
def ct_m031 : zCt := [(4, [(0, .inr (.inl (some 56))), (1, .inl (0, 15625)), (2, .inl (0, 63)), (3, .inl (0, 6))], [], [.inl 1, .inr (true, 3), .inl 0], ([], [], [], []))]
def tb_m031 : zTb := ([], zdec, zprs)
def cm_m031 : List (Nat × List Nat) := []
theorem rn_m031 : zgood tb_m031 cm_m031 0 sm_m031 ct_m031 20000 = true := by decide +kernel
theorem so_m031 {D : va_G} {l : Launch} : zSO zD0 D l pT sm_m031 := zfl1 rn_m031 zHn hp_T
-- X11_wayOf
def sm_m034 : zSm := (196, (3, 109), [.inr (.inl (some 56)), .inl (0, 46656), .inl ((-2147483648), 2147483647)], some (.inl ((-2147483648), 2147483647)), [], [], (([], []), [([], [], [])]))
def ct_m034 : zCt := [(11, [(0, .inr (.inl (some 56))), (1, .inl (0, 46656)), (2, .inl ((-2147483648), 2147483647)), (3, .inl (0, 63)), (4, .inl ((-2147483648), 2147483647)), (5, .inl ((-2147483648), 2147483647)), (6, .inl (0, 6))], [], [.inl 1, .inr (true, 6), .inl 0], ([], [], [], []))]
def tb_m034 : zTb := ([], zdec, zprs)
def cm_m034 : List (Nat × List Nat) := []
theorem rn_m034 : zgood tb_m034 cm_m034 0 sm_m034 ct_m034 20000 = true := by decide +kernel
theorem so_m034 {D : va_G} {l : Launch} : zSO zD0 D l pT sm_m034 := zfl1 rn_m034 zHn hp_T
-- X11_round
def sm_m035 : zSm := (176, (4, 136), [.inr (.inl (some 56)), .inl ((-2147483648), 2147483647)], some (.inl ((-1), 100000)), [3633, 5440], [], (([], []), [([], [], [])]))
def ct_m035 : zCt := [(24, [(0, .inr (.inl (some 56))), (1, .inl (0, 3)), (2, .inl (0, 46656)), (3, .inl (0, 100000)), (4, .inl (0, 46656))], [], [.inl 2, .inr (true, 4), .inl 0], ([], [], [], [])),
  (82, [(0, .inr (.inl (some 56))), (1, .inl (0, 3)), (2, .inl (0, 46656)), (3, .inl (0, 100000)), (4, .inl (0, 6))], [], [.inl 1, .inr (true, 4), .inl 0], ([], [], [], []))]
def tb_m035 : zTb := ([sm_m034], zdec, zprs)
def cm_m035 : List (Nat × List Nat) := [(196, [0])]
theorem rn_m035 : zgood tb_m035 cm_m035 1 sm_m035 ct_m035 20000 = true := by decide +kernel
theorem so_m035 {D : va_G} {l : Launch} : zSO zD0 D l pT sm_m035 := zfl1 rn_m035 (zHc so_m034 zHn) hp_T
-- X11_bitsOf
def sm_m036 : zSm := (82, (1, 64), [.inl (0, 255)], some (.inl ((-2147483648), 2147483647)), [], [], (([], []), [([], [], [])]))
def ct_m036 : zCt := [(4, [(0, .inl (0, 255)), (1, .inl ((-2147483648), 2147483647)), (2, .inl (0, 255))], [], [.inl 1, .inr (false, 2), .inl 0], ([], [], [], []))]
def tb_m036 : zTb := ([], zdec, zprs)
def cm_m036 : List (Nat × List Nat) := []
theorem rn_m036 : zgood tb_m036 cm_m036 0 sm_m036 ct_m036 20000 = true := by decide +kernel
theorem so_m036 {D : va_G} {l : Launch} : zSO zD0 D l pT sm_m036 := zfl1 rn_m036 zHn hp_T
-- X11_wayTo
def sm_m037 : zSm := (197, (2, 85), [.inr (.inl (some 56)), .inl ((-2147483648), 2147483647), .inl (1, 63)], some (.inl ((-2147483648), 2147483647)), [], [], (([], []), [([], [], [])]))
def ct_m037 : zCt := [(10, [(0, .inr (.inl (some 56))), (1, .inl ((-2147483648), 2147483647)), (2, .inl (1, 63)), (3, .inl ((-2147483648), 100000)), (4, .inl ((-1), 2147483647)), (5, .inl (0, 6))], [], [.inl 1, .inr (true, 5), .inl 0], ([], [], [], []))]
def tb_m037 : zTb := ([], zdec, zprs)
def cm_m037 : List (Nat × List Nat) := []
theorem rn_m037 : zgood tb_m037 cm_m037 0 sm_m037 ct_m037 20000 = true := by decide +kernel
theorem so_m037 {D : va_G} {l : Launch} : zSO zD0 D l pT sm_m037 := zfl1 rn_m037 zHn hp_T
-- X11_twelve
def sm_m038 : zSm := (191, (3, 111), [.inr (.inl (some 56)), .inl ((-2147483648), 2147483647), .inl ((-2147483648), 2147483647), .inl ((-2147483648), 2147483647)], some (.inl ((-2147483648), 2147483647)), [], [], (([], []), [([], [], [])]))
def ct_m038 : zCt := [(36, [(0, .inr (.inl (some 56))), (1, .inl (0, 3)), (2, .inl (0, 999)), (3, .inl (0, 1)), (4, .inl (0, 63)), (5, .inl (1, 64))], [], [.inl 1, .inr (true, 5), .inl 0], ([], [], [], []))]
def tb_m038 : zTb := ([sm_m036, sm_m037], zdec, zprs)
def cm_m038 : List (Nat × List Nat) := [(82, [0]), (197, [1])]
theorem rn_m038 : zgood tb_m038 cm_m038 2 sm_m038 ct_m038 20000 = true := by decide +kernel
theorem so_m038 {D : va_G} {l : Launch} : zSO zD0 D l pT sm_m038 := zfl1 rn_m038 (zHc so_m036 (zHc so_m037 zHn)) hp_T
-- X11_need
def sm_m042 : zSm := (158, (2, 86), [.inr (.inl (some 56)), .inl ((-2147483648), 2147483647)], some (.inl ((-2147483648), 2147483647)), [], [], (([], []), [([], [], [])]))
def ct_m042 : zCt := [(16, [(0, .inr (.inl (some 56))), (1, .inl (0, 60)), (2, .inl ((-2147483648), 2147483647)), (3, .inl (0, 6))], [], [.inl 1, .inr (true, 3), .inl 0], ([], [], [], []))]
def tb_m042 : zTb := ([], zdec, zprs)
def cm_m042 : List (Nat × List Nat) := []
theorem rn_m042 : zgood tb_m042 cm_m042 0 sm_m042 ct_m042 20000 = true := by decide +kernel
theorem so_m042 {D : va_G} {l : Launch} : zSO zD0 D l pT sm_m042 := zfl1 rn_m042 zHn hp_T
-- X11_idle
def sm_m049 : zSm := (121, (2, 84), [.inr (.inl (some 56))], some (.inl (0, 63)), [], [], (([], []), [([], [], [])]))
def ct_m049 : zCt := [(4, [(0, .inr (.inl (some 56))), (1, .inl (0, 63)), (2, .inl (0, 4))], [], [.inl 1, .inr (true, 2), .inl 0], ([], [], [], []))]
def tb_m049 : zTb := ([], zdec, zprs)
def cm_m049 : List (Nat × List Nat) := []
theorem rn_m049 : zgood tb_m049 cm_m049 0 sm_m049 ct_m049 20000 = true := by decide +kernel
theorem so_m049 {D : va_G} {l : Launch} : zSO zD0 D l pT sm_m049 := zfl1 rn_m049 zHn hp_T
-- X11_dark
def sm_m050 : zSm := (92, (2, 84), [.inr (.inl (some 56))], some (.inl (0, 63)), [], [], (([], []), [([], [], [])]))
def ct_m050 : zCt := [(4, [(0, .inr (.inl (some 56))), (1, .inl (0, 63)), (2, .inl (0, 6))], [], [.inl 1, .inr (true, 2), .inl 0], ([], [], [], []))]
def tb_m050 : zTb := ([], zdec, zprs)
def cm_m050 : List (Nat × List Nat) := []
theorem rn_m050 : zgood tb_m050 cm_m050 0 sm_m050 ct_m050 20000 = true := by decide +kernel
theorem so_m050 {D : va_G} {l : Launch} : zSO zD0 D l pT sm_m050 := zfl1 rn_m050 zHn hp_T
-- X11_timid
def sm_m053 : zSm := (188, (2, 84), [.inr (.inl (some 56))], some (.inl ((-1), 5)), [], [], (([], []), [([], [], [])]))
def ct_m053 : zCt := [(4, [(0, .inr (.inl (some 56))), (1, .inl ((-1), 5)), (2, .inl (0, 6))], [], [.inl 1, .inr (true, 2), .inl 0], ([], [], [], []))]
def tb_m053 : zTb := ([], zdec, zprs)
def cm_m053 : List (Nat × List Nat) := []
theorem rn_m053 : zgood tb_m053 cm_m053 0 sm_m053 ct_m053 20000 = true := by decide +kernel
theorem so_m053 {D : va_G} {l : Launch} : zSO zD0 D l pT sm_m053 := zfl1 rn_m053 zHn hp_T
-- X11_nearest
def sm_m054 : zSm := (157, (3, 107), [.inr (.inl (some 56)), .inl ((-2147483648), 2147483647)], some (.inl ((-1), 5)), [], [], (([], []), [([], [], [])]))
def ct_m054 : zCt := [(14, [(0, .inr (.inl (some 56))), (1, .inl (0, 3)), (2, .inl ((-1), 5)), (3, .inl (0, 6))], [], [.inl 1, .inr (true, 3), .inl 0], ([], [], [], []))]
def tb_m054 : zTb := ([], zdec, zprs)
def cm_m054 : List (Nat × List Nat) := []
theorem rn_m054 : zgood tb_m054 cm_m054 0 sm_m054 ct_m054 20000 = true := by decide +kernel
theorem so_m054 {D : va_G} {l : Launch} : zSO zD0 D l pT sm_m054 := zfl1 rn_m054 zHn hp_T
-- X11_between
def sm_m055 : zSm := (80, (2, 86), [.inr (.inl (some 56)), .inl ((-2147483648), 2147483647), .inl ((-2147483648), 2147483647)], some (.inl ((-1), 63)), [], [], (([], []), [([], [], [])]))
def ct_m055 : zCt := [(27, [(0, .inr (.inl (some 56))), (1, .inl (0, 99)), (2, .inl (0, 99)), (3, .inl (0, 63)), (4, .inl (0, 6))], [], [.inl 1, .inr (true, 4), .inl 0], ([], [], [], []))]
def tb_m055 : zTb := ([], zdec, zprs)
def cm_m055 : List (Nat × List Nat) := []
theorem rn_m055 : zgood tb_m055 cm_m055 0 sm_m055 ct_m055 20000 = true := by decide +kernel
theorem so_m055 {D : va_G} {l : Launch} : zSO zD0 D l pT sm_m055 := zfl1 rn_m055 zHn hp_T
-- X11_divisor
def sm_m057 : zSm := (94, (1, 64), [.inl (1, 100000000), .inl (0, 100000000)], some (.inl (1, 100000000)), [], [], (([], []), [([], [], [])]))
def ct_m057 : zCt := [(4, [(0, .inl (1, 100000000)), (1, .inl (0, 100000000)), (2, .inl (1, 100000000)), (3, .inl (0, 100000000))], [], [.inl 1, .inr (false, 3), .inl 0], ([], [], [], []))]
def tb_m057 : zTb := ([], zdec, zprs)
def cm_m057 : List (Nat × List Nat) := []
theorem rn_m057 : zgood tb_m057 cm_m057 0 sm_m057 ct_m057 20000 = true := by decide +kernel
theorem so_m057 {D : va_G} {l : Launch} : zSO zD0 D l pT sm_m057 := zfl1 rn_m057 zHn hp_T
-- X11_odds
def sm_m058 : zSm := (161, (2, 88), [.inr (.inl (some 56)), .inl ((-2147483648), 2147483647), .inl ((-2147483648), 2147483647)], some (.inl ((-1), 100000000)), [], [], (([], []), [([], [], [])]))
def ct_m058 : zCt := []
def tb_m058 : zTb := ([sm_m057], zdec, zprs)
def cm_m058 : List (Nat × List Nat) := [(94, [0])]
theorem rn_m058 : zgood tb_m058 cm_m058 1 sm_m058 ct_m058 20000 = true := by decide +kernel
theorem so_m058 {D : va_G} {l : Launch} : zSO zD0 D l pT sm_m058 := zfl1 rn_m058 (zHc so_m057 zHn) hp_T
-- X11_lies
def sm_m059 : zSm := (150, (2, 86), [.inr (.inl (some 56)), .inl ((-2147483648), 2147483647)], some (.inl ((-2147483648), 2147483647)), [], [], (([], []), [([], [], [])]))
def ct_m059 : zCt := []
def tb_m059 : zTb := ([], zdec, zprs)
def cm_m059 : List (Nat × List Nat) := []
theorem rn_m059 : zgood tb_m059 cm_m059 0 sm_m059 ct_m059 20000 = true := by decide +kernel
theorem so_m059 {D : va_G} {l : Launch} : zSO zD0 D l pT sm_m059 := zfl1 rn_m059 zHn hp_T
-- X11_seen
def sm_m060 : zSm := (177, (2, 86), [.inr (.inl (some 56)), .inl ((-2147483648), 2147483647), .inl (0, 1)], some (.inl ((-1), 30)), [3641, 5696, 5760, 5824, 5888], [], (([], []), [([], [], [])]))
def ct_m060 : zCt := []
def tb_m060 : zTb := ([], zdec, zprs)
def cm_m060 : List (Nat × List Nat) := []
theorem rn_m060 : zgood tb_m060 cm_m060 0 sm_m060 ct_m060 20000 = true := by decide +kernel
theorem so_m060 {D : va_G} {l : Launch} : zSO zD0 D l pT sm_m060 := zfl1 rn_m060 zHn hp_T
-- X11_untell
def sm_m061 : zSm := (195, (2, 86), [.inr (.inl (some 56)), .inl ((-2147483648), 2147483647)], some (.inl (0, 1)), [5888], [], (([], []), [([], [], [])]))
def ct_m061 : zCt := []
def tb_m061 : zTb := ([], zdec, zprs)
def cm_m061 : List (Nat × List Nat) := []
theorem rn_m061 : zgood tb_m061 cm_m061 0 sm_m061 ct_m061 20000 = true := by decide +kernel
theorem so_m061 {D : va_G} {l : Launch} : zSO zD0 D l pT sm_m061 := zfl1 rn_m061 zHn hp_T
-- X11_later
def sm_m062 : zSm := (145, (2, 86), [.inr (.inl (some 56)), .inl ((-2147483648), 2147483647)], some (.inl ((-1), 100000)), [3642], [], (([], []), [([], [], [])]))
def ct_m062 : zCt := []
def tb_m062 : zTb := ([], zdec, zprs)
def cm_m062 : List (Nat × List Nat) := []
theorem rn_m062 : zgood tb_m062 cm_m062 0 sm_m062 ct_m062 20000 = true := by decide +kernel
theorem so_m062 {D : va_G} {l : Launch} : zSO zD0 D l pT sm_m062 := zfl1 rn_m062 zHn hp_T
-- X11_image
def sm_m063 : zSm := (122, (2, 86), [.inr (.inl (some 56)), .inl ((-2147483648), 2147483647)], some (.inl ((-2147483648), 2147483647)), [5952, 6016], [], (([], []), [([], [], [])]))
def ct_m063 : zCt := []
def tb_m063 : zTb := ([], zdec, zprs)
def cm_m063 : List (Nat × List Nat) := []
theorem rn_m063 : zgood tb_m063 cm_m063 0 sm_m063 ct_m063 20000 = true := by decide +kernel
theorem so_m063 {D : va_G} {l : Launch} : zSO zD0 D l pT sm_m063 := zfl1 rn_m063 zHn hp_T
-- X11_back
def sm_m064 : zSm := (78, (2, 86), [.inr (.inl (some 56)), .inl ((-2147483648), 2147483647)], some (.inl ((-2147483648), 2147483647)), [3630, 3631, 5248], [], (([], []), [([], [], [])]))
def ct_m064 : zCt := []
def tb_m064 : zTb := ([], zdec, zprs)
def cm_m064 : List (Nat × List Nat) := []
theorem rn_m064 : zgood tb_m064 cm_m064 0 sm_m064 ct_m064 20000 = true := by decide +kernel
theorem so_m064 {D : va_G} {l : Launch} : zSO zD0 D l pT sm_m064 := zfl1 rn_m064 zHn hp_T
