-- X11_night
def sm_m028 : zSm := (159, (10, 264), [.inr (.inl (some 56))], some (.inl ((-1), 63)), [3624, 3625, 3626, 3630, 3631, 5184, 5248, 5376], [], (([], []), [([], [], [])]))
def ct_m028 : zCt := []
def tb_m028 : zTb := ([sm_m026, sm_m027], zdec, zprs)
def cm_m028 : List (Nat × List Nat) := [(110, [0]), (142, [1])]
theorem rn_m028 : zgood tb_m028 cm_m028 2 sm_m028 ct_m028 20000 = true := by decide +kernel
theorem so_m028 {D : va_G} {l : Launch} : zSO zD0 D l pN sm_m028 := zfl1 rn_m028 (zHc so_m026 (zHc so_m027 zHn)) (hp_pM (by decide))
-- X11_send
def sm_m029 : zSm := (178, (7, 197), [.inr (.inl (some 56)), .inl ((-2147483648), 2147483647), .inl ((-2147483648), 2147483647)], some (.inl ((-1), 122)), [3624, 3625, 3626, 3630, 3631, 5184, 5248, 5376], [], (([], []), [([], [], [])]))
def ct_m029 : zCt := []
def tb_m029 : zTb := ([sm_m014, sm_m018, sm_m027], zdec, zprs)
def cm_m029 : List (Nat × List Nat) := [(85, [0]), (98, [1]), (142, [2])]
theorem rn_m029 : zgood tb_m029 cm_m029 3 sm_m029 ct_m029 20000 = true := by decide +kernel
theorem so_m029 {D : va_G} {l : Launch} : zSO zD0 D l pN sm_m029 := zfl1 rn_m029 (zHc so_m014 (zHc so_m018 (zHc so_m027 zHn))) (hp_pM (by decide))
-- X11_recall
def sm_m030 : zSm := (173, (3, 107), [.inr (.inl (some 56)), .inl ((-2147483648), 2147483647)], some (.inl ((-1), 5)), [3630, 3631, 5248, 5376], [], (([], []), [([], [], [])]))
def ct_m030 : zCt := []
def tb_m030 : zTb := ([sm_m027], zdec, zprs)
def cm_m030 : List (Nat × List Nat) := [(142, [0])]
theorem rn_m030 : zgood tb_m030 cm_m030 1 sm_m030 ct_m030 20000 = true := by decide +kernel
theorem so_m030 {D : va_G} {l : Launch} : zSO zD0 D l pN sm_m030 := zfl1 rn_m030 (zHc so_m027 zHn) (hp_pM (by decide))
-- X11_light
def sm_m031 : zSm := (151, (4, 129), [.inr (.inl (some 56)), .inl ((-2147483648), 2147483647)], some (.inl ((-2147483648), 2147483647)), [3630, 3631, 5248, 5376], [], (([], []), [([], [], [])]))
def ct_m031 : zCt := []
def tb_m031 : zTb := ([sm_m027], zdec, zprs)
def cm_m031 : List (Nat × List Nat) := [(142, [0])]
theorem rn_m031 : zgood tb_m031 cm_m031 1 sm_m031 ct_m031 20000 = true := by decide +kernel
theorem so_m031 {D : va_G} {l : Launch} : zSO zD0 D l pN sm_m031 := zfl1 rn_m031 (zHc so_m027 zHn) (hp_pM (by decide))
-- X11_snuff
def sm_m032 : zSm := (183, (4, 129), [.inr (.inl (some 56)), .inl ((-2147483648), 2147483647)], some (.inl ((-2147483648), 2147483647)), [3630, 3631, 5248, 5376], [], (([], []), [([], [], [])]))
def ct_m032 : zCt := []
def tb_m032 : zTb := ([sm_m027], zdec, zprs)
def cm_m032 : List (Nat × List Nat) := [(142, [0])]
theorem rn_m032 : zgood tb_m032 cm_m032 1 sm_m032 ct_m032 20000 = true := by decide +kernel
theorem so_m032 {D : va_G} {l : Launch} : zSO zD0 D l pN sm_m032 := zfl1 rn_m032 (zHc so_m027 zHn) (hp_pM (by decide))
-- X11_pour
def sm_m033 : zSm := (165, (3, 107), [.inr (.inl (some 56)), .inl ((-2147483648), 2147483647), .inl ((-2147483648), 2147483647)], some (.inl ((-2147483648), 2147483647)), [3630, 3631, 5248, 5376], [], (([], []), [([], [], [])]))
def ct_m033 : zCt := []
def tb_m033 : zTb := ([sm_m027], zdec, zprs)
def cm_m033 : List (Nat × List Nat) := [(142, [0])]
theorem rn_m033 : zgood tb_m033 cm_m033 1 sm_m033 ct_m033 20000 = true := by decide +kernel
theorem so_m033 {D : va_G} {l : Launch} : zSO zD0 D l pN sm_m033 := zfl1 rn_m033 (zHc so_m027 zHn) (hp_pM (by decide))
-- X11_swapAll
def sm_m034 : zSm := (187, (1, 64), [.inr (.inl (some 56))], none, [5248, 5376], [], (([], []), [([], [], [])]))
def ct_m034 : zCt := []
def tb_m034 : zTb := ([], zdec, zprs)
def cm_m034 : List (Nat × List Nat) := []
theorem rn_m034 : zgood tb_m034 cm_m034 0 sm_m034 ct_m034 20000 = true := by decide +kernel
theorem so_m034 {D : va_G} {l : Launch} : zSO zD0 D l pN sm_m034 := zfl1 rn_m034 zHn (hp_pM (by decide))
-- X11_undo
def sm_m035 : zSm := (193, (2, 86), [.inr (.inl (some 56))], some (.inl (0, 1)), [3630, 3631, 5248, 5376], [], (([], []), [([], [], [])]))
def ct_m035 : zCt := []
def tb_m035 : zTb := ([sm_m034], zdec, zprs)
def cm_m035 : List (Nat × List Nat) := [(187, [0])]
theorem rn_m035 : zgood tb_m035 cm_m035 1 sm_m035 ct_m035 20000 = true := by decide +kernel
theorem so_m035 {D : va_G} {l : Launch} : zSO zD0 D l pN sm_m035 := zfl1 rn_m035 (zHc so_m034 zHn) (hp_pM (by decide))
-- X11_redo
def sm_m036 : zSm := (174, (2, 86), [.inr (.inl (some 56))], some (.inl (0, 1)), [3630, 3631, 5248, 5376], [], (([], []), [([], [], [])]))
def ct_m036 : zCt := []
def tb_m036 : zTb := ([sm_m034], zdec, zprs)
def cm_m036 : List (Nat × List Nat) := [(187, [0])]
theorem rn_m036 : zgood tb_m036 cm_m036 1 sm_m036 ct_m036 20000 = true := by decide +kernel
theorem so_m036 {D : va_G} {l : Launch} : zSO zD0 D l pN sm_m036 := zfl1 rn_m036 (zHc so_m034 zHn) (hp_pM (by decide))
-- X11_bringBack
def sm_m037 : zSm := (86, (1, 64), [.inr (.inl (some 56))], none, [5248], [], (([], []), [([], [], [])]))
def ct_m037 : zCt := []
def tb_m037 : zTb := ([], zdec, zprs)
def cm_m037 : List (Nat × List Nat) := []
theorem rn_m037 : zgood tb_m037 cm_m037 0 sm_m037 ct_m037 20000 = true := by decide +kernel
theorem so_m037 {D : va_G} {l : Launch} : zSO zD0 D l pN sm_m037 := zfl1 rn_m037 zHn (hp_pM (by decide))
-- X11_keepNow
def sm_m038 : zSm := (143, (1, 64), [.inr (.inl (some 56))], none, [5312], [], (([], []), [([], [], [])]))
def ct_m038 : zCt := []
def tb_m038 : zTb := ([], zdec, zprs)
def cm_m038 : List (Nat × List Nat) := []
theorem rn_m038 : zgood tb_m038 cm_m038 0 sm_m038 ct_m038 20000 = true := by decide +kernel
theorem so_m038 {D : va_G} {l : Launch} : zSO zD0 D l pN sm_m038 := zfl1 rn_m038 zHn (hp_pM (by decide))
-- X11_will
def sm_m039 : zSm := (198, (10, 264), [.inr (.inl (some 56)), .inl ((-2147483648), 2147483647), .inl ((-2147483648), 2147483647), .inl ((-2147483648), 2147483647)], some (.inl ((-2147483648), 2147483647)), [3624, 3625, 3626, 5184, 5248, 5312], [], (([], []), [([], [], [])]))
def ct_m039 : zCt := [(39, [(0, .inr (.inl (some 56))), (1, .inl (0, 5)), (2, .inl (0, 60)), (3, .inl (0, 1)), (4, .inl (0, 63)), (5, .inl (0, 60))], [], [.inl 1, .inr (true, 5), .inl 0], ([], [], [], []))]
def tb_m039 : zTb := ([sm_m026, sm_m037, sm_m038], zdec, zprs)
def cm_m039 : List (Nat × List Nat) := [(86, [1]), (110, [0]), (143, [2])]
theorem rn_m039 : zgood tb_m039 cm_m039 3 sm_m039 ct_m039 20000 = true := by decide +kernel
theorem so_m039 {D : va_G} {l : Launch} : zSO zD0 D l pN sm_m039 := zfl1 rn_m039 (zHc so_m026 (zHc so_m037 (zHc so_m038 zHn))) (hp_pM (by decide))
-- X11_asleep
def sm_m040 : zSm := (76, (10, 264), [.inr (.inl (some 56)), .inl ((-2147483648), 2147483647)], some (.inl ((-1), 63)), [3624, 3625, 3626, 5184, 5248, 5312], [], (([], []), [([], [], [])]))
def ct_m040 : zCt := [(20, [(0, .inr (.inl (some 56))), (1, .inl (1, 60)), (2, .inl (0, 63)), (3, .inl (0, 60))], [], [.inl 1, .inr (true, 3), .inl 0], ([], [], [], []))]
def tb_m040 : zTb := ([sm_m026, sm_m037, sm_m038], zdec, zprs)
def cm_m040 : List (Nat × List Nat) := [(86, [1]), (110, [0]), (143, [2])]
theorem rn_m040 : zgood tb_m040 cm_m040 3 sm_m040 ct_m040 20000 = true := by decide +kernel
theorem so_m040 {D : va_G} {l : Launch} : zSO zD0 D l pN sm_m040 := zfl1 rn_m040 (zHc so_m026 (zHc so_m037 (zHc so_m038 zHn))) (hp_pM (by decide))
-- X11_calm
def sm_m041 : zSm := (88, (10, 264), [.inr (.inl (some 56))], some (.inl ((-1), 60)), [3624, 3625, 3626, 5184, 5248, 5312], [], (([], []), [([], [], [])]))
def ct_m041 : zCt := [(6, [(0, .inr (.inl (some 56))), (1, .inl (0, 63))], [], [.inl 1, .inr (true, 1), .inl 0], ([], [], [], []))]
def tb_m041 : zTb := ([sm_m023, sm_m026, sm_m037, sm_m038], zdec, zprs)
def cm_m041 : List (Nat × List Nat) := [(77, [0]), (86, [2]), (110, [1]), (143, [3])]
theorem rn_m041 : zgood tb_m041 cm_m041 4 sm_m041 ct_m041 20000 = true := by decide +kernel
theorem so_m041 {D : va_G} {l : Launch} : zSO zD0 D l pN sm_m041 := zfl1 rn_m041 (zHc so_m023 (zHc so_m026 (zHc so_m037 (zHc so_m038 zHn)))) (hp_pM (by decide))
-- X11_isSending
def sm_m042 : zSm := (137, (3, 109), [.inr (.inl (some 56)), .inl (0, 15625)], some (.inl (0, 1)), [], [], (([], []), [([], [], [])]))
def ct_m042 : zCt := [(4, [(0, .inr (.inl (some 56))), (1, .inl (0, 15625)), (2, .inl (0, 63)), (3, .inl (0, 6))], [], [.inl 1, .inr (true, 3), .inl 0], ([], [], [], []))]
def tb_m042 : zTb := ([], zdec, zprs)
def cm_m042 : List (Nat × List Nat) := []
theorem rn_m042 : zgood tb_m042 cm_m042 0 sm_m042 ct_m042 20000 = true := by decide +kernel
theorem so_m042 {D : va_G} {l : Launch} : zSO zD0 D l pN sm_m042 := zfl1 rn_m042 zHn (hp_pM (by decide))
-- X11_worthOf
def sm_m043 : zSm := (201, (7, 197), [.inr (.inl (some 56)), .inl (0, 15625)], some (.inl ((-2147483648), 2147483647)), [3624, 3625, 3626, 5184], [], (([], []), [([], [], [])]))
def ct_m043 : zCt := [(4, [(0, .inr (.inl (some 56))), (1, .inl (0, 15625)), (2, .inl ((-2147483648), 2147483647)), (3, .inl (0, 6))], [], [.inl 1, .inr (true, 3), .inl 0], ([], [], [], []))]
def tb_m043 : zTb := ([sm_m017, sm_m018], zdec, zprs)
def cm_m043 : List (Nat × List Nat) := [(98, [1]), (117, [0])]
theorem rn_m043 : zgood tb_m043 cm_m043 2 sm_m043 ct_m043 20000 = true := by decide +kernel
theorem so_m043 {D : va_G} {l : Launch} : zSO zD0 D l pN sm_m043 := zfl1 rn_m043 (zHc so_m017 (zHc so_m018 zHn)) (hp_pM (by decide))
-- X11_sending
def sm_m044 : zSm := (179, (8, 221), [.inr (.inl (some 56)), .inl ((-2147483648), 2147483647)], some (.inl ((-2147483648), 2147483647)), [3624, 3625, 3626, 3633, 5184, 5440], [], (([], []), [([], [], [])]))
def ct_m044 : zCt := [(18, [(0, .inr (.inl (some 56))), (1, .inl (0, 1)), (2, .inl ((-1), 15625)), (3, .inl ((-1), 2147483647)), (4, .inl (0, 15625))], [], [.inl 2, .inr (true, 4), .inl 0], ([], [], [], [])),
  (80, [(0, .inr (.inl (some 56))), (1, .inl (0, 1)), (2, .inl ((-1), 15625)), (3, .inl ((-1), 2147483647)), (4, .inl (0, 6))], [], [.inl 1, .inr (true, 4), .inl 0], ([], [], [], []))]
def tb_m044 : zTb := ([sm_m042, sm_m043], zdec, zprs)
def cm_m044 : List (Nat × List Nat) := [(137, [0]), (201, [1])]
theorem rn_m044 : zgood tb_m044 cm_m044 2 sm_m044 ct_m044 20000 = true := by decide +kernel
theorem so_m044 {D : va_G} {l : Launch} : zSO zD0 D l pN sm_m044 := zfl1 rn_m044 (zHc so_m042 (zHc so_m043 zHn)) (hp_pM (by decide))
-- X11_wayOf
def sm_m045 : zSm := (196, (3, 109), [.inr (.inl (some 56)), .inl (0, 46656), .inl ((-2147483648), 2147483647)], some (.inl ((-2147483648), 2147483647)), [], [], (([], []), [([], [], [])]))
def ct_m045 : zCt := [(11, [(0, .inr (.inl (some 56))), (1, .inl (0, 46656)), (2, .inl ((-2147483648), 2147483647)), (3, .inl (0, 63)), (4, .inl ((-2147483648), 2147483647)), (5, .inl ((-2147483648), 2147483647)), (6, .inl (0, 6))], [], [.inl 1, .inr (true, 6), .inl 0], ([], [], [], []))]
def tb_m045 : zTb := ([], zdec, zprs)
def cm_m045 : List (Nat × List Nat) := []
theorem rn_m045 : zgood tb_m045 cm_m045 0 sm_m045 ct_m045 20000 = true := by decide +kernel
theorem so_m045 {D : va_G} {l : Launch} : zSO zD0 D l pN sm_m045 := zfl1 rn_m045 zHn (hp_pM (by decide))
-- X11_round
def sm_m046 : zSm := (176, (4, 136), [.inr (.inl (some 56)), .inl ((-2147483648), 2147483647)], some (.inl ((-1), 100000)), [3633, 5440], [], (([], []), [([], [], [])]))
def ct_m046 : zCt := [(24, [(0, .inr (.inl (some 56))), (1, .inl (0, 3)), (2, .inl (0, 46656)), (3, .inl (0, 100000)), (4, .inl (0, 46656))], [], [.inl 2, .inr (true, 4), .inl 0], ([], [], [], [])),
  (82, [(0, .inr (.inl (some 56))), (1, .inl (0, 3)), (2, .inl (0, 46656)), (3, .inl (0, 100000)), (4, .inl (0, 6))], [], [.inl 1, .inr (true, 4), .inl 0], ([], [], [], []))]
def tb_m046 : zTb := ([sm_m045], zdec, zprs)
def cm_m046 : List (Nat × List Nat) := [(196, [0])]
theorem rn_m046 : zgood tb_m046 cm_m046 1 sm_m046 ct_m046 20000 = true := by decide +kernel
theorem so_m046 {D : va_G} {l : Launch} : zSO zD0 D l pN sm_m046 := zfl1 rn_m046 (zHc so_m045 zHn) (hp_pM (by decide))
