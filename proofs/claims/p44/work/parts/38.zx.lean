-- X10_idle
def sm_x270 : zSm := (30, (2, 86), [.inr (.inl (some 0))], some (.inl (0, 63)), [], [], (([], []), [([], [], [])]))
def ct_x270 : zCt := [(4, [(0, .inr (.inl (some 0))), (1, .inl (0, 63)), (2, .inl (0, 4))], [], [.inl 1, .inr (true, 2), .inl 0], ([], [], [], []))]
def tb_x270 : zTb := ([sm_x166], zdec, zprs)
def cm_x270 : List (Nat × List Nat) := [(276, [0])]
theorem rn_x270 : zgood tb_x270 cm_x270 1 sm_x270 ct_x270 20000 = true := by decide +kernel
theorem so_x270 {D : va_G} {l : Launch} : zSO zD0 D l pT sm_x270 := zfl1 rn_x270 (zHc so_x166 zHn) hp_T
-- X10_dark
def sm_x271 : zSm := (20, (2, 85), [.inr (.inl (some 0))], some (.inl (0, 63)), [], [], (([], []), [([], [], [])]))
def ct_x271 : zCt := [(4, [(0, .inr (.inl (some 0))), (1, .inl (0, 63)), (2, .inl (0, 6))], [], [.inl 1, .inr (true, 2), .inl 0], ([], [], [], []))]
def tb_x271 : zTb := ([], zdec, zprs)
def cm_x271 : List (Nat × List Nat) := []
theorem rn_x271 : zgood tb_x271 cm_x271 0 sm_x271 ct_x271 20000 = true := by decide +kernel
theorem so_x271 {D : va_G} {l : Launch} : zSO zD0 D l pT sm_x271 := zfl1 rn_x271 zHn hp_T
-- X10_glow
def sm_x272 : zSm := (26, (6, 192), [.inr (.inl (some 0))], some (.inl (0, 63)), [2368, 2432, 3072, 3136], [], (([], []), [([], [], [])]))
def ct_x272 : zCt := [(4, [(0, .inr (.inl (some 0))), (1, .inl (0, 63)), (2, .inl (0, 6))], [], [.inl 1, .inr (true, 2), .inl 0], ([], [], [], []))]
def tb_x272 : zTb := ([sm_x159, sm_x160, sm_x163, sm_x164], zdec, zprs)
def cm_x272 : List (Nat × List Nat) := [(231, [0, 2]), (232, [1, 3])]
theorem rn_x272 : zgood tb_x272 cm_x272 4 sm_x272 ct_x272 20000 = true := by decide +kernel
theorem so_x272 {D : va_G} {l : Launch} : zSO zD0 D l pT sm_x272 := zfl1 rn_x272 (zHc so_x159 (zHc so_x160 (zHc so_x163 (zHc so_x164 zHn)))) hp_T
-- X10_blest
def sm_x273 : zSm := (15, (5, 167), [.inr (.inl (some 0))], some (.inl ((-1), 5)), [2368, 2432, 3072, 3136], [], (([], []), [([], [], [])]))
def ct_x273 : zCt := [(6, [(0, .inr (.inl (some 0))), (1, .inl ((-1), 5)), (2, .inl ((-1), 99)), (3, .inl (0, 6))], [], [.inl 1, .inr (true, 3), .inl 0], ([], [], [], []))]
def tb_x273 : zTb := ([sm_x168, sm_x169], zdec, zprs)
def cm_x273 : List (Nat × List Nat) := [(237, [0, 1])]
theorem rn_x273 : zgood tb_x273 cm_x273 2 sm_x273 ct_x273 20000 = true := by decide +kernel
theorem so_x273 {D : va_G} {l : Launch} : zSO zD0 D l pT sm_x273 := zfl1 rn_x273 (zHc so_x168 (zHc so_x169 zHn)) hp_T
-- X10_timid
def sm_x274 : zSm := (63, (1, 64), [.inr (.inl (some 0))], some (.inl ((-1), 5)), [], [], (([], []), [([], [], [])]))
def ct_x274 : zCt := [(6, [(0, .inr (.inl (some 0))), (1, .inl ((-1), 5)), (2, .inl ((-1), 2147483647)), (3, .inl (0, 6))], [], [.inl 1, .inr (true, 3), .inl 0], ([], [], [], []))]
def tb_x274 : zTb := ([], zdec, zprs)
def cm_x274 : List (Nat × List Nat) := []
theorem rn_x274 : zgood tb_x274 cm_x274 0 sm_x274 ct_x274 20000 = true := by decide +kernel
theorem so_x274 {D : va_G} {l : Launch} : zSO zD0 D l pT sm_x274 := zfl1 rn_x274 zHn hp_T
-- X10_nearest
def sm_x275 : zSm := (44, (2, 86), [.inr (.inl (some 0)), .inl ((-2147483648), 2147483647)], some (.inl ((-1), 5)), [], [], (([], []), [([], [], [])]))
def ct_x275 : zCt := [(21, [(0, .inr (.inl (some 0))), (1, .inl (0, 3)), (2, .inl ((-1), 5)), (3, .inl ((-2147483648), 100)), (4, .inl (0, 6))], [], [.inl 1, .inr (true, 4), .inl 0], ([], [], [], []))]
def tb_x275 : zTb := ([], zdec, zprs)
def cm_x275 : List (Nat × List Nat) := []
theorem rn_x275 : zgood tb_x275 cm_x275 0 sm_x275 ct_x275 20000 = true := by decide +kernel
theorem so_x275 {D : va_G} {l : Launch} : zSO zD0 D l pT sm_x275 := zfl1 rn_x275 zHn hp_T
-- X10_between
def sm_x276 : zSm := (14, (1, 64), [.inr (.inl (some 0)), .inl ((-2147483648), 2147483647), .inl ((-2147483648), 2147483647)], some (.inl ((-1), 63)), [], [], (([], []), [([], [], [])]))
def ct_x276 : zCt := [(32, [(0, .inr (.inl (some 0))), (1, .inl ((-2147483648), 2147483647)), (2, .inl ((-2147483648), 2147483647)), (3, .inl (0, 2147483647)), (4, .inl ((-2147483648), 99)), (5, .inl (0, 63)), (6, .inl (0, 6))], [], [.inl 1, .inr (true, 6), .inl 0], ([], [], [], []))]
def tb_x276 : zTb := ([], zdec, zprs)
def cm_x276 : List (Nat × List Nat) := []
theorem rn_x276 : zgood tb_x276 cm_x276 0 sm_x276 ct_x276 20000 = true := by decide +kernel
theorem so_x276 {D : va_G} {l : Launch} : zSO zD0 D l pT sm_x276 := zfl1 rn_x276 zHn hp_T
-- X10_law
def sm_x277 : zSm := (37, (5, 170), [.inr (.inl (some 0)), .inl ((-2147483648), 2147483647)], some (.inl ((-2147483648), 2147483647)), [2368, 2432, 3072, 3136], [], (([], []), [([], [], [])]))
def ct_x277 : zCt := [(16, [(0, .inr (.inl (some 0))), (1, .inl (0, 99)), (2, .inl ((-2147483648), 2147483647)), (3, .inl (0, 6))], [], [.inl 1, .inr (true, 3), .inl 0], ([], [], [], []))]
def tb_x277 : zTb := ([sm_x159, sm_x163], zdec, zprs)
def cm_x277 : List (Nat × List Nat) := [(231, [0, 1])]
theorem rn_x277 : zgood tb_x277 cm_x277 2 sm_x277 ct_x277 20000 = true := by decide +kernel
theorem so_x277 {D : va_G} {l : Launch} : zSO zD0 D l pT sm_x277 := zfl1 rn_x277 (zHc so_x159 (zHc so_x163 zHn)) hp_T
-- X10_commonDivisor
def sm_x278 : zSm := (19, (1, 64), [.inl ((-2147483648), 2147483647), .inl ((-2147483648), 2147483647)], some (.inl ((-2147483648), 2147483647)), [], [], (([], []), [([], [], [])]))
def ct_x278 : zCt := [(7, [(0, .inl ((-2147483648), 2147483647)), (1, .inl ((-2147483648), 2147483647)), (2, .inl ((-2147483648), 2147483647)), (3, .inl ((-2147483648), 2147483647)), (4, .inl (0, 64))], [], [.inl 1, .inr (true, 4), .inl 0], ([], [], [], []))]
def tb_x278 : zTb := ([], zdec, zprs)
def cm_x278 : List (Nat × List Nat) := []
theorem rn_x278 : zgood tb_x278 cm_x278 0 sm_x278 ct_x278 20000 = true := by decide +kernel
theorem so_x278 {D : va_G} {l : Launch} : zSO zD0 D l pT sm_x278 := zfl1 rn_x278 zHn hp_T
-- X10_odds
def sm_x279 : zSm := (47, (2, 89), [.inr (.inl (some 0)), .inl ((-2147483648), 2147483647), .inl ((-2147483648), 2147483647)], some (.inl ((-2147483648), 2147483647)), [], [], (([], []), [([], [], [])]))
def ct_x279 : zCt := [(40, [(0, .inr (.inl (some 0))), (1, .inl (0, 4)), (2, .inl (0, 1)), (3, .inl ((-2147483648), 2147483647)), (4, .inl ((-2147483648), 2147483647)), (5, .inl ((-2147483648), 2147483647)), (6, .inl (0, 4))], [], [.inl 1, .inr (true, 6), .inl 0], ([], [], [], []))]
def tb_x279 : zTb := ([sm_x278], zdec, zprs)
def cm_x279 : List (Nat × List Nat) := [(19, [0])]
theorem rn_x279 : zgood tb_x279 cm_x279 1 sm_x279 ct_x279 20000 = true := by decide +kernel
theorem so_x279 {D : va_G} {l : Launch} : zSO zD0 D l pT sm_x279 := zfl1 rn_x279 (zHc so_x278 zHn) hp_T
-- X10_lies
def sm_x280 : zSm := (41, (1, 64), [.inr (.inl (some 0)), .inl ((-2147483648), 2147483647)], some (.inl ((-2147483648), 2147483647)), [], [], (([], []), [([], [], [])]))
def ct_x280 : zCt := []
def tb_x280 : zTb := ([], zdec, zprs)
def cm_x280 : List (Nat × List Nat) := []
theorem rn_x280 : zgood tb_x280 cm_x280 0 sm_x280 ct_x280 20000 = true := by decide +kernel
theorem so_x280 {D : va_G} {l : Launch} : zSO zD0 D l pT sm_x280 := zfl1 rn_x280 zHn hp_T
-- X10_seen
def sm_x281 : zSm := (55, (2, 87), [.inr (.inl (some 0)), .inl ((-2147483648), 2147483647), .inl (0, 1)], some (.inl ((-1), 30)), [1088, 1152, 1216, 1280, 1344], [], (([], []), [([], [], [])]))
def ct_x281 : zCt := []
def tb_x281 : zTb := ([], zdec, zprs)
def cm_x281 : List (Nat × List Nat) := []
theorem rn_x281 : zgood tb_x281 cm_x281 0 sm_x281 ct_x281 20000 = true := by decide +kernel
theorem so_x281 {D : va_G} {l : Launch} : zSO zD0 D l pT sm_x281 := zfl1 rn_x281 zHn hp_T
-- X10_untell
def sm_x282 : zSm := (68, (2, 86), [.inr (.inl (some 0)), .inl ((-2147483648), 2147483647)], some (.inl (0, 1)), [1344], [], (([], []), [([], [], [])]))
def ct_x282 : zCt := []
def tb_x282 : zTb := ([], zdec, zprs)
def cm_x282 : List (Nat × List Nat) := []
theorem rn_x282 : zgood tb_x282 cm_x282 0 sm_x282 ct_x282 20000 = true := by decide +kernel
theorem so_x282 {D : va_G} {l : Launch} : zSO zD0 D l pT sm_x282 := zfl1 rn_x282 zHn hp_T
-- X10_later
def sm_x283 : zSm := (36, (1, 64), [.inr (.inl (some 0)), .inl ((-2147483648), 2147483647)], some (.inl ((-1), 100000)), [15], [], (([], []), [([], [], [])]))
def ct_x283 : zCt := []
def tb_x283 : zTb := ([], zdec, zprs)
def cm_x283 : List (Nat × List Nat) := []
theorem rn_x283 : zgood tb_x283 cm_x283 0 sm_x283 ct_x283 20000 = true := by decide +kernel
theorem so_x283 {D : va_G} {l : Launch} : zSO zD0 D l pT sm_x283 := zfl1 rn_x283 zHn hp_T
-- X6_fitting
def sm_x284 : zSm := (267, (2, 86), [.inr (.inl (some 17)), .inl ((-2147483648), 2147483647)], some (.inr (.inr ())), [], [], (([], []), [([], [], [])]))
def ct_x284 : zCt := [(8, [(0, .inr (.inl (some 17))), (1, .inl ((-2147483648), 2147483647)), (2, .inr (.inr ())), (4, .inl (0, 30))], [], [.inl 1, .inr (true, 4), .inl 0], ([], [], [], []))]
def tb_x284 : zTb := ([], zdec, zprs)
def cm_x284 : List (Nat × List Nat) := []
theorem rn_x284 : zgood tb_x284 cm_x284 0 sm_x284 ct_x284 20000 = true := by decide +kernel
theorem so_x284 {D : va_G} {l : Launch} : zSO zD0 D l pT sm_x284 := zfl1 rn_x284 zHn hp_T
-- X10_fits
def sm_x285 : zSm := (25, (3, 112), [.inr (.inl (some 0)), .inl ((-2147483648), 2147483647)], some (.inl (0, 127)), [], [], (([], []), [([], [], [])]))
def ct_x285 : zCt := []
def tb_x285 : zTb := ([sm_x284], zdec, zprs)
def cm_x285 : List (Nat × List Nat) := [(267, [0])]
theorem rn_x285 : zgood tb_x285 cm_x285 1 sm_x285 ct_x285 20000 = true := by decide +kernel
theorem so_x285 {D : va_G} {l : Launch} : zSO zD0 D l pT sm_x285 := zfl1 rn_x285 (zHc so_x284 zHn) hp_T
-- X10_sure
def sm_x286 : zSm := (62, (3, 112), [.inr (.inl (some 0)), .inl ((-2147483648), 2147483647), .inl ((-2147483648), 2147483647)], some (.inl ((-1), 40)), [], [], (([], []), [([], [], [])]))
def ct_x286 : zCt := [(18, [(0, .inr (.inl (some 0))), (1, .inl ((-2147483648), 2147483647)), (2, .inl ((-2147483648), 2147483647)), (3, .inr (.inr ())), (5, .inl ((-1), 40)), (6, .inl ((-1), 40)), (7, .inl (0, 41))], [], [.inl 1, .inr (true, 7), .inl 0], ([], [], [], []))]
def tb_x286 : zTb := ([sm_x284], zdec, zprs)
def cm_x286 : List (Nat × List Nat) := [(267, [0])]
theorem rn_x286 : zgood tb_x286 cm_x286 1 sm_x286 ct_x286 20000 = true := by decide +kernel
theorem so_x286 {D : va_G} {l : Launch} : zSO zD0 D l pT sm_x286 := zfl1 rn_x286 (zHc so_x284 zHn) hp_T
-- X10_ask
def sm_x287 : zSm := (10, (3, 112), [.inr (.inl (some 0)), .inl ((-2147483648), 2147483647), .inl ((-2147483648), 2147483647)], some (.inl ((-1), 2147483647)), [], [], (([], []), [([], [], [])]))
def ct_x287 : zCt := [(28, [(0, .inr (.inl (some 0))), (1, .inl ((-2147483648), 2147483647)), (2, .inl ((-2147483648), 2147483647)), (3, .inr (.inr ())), (5, .inl ((-1), 12)), (6, .inl (0, 2147483647)), (7, .inl (1, 13))], [], [.inl 1, .inr (true, 7), .inl 0], ([], [], [], []))]
def tb_x287 : zTb := ([sm_x284], zdec, zprs)
def cm_x287 : List (Nat × List Nat) := [(267, [0])]
theorem rn_x287 : zgood tb_x287 cm_x287 1 sm_x287 ct_x287 20000 = true := by decide +kernel
theorem so_x287 {D : va_G} {l : Launch} : zSO zD0 D l pT sm_x287 := zfl1 rn_x287 (zHc so_x284 zHn) hp_T
-- X10_image
def sm_x288 : zSm := (31, (2, 88), [.inr (.inl (some 0)), .inl ((-2147483648), 2147483647)], some (.inl ((-2147483648), 2147483647)), [14, 1024], [], (([], []), [([], [], [])]))
def ct_x288 : zCt := []
def tb_x288 : zTb := ([], zdec, zprs)
def cm_x288 : List (Nat × List Nat) := []
theorem rn_x288 : zgood tb_x288 cm_x288 0 sm_x288 ct_x288 20000 = true := by decide +kernel
theorem so_x288 {D : va_G} {l : Launch} : zSO zD0 D l pT sm_x288 := zfl1 rn_x288 zHn hp_T
-- X10_back
def sm_x289 : zSm := (13, (3, 109), [.inr (.inl (some 0)), .inl ((-2147483648), 2147483647)], some (.inl ((-2147483648), 2147483647)), [387, 388, 389, 390, 448, 512, 576, 897, 898, 960], [], (([], []), [([], [], [])]))
def ct_x289 : zCt := []
def tb_x289 : zTb := ([], zdec, zprs)
def cm_x289 : List (Nat × List Nat) := []
theorem rn_x289 : zgood tb_x289 cm_x289 0 sm_x289 ct_x289 20000 = true := by decide +kernel
theorem so_x289 {D : va_G} {l : Launch} : zSO zD0 D l pT sm_x289 := zfl1 rn_x289 zHn hp_T
-- X10_about
def sm_x290 : zSm := (8, (2, 84), [.inr (.inl (some 0)), .inl ((-2147483648), 2147483647)], some (.inl ((-2147483648), 2147483647)), [], [], (([], []), [([], [], [])]))
def ct_x290 : zCt := []
def tb_x290 : zTb := ([], zdec, zprs)
def cm_x290 : List (Nat × List Nat) := []
theorem rn_x290 : zgood tb_x290 cm_x290 0 sm_x290 ct_x290 20000 = true := by decide +kernel
theorem so_x290 {D : va_G} {l : Launch} : zSO zD0 D l pT sm_x290 := zfl1 rn_x290 zHn hp_T
