-- X0_burn
def sm_x256 : zSm := (4, (9, 286), [.inr (.inl (some 32)), .inl (3, 3), .inl ((-2147483648), 2147483647), .inl ((-2147483648), 2147483647), .inl (0, 3)], none, [2048, 2049, 3072, 3136], [(32, 2, 45), (32, 3, 6)], (([], []), [([], [], [])]))
def ct_x256 : zCt := [(51, [(0, .inr (.inl (some 32))), (1, .inl (3, 3)), (2, .inl ((-2147483648), 2147483647)), (3, .inl ((-2147483648), 2147483647)), (4, .inl (0, 3)), (5, .inl (0, 1)), (6, .inl (0, 2))], [], [.inl 1, .inr (true, 6), .inl 0], ([], [], [], []))]
def tb_x256 : zTb := ([sm_x163, sm_x255], zdec, zprs)
def cm_x256 : List (Nat × List Nat) := [(4, [1]), (231, [0])]
theorem rn_x256 : zgood tb_x256 cm_x256 2 sm_x256 ct_x256 20000 = true := by decide +kernel
theorem so_x256 {D : va_G} {l : Launch} : zSO zD0 D l pT sm_x256 := zfl1 rn_x256 (zHc so_x163 (zHc so_x255 zHn)) hp_T
-- X0_burn
def sm_x257 : zSm := (4, (10, 315), [.inr (.inl (some 32)), .inl (2, 2), .inl ((-2147483648), 2147483647), .inl ((-2147483648), 2147483647), .inl (0, 2)], none, [2048, 2049, 3072, 3136], [(32, 2, 45), (32, 3, 6)], (([], []), [([], [], [])]))
def ct_x257 : zCt := [(51, [(0, .inr (.inl (some 32))), (1, .inl (2, 2)), (2, .inl ((-2147483648), 2147483647)), (3, .inl ((-2147483648), 2147483647)), (4, .inl (0, 2)), (5, .inl (0, 1)), (6, .inl (0, 2))], [], [.inl 1, .inr (true, 6), .inl 0], ([], [], [], []))]
def tb_x257 : zTb := ([sm_x163, sm_x256], zdec, zprs)
def cm_x257 : List (Nat × List Nat) := [(4, [1]), (231, [0])]
theorem rn_x257 : zgood tb_x257 cm_x257 2 sm_x257 ct_x257 20000 = true := by decide +kernel
theorem so_x257 {D : va_G} {l : Launch} : zSO zD0 D l pT sm_x257 := zfl1 rn_x257 (zHc so_x163 (zHc so_x256 zHn)) hp_T
-- X0_burn
def sm_x258 : zSm := (4, (11, 344), [.inr (.inl (some 32)), .inl (1, 1), .inl ((-2147483648), 2147483647), .inl ((-2147483648), 2147483647), .inl (0, 1)], none, [2048, 2049, 3072, 3136], [(32, 2, 45), (32, 3, 6)], (([], []), [([], [], [])]))
def ct_x258 : zCt := [(51, [(0, .inr (.inl (some 32))), (1, .inl (1, 1)), (2, .inl ((-2147483648), 2147483647)), (3, .inl ((-2147483648), 2147483647)), (4, .inl (0, 1)), (5, .inl (0, 1)), (6, .inl (0, 2))], [], [.inl 1, .inr (true, 6), .inl 0], ([], [], [], []))]
def tb_x258 : zTb := ([sm_x163, sm_x257], zdec, zprs)
def cm_x258 : List (Nat × List Nat) := [(4, [1]), (231, [0])]
theorem rn_x258 : zgood tb_x258 cm_x258 2 sm_x258 ct_x258 20000 = true := by decide +kernel
theorem so_x258 {D : va_G} {l : Launch} : zSO zD0 D l pT sm_x258 := zfl1 rn_x258 (zHc so_x163 (zHc so_x257 zHn)) hp_T
-- X0_burn
def sm_x259 : zSm := (4, (12, 373), [.inr (.inl (some 32)), .inl (0, 0), .inl ((-2147483648), 2147483647), .inl (0, 0), .inl (0, 0)], none, [2048, 2049, 3072, 3136], [(32, 2, 45), (32, 3, 6)], (([], []), [([], [], [])]))
def ct_x259 : zCt := [(51, [(0, .inr (.inl (some 32))), (1, .inl (0, 0)), (2, .inl ((-2147483648), 2147483647)), (3, .inl (0, 0)), (4, .inl (0, 0)), (5, .inl (0, 1)), (6, .inl (0, 2))], [], [.inl 1, .inr (true, 6), .inl 0], ([], [], [], []))]
def tb_x259 : zTb := ([sm_x163, sm_x258], zdec, zprs)
def cm_x259 : List (Nat × List Nat) := [(4, [1]), (231, [0])]
theorem rn_x259 : zgood tb_x259 cm_x259 2 sm_x259 ct_x259 20000 = true := by decide +kernel
theorem so_x259 {D : va_G} {l : Launch} : zSO zD0 D l pT sm_x259 := zfl1 rn_x259 (zHc so_x163 (zHc so_x258 zHn)) hp_T
-- X0_findBurning
def sm_x260 : zSm := (5, (13, 402), [.inr (.inl (some 32)), .inr (.inl (some 45)), .inr (.inl (some 6)), .inl (0, 5), .inl (0, 8)], none, [2048, 2049, 2050, 2051, 2052, 2053, 3072, 3136], [], (([], []), [([], [], [])]))
def ct_x260 : zCt := []
def tb_x260 : zTb := ([sm_x259], zdec, zprs)
def cm_x260 : List (Nat × List Nat) := [(4, [0])]
theorem rn_x260 : zgood tb_x260 cm_x260 1 sm_x260 ct_x260 20000 = true := by decide +kernel
theorem so_x260 {D : va_G} {l : Launch} : zSO zD0 D l pT sm_x260 := zfl1 rn_x260 (zHc so_x259 zHn) hp_T
-- X10_burning
def sm_x261 : zSm := (17, (14, 426), [.inr (.inl (some 0)), .inl ((-2147483648), 2147483647), .inl ((-2147483648), 2147483647), .inl ((-2147483648), 2147483647)], some (.inl ((-2147483648), 2147483647)), [2048, 2049, 2050, 2051, 2052, 2053, 2368, 2432, 3072, 3136], [], (([], []), [([], [], [])]))
def ct_x261 : zCt := []
def tb_x261 : zTb := ([sm_x250, sm_x260], zdec, zprs)
def cm_x261 : List (Nat × List Nat) := [(5, [0, 1])]
theorem rn_x261 : zgood tb_x261 cm_x261 2 sm_x261 ct_x261 20000 = true := by decide +kernel
theorem so_x261 {D : va_G} {l : Launch} : zSO zD0 D l pT sm_x261 := zfl1 rn_x261 (zHc so_x250 (zHc so_x260 zHn)) hp_T
-- X10_need
def sm_x262 : zSm := (45, (2, 84), [.inr (.inl (some 0)), .inl ((-2147483648), 2147483647)], some (.inl ((-1), 9999)), [], [], (([], []), [([], [], [])]))
def ct_x262 : zCt := []
def tb_x262 : zTb := ([], zdec, zprs)
def cm_x262 : List (Nat × List Nat) := []
theorem rn_x262 : zgood tb_x262 cm_x262 0 sm_x262 ct_x262 20000 = true := by decide +kernel
theorem so_x262 {D : va_G} {l : Launch} : zSO zD0 D l pT sm_x262 := zfl1 rn_x262 zHn hp_T
-- X10_least
def sm_x263 : zSm := (40, (4, 143), [.inr (.inl (some 0)), .inl ((-2147483648), 2147483647), .inl ((-2147483648), 2147483647)], some (.inl ((-1), 99)), [2368, 2432, 3072, 3136], [], (([], []), [([], [], [])]))
def ct_x263 : zCt := [(47, [(0, .inr (.inl (some 0))), (1, .inl (0, 3)), (2, .inl (0, 5)), (3, .inl ((-2147483648), 2147483647)), (4, .inl (0, 1)), (5, .inl (0, 100))], [], [.inl 1, .inr (true, 5), .inl 0], ([], [], [], []))]
def tb_x263 : zTb := ([sm_x158, sm_x162], zdec, zprs)
def cm_x263 : List (Nat × List Nat) := [(238, [0, 1])]
theorem rn_x263 : zgood tb_x263 cm_x263 2 sm_x263 ct_x263 20000 = true := by decide +kernel
theorem so_x263 {D : va_G} {l : Launch} : zSO zD0 D l pT sm_x263 := zfl1 rn_x263 (zHc so_x158 (zHc so_x162 zHn)) hp_T
-- X10_everyManHasOne
def sm_x264 : zSm := (22, (1, 64), [.inr (.inl (some 0))], some (.inl (0, 1)), [], [], (([], []), [([], [], [])]))
def ct_x264 : zCt := [(2, [(0, .inr (.inl (some 0))), (1, .inl (0, 6))], [], [.inl 1, .inr (true, 1), .inl 0], ([], [], [], []))]
def tb_x264 : zTb := ([], zdec, zprs)
def cm_x264 : List (Nat × List Nat) := []
theorem rn_x264 : zgood tb_x264 cm_x264 0 sm_x264 ct_x264 20000 = true := by decide +kernel
theorem so_x264 {D : va_G} {l : Launch} : zSO zD0 D l pT sm_x264 := zfl1 rn_x264 zHn hp_T
-- X10_isRest
def sm_x265 : zSm := (34, (6, 191), [.inr (.inl (some 0)), .inl (0, 3), .inl (0, 3), .inl (0, 5), .inl (0, 5)], some (.inl (0, 1)), [2368, 2432, 3072, 3136], [], (([], []), [([], [], [])]))
def ct_x265 : zCt := [(92, [(0, .inr (.inl (some 0))), (1, .inl (0, 3)), (2, .inl (0, 3)), (3, .inl (0, 5)), (4, .inl (0, 5)), (5, .inl (0, 1)), (6, .inl (0, 99)), (7, .inl (0, 99)), (8, .inl (0, 6))], [], [.inl 1, .inr (true, 8), .inl 0], ([], [], [], []))]
def tb_x265 : zTb := ([sm_x168, sm_x169], zdec, zprs)
def cm_x265 : List (Nat × List Nat) := [(237, [0, 1])]
theorem rn_x265 : zgood tb_x265 cm_x265 2 sm_x265 ct_x265 20000 = true := by decide +kernel
theorem so_x265 {D : va_G} {l : Launch} : zSO zD0 D l pT sm_x265 := zfl1 rn_x265 (zHc so_x168 (zHc so_x169 zHn)) hp_T
-- X10_rivals
def sm_x266 : zSm := (53, (7, 219), [.inr (.inl (some 0)), .inl ((-2147483648), 2147483647), .inl ((-2147483648), 2147483647)], some (.inl ((-2147483648), 2147483647)), [13, 2112, 2368, 2432, 3072, 3136], [], (([], []), [([], [], [])]))
def ct_x266 : zCt := [(40, [(0, .inr (.inl (some 0))), (1, .inl (0, 3)), (2, .inl (0, 3)), (3, .inl ((-2147483648), 2147483647)), (4, .inl (0, 6))], [], [.inl 1, .inr (true, 4), .inl 1000, .inl 0, .inl 0], ([], [], [], [])),
  (55, [(0, .inr (.inl (some 0))), (1, .inl (0, 3)), (2, .inl (0, 3)), (3, .inl ((-2147483648), 2147483647)), (4, .inl (0, 5)), (5, .inl (0, 6))], [], [.inl 1, .inr (true, 4), .inl 1, .inr (true, 5), .inl 0], ([], [], [], []))]
def tb_x266 : zTb := ([sm_x166, sm_x264, sm_x265], zdec, zprs)
def cm_x266 : List (Nat × List Nat) := [(22, [1]), (34, [2]), (276, [0])]
theorem rn_x266 : zgood tb_x266 cm_x266 3 sm_x266 ct_x266 20000 = true := by decide +kernel
theorem so_x266 {D : va_G} {l : Launch} : zSO zD0 D l pT sm_x266 := zfl1 rn_x266 (zHc so_x166 (zHc so_x264 (zHc so_x265 zHn))) hp_T
-- X10_helpToAll
def sm_x267 : zSm := (28, (4, 143), [.inr (.inl (some 0)), .inl (0, 3), .inl (0, 99)], some (.inl ((-2147483648), 2147483647)), [2368, 2432, 3072, 3136], [], (([], []), [([], [], [])]))
def ct_x267 : zCt := [(5, [(0, .inr (.inl (some 0))), (1, .inl (0, 3)), (2, .inl (0, 99)), (3, .inl ((-2147483648), 2147483647)), (4, .inl (0, 6))], [], [.inl 1, .inr (true, 4), .inl 0], ([], [], [], []))]
def tb_x267 : zTb := ([sm_x158, sm_x162], zdec, zprs)
def cm_x267 : List (Nat × List Nat) := [(238, [0, 1])]
theorem rn_x267 : zgood tb_x267 cm_x267 2 sm_x267 ct_x267 20000 = true := by decide +kernel
theorem so_x267 {D : va_G} {l : Launch} : zSO zD0 D l pT sm_x267 := zfl1 rn_x267 (zHc so_x158 (zHc so_x162 zHn)) hp_T
-- X10_home
def sm_x268 : zSm := (29, (5, 168), [.inr (.inl (some 0)), .inl ((-2147483648), 2147483647), .inl ((-2147483648), 2147483647)], some (.inl ((-1), 2147483647)), [2368, 2432, 3072, 3136], [], (([], []), [([], [], [])]))
def ct_x268 : zCt := [(30, [(0, .inr (.inl (some 0))), (1, .inl (0, 3)), (2, .inl (0, 1)), (3, .inl (0, 99)), (4, .inl ((-1), 2147483647)), (5, .inl (0, 100))], [], [.inl 1, .inr (true, 5), .inl 0], ([], [], [], []))]
def tb_x268 : zTb := ([sm_x267], zdec, zprs)
def cm_x268 : List (Nat × List Nat) := [(28, [0])]
theorem rn_x268 : zgood tb_x268 cm_x268 1 sm_x268 ct_x268 20000 = true := by decide +kernel
theorem so_x268 {D : va_G} {l : Launch} : zSO zD0 D l pT sm_x268 := zfl1 rn_x268 (zHc so_x267 zHn) hp_T
-- X10_trade
def sm_x269 : zSm := (64, (7, 217), [.inr (.inl (some 0)), .inl ((-2147483648), 2147483647)], some (.inl ((-1), 65)), [2368, 2432, 3072, 3136], [], (([], []), [([], [], [])]))
def ct_x269 : zCt := [(26, [(0, .inr (.inl (some 0))), (1, .inl ((-2147483648), 2147483647)), (2, .inl (0, 63)), (3, .inl (0, 65)), (4, .inl ((-1), 3)), (5, .inl ((-1), 3)), (6, .inl (0, 4))], [], [.inl 1, .inr (true, 6), .inl 1000, .inl 0, .inl 0], ([], [], [], [])),
  (44, [(0, .inr (.inl (some 0))), (1, .inl ((-2147483648), 2147483647)), (2, .inl (0, 63)), (3, .inl (0, 65)), (4, .inl ((-1), 3)), (5, .inl ((-1), 3)), (6, .inl (0, 3)), (7, .inl (1, 4))], [], [.inl 1, .inr (true, 6), .inl 1, .inr (true, 7), .inl 0], ([], [], [], []))]
def tb_x269 : zTb := ([sm_x166, sm_x168, sm_x169, sm_x171, sm_x172], zdec, zprs)
def cm_x269 : List (Nat × List Nat) := [(228, [3, 4]), (237, [1, 2]), (276, [0])]
theorem rn_x269 : zgood tb_x269 cm_x269 5 sm_x269 ct_x269 20000 = true := by decide +kernel
theorem so_x269 {D : va_G} {l : Launch} : zSO zD0 D l pT sm_x269 := zfl1 rn_x269 (zHc so_x166 (zHc so_x168 (zHc so_x169 (zHc so_x171 (zHc so_x172 zHn))))) hp_T
