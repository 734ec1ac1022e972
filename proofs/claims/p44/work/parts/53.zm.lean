-- X11_bitsOf
def sm_m047 : zSm := (82, (1, 64), [.inl (0, 255)], some (.inl ((-2147483648), 2147483647)), [], [], (([], []), [([], [], [])]))
def ct_m047 : zCt := [(4, [(0, .inl (0, 255)), (1, .inl ((-2147483648), 2147483647)), (2, .inl (0, 255))], [], [.inl 1, .inr (false, 2), .inl 0], ([], [], [], []))]
def tb_m047 : zTb := ([], zdec, zprs)
def cm_m047 : List (Nat × List Nat) := []
theorem rn_m047 : zgood tb_m047 cm_m047 0 sm_m047 ct_m047 20000 = true := by decide +kernel
theorem so_m047 {D : va_G} {l : Launch} : zSO zD0 D l pN sm_m047 := zfl1 rn_m047 zHn (hp_pM (by decide))
-- X11_wayTo
def sm_m048 : zSm := (197, (2, 85), [.inr (.inl (some 56)), .inl ((-2147483648), 2147483647), .inl (1, 63)], some (.inl ((-2147483648), 2147483647)), [], [], (([], []), [([], [], [])]))
def ct_m048 : zCt := [(10, [(0, .inr (.inl (some 56))), (1, .inl ((-2147483648), 2147483647)), (2, .inl (1, 63)), (3, .inl ((-2147483648), 100000)), (4, .inl ((-1), 2147483647)), (5, .inl (0, 6))], [], [.inl 1, .inr (true, 5), .inl 0], ([], [], [], []))]
def tb_m048 : zTb := ([], zdec, zprs)
def cm_m048 : List (Nat × List Nat) := []
theorem rn_m048 : zgood tb_m048 cm_m048 0 sm_m048 ct_m048 20000 = true := by decide +kernel
theorem so_m048 {D : va_G} {l : Launch} : zSO zD0 D l pN sm_m048 := zfl1 rn_m048 zHn (hp_pM (by decide))
-- X11_twelve
def sm_m049 : zSm := (191, (3, 111), [.inr (.inl (some 56)), .inl ((-2147483648), 2147483647), .inl ((-2147483648), 2147483647), .inl ((-2147483648), 2147483647)], some (.inl ((-2147483648), 2147483647)), [], [], (([], []), [([], [], [])]))
def ct_m049 : zCt := [(36, [(0, .inr (.inl (some 56))), (1, .inl (0, 3)), (2, .inl (0, 999)), (3, .inl (0, 1)), (4, .inl (0, 63)), (5, .inl (1, 64))], [], [.inl 1, .inr (true, 5), .inl 0], ([], [], [], []))]
def tb_m049 : zTb := ([sm_m047, sm_m048], zdec, zprs)
def cm_m049 : List (Nat × List Nat) := [(82, [0]), (197, [1])]
theorem rn_m049 : zgood tb_m049 cm_m049 2 sm_m049 ct_m049 20000 = true := by decide +kernel
theorem so_m049 {D : va_G} {l : Launch} : zSO zD0 D l pN sm_m049 := zfl1 rn_m049 (zHc so_m047 (zHc so_m048 zHn)) (hp_pM (by decide))
-- X11_jealous
def sm_m050 : zSm := (141, (7, 198), [.inr (.inl (some 56)), .inl ((-2147483648), 2147483647)], some (.inl ((-2147483648), 2147483647)), [3624, 3625, 3626, 5184], [], (([], []), [([], [], [])]))
def ct_m050 : zCt := [(21, [(0, .inr (.inl (some 56))), (1, .inl (0, 2)), (2, .inl ((-2147483648), 2147483647)), (3, .inl ((-1), 5)), (4, .inl ((-1), 3)), (5, .inl (0, 6))], [], [.inl 1, .inr (true, 5), .inl 1000, .inl 0, .inl 0], ([], [], [], [])),
  (33, [(0, .inr (.inl (some 56))), (1, .inl (0, 2)), (2, .inl ((-2147483648), 2147483647)), (3, .inl ((-1), 5)), (4, .inl ((-1), 3)), (5, .inl (0, 5)), (6, .inl (0, 4))], [], [.inl 1, .inr (true, 5), .inl 1, .inr (true, 6), .inl 0], ([], [], [], []))]
def tb_m050 : zTb := ([sm_m014, sm_m017], zdec, zprs)
def cm_m050 : List (Nat × List Nat) := [(85, [0]), (117, [1])]
theorem rn_m050 : zgood tb_m050 cm_m050 2 sm_m050 ct_m050 20000 = true := by decide +kernel
theorem so_m050 {D : va_G} {l : Launch} : zSO zD0 D l pN sm_m050 := zfl1 rn_m050 (zHc so_m014 (zHc so_m017 zHn)) (hp_pM (by decide))
-- X11_sleptBy
def sm_m051 : zSm := (182, (9, 241), [.inr (.inl (some 56)), .inl (0, 5), .inl (0, 255), .inl (0, 8)], some (.inl ((-2147483648), 2147483647)), [3624, 3625, 3626, 5184, 5248, 5312], [], (([], []), [([], [], [])]))
def ct_m051 : zCt := [(10, [(0, .inr (.inl (some 56))), (1, .inl (0, 5)), (2, .inl (0, 255)), (3, .inl (0, 8)), (4, .inl ((-2147483648), 2147483647)), (5, .inl (0, 8))], [], [.inl 1, .inr (true, 5), .inl 0], ([], [], [], []))]
def tb_m051 : zTb := ([sm_m025, sm_m037, sm_m038], zdec, zprs)
def cm_m051 : List (Nat × List Nat) := [(86, [1]), (112, [0]), (143, [2])]
theorem rn_m051 : zgood tb_m051 cm_m051 3 sm_m051 ct_m051 20000 = true := by decide +kernel
theorem so_m051 {D : va_G} {l : Launch} : zSO zD0 D l pN sm_m051 := zfl1 rn_m051 (zHc so_m025 (zHc so_m037 (zHc so_m038 zHn))) (hp_pM (by decide))
-- X11_burning
def sm_m052 : zSm := (87, (10, 266), [.inr (.inl (some 56)), .inl ((-2147483648), 2147483647), .inl ((-2147483648), 2147483647), .inl ((-2147483648), 2147483647)], some (.inl ((-2147483648), 2147483647)), [3624, 3625, 3626, 5184, 5248, 5312], [], (([], []), [([], [], [])]))
def ct_m052 : zCt := [(44, [(0, .inr (.inl (some 56))), (1, .inl (0, 5)), (2, .inl (0, 8)), (3, .inl (0, 1)), (4, .inl (0, 255)), (5, .inl ((-2147483648), 2147483647)), (6, .inl (1, 256))], [], [.inl 1, .inr (true, 6), .inl 0], ([], [], [], []))]
def tb_m052 : zTb := ([sm_m047, sm_m051], zdec, zprs)
def cm_m052 : List (Nat × List Nat) := [(82, [0]), (182, [1])]
theorem rn_m052 : zgood tb_m052 cm_m052 2 sm_m052 ct_m052 20000 = true := by decide +kernel
theorem so_m052 {D : va_G} {l : Launch} : zSO zD0 D l pN sm_m052 := zfl1 rn_m052 (zHc so_m047 (zHc so_m051 zHn)) (hp_pM (by decide))
-- X11_need
def sm_m053 : zSm := (158, (2, 86), [.inr (.inl (some 56)), .inl ((-2147483648), 2147483647)], some (.inl ((-2147483648), 2147483647)), [], [], (([], []), [([], [], [])]))
def ct_m053 : zCt := [(16, [(0, .inr (.inl (some 56))), (1, .inl (0, 60)), (2, .inl ((-2147483648), 2147483647)), (3, .inl (0, 6))], [], [.inl 1, .inr (true, 3), .inl 0], ([], [], [], []))]
def tb_m053 : zTb := ([], zdec, zprs)
def cm_m053 : List (Nat × List Nat) := []
theorem rn_m053 : zgood tb_m053 cm_m053 0 sm_m053 ct_m053 20000 = true := by decide +kernel
theorem so_m053 {D : va_G} {l : Launch} : zSO zD0 D l pN sm_m053 := zfl1 rn_m053 zHn (hp_pM (by decide))
-- X11_least
def sm_m054 : zSm := (149, (5, 153), [.inr (.inl (some 56)), .inl ((-2147483648), 2147483647), .inl ((-2147483648), 2147483647)], some (.inl ((-1), 99)), [3624, 3625, 3626, 5184], [], (([], []), [([], [], [])]))
def ct_m054 : zCt := [(20, [(0, .inr (.inl (some 56))), (1, .inl (0, 3)), (2, .inl (0, 5)), (3, .inl (0, 100))], [], [.inl 1, .inr (true, 3), .inl 0], ([], [], [], []))]
def tb_m054 : zTb := ([sm_m016], zdec, zprs)
def cm_m054 : List (Nat × List Nat) := [(116, [0])]
theorem rn_m054 : zgood tb_m054 cm_m054 1 sm_m054 ct_m054 20000 = true := by decide +kernel
theorem so_m054 {D : va_G} {l : Launch} : zSO zD0 D l pN sm_m054 := zfl1 rn_m054 (zHc so_m016 zHn) (hp_pM (by decide))
-- X11_gainOf
def sm_m055 : zSm := (108, (6, 175), [.inr (.inl (some 56)), .inl (0, 3), .inl (0, 5), .inl (0, 3), .inl (0, 5), .inl (0, 1)], some (.inl (0, 99)), [3624, 3625, 3626, 5184], [], (([], []), [([], [], [])]))
def ct_m055 : zCt := []
def tb_m055 : zTb := ([sm_m017], zdec, zprs)
def cm_m055 : List (Nat × List Nat) := [(117, [0])]
theorem rn_m055 : zgood tb_m055 cm_m055 1 sm_m055 ct_m055 20000 = true := by decide +kernel
theorem so_m055 {D : va_G} {l : Launch} : zSO zD0 D l pN sm_m055 := zfl1 rn_m055 (zHc so_m017 zHn) (hp_pM (by decide))
-- X11_isRest
def sm_m056 : zSm := (136, (7, 201), [.inr (.inl (some 56)), .inl (0, 3), .inl (0, 3), .inl (0, 5), .inl (0, 5)], some (.inl (0, 1)), [3624, 3625, 3626, 5184], [], (([], []), [([], [], [])]))
def ct_m056 : zCt := [(3, [(0, .inr (.inl (some 56))), (1, .inl (0, 3)), (2, .inl (0, 3)), (3, .inl (0, 5)), (4, .inl (0, 5)), (5, .inl (0, 6))], [], [.inl 1, .inr (true, 5), .inl 0], ([], [], [], []))]
def tb_m056 : zTb := ([sm_m014, sm_m055], zdec, zprs)
def cm_m056 : List (Nat × List Nat) := [(85, [0]), (108, [1])]
theorem rn_m056 : zgood tb_m056 cm_m056 2 sm_m056 ct_m056 20000 = true := by decide +kernel
theorem so_m056 {D : va_G} {l : Launch} : zSO zD0 D l pN sm_m056 := zfl1 rn_m056 (zHc so_m014 (zHc so_m055 zHn)) (hp_pM (by decide))
-- X11_rivals
def sm_m057 : zSm := (175, (8, 226), [.inr (.inl (some 56)), .inl ((-2147483648), 2147483647), .inl ((-2147483648), 2147483647)], some (.inl ((-2147483648), 2147483647)), [3624, 3625, 3626, 3633, 5184, 5440], [], (([], []), [([], [], [])]))
def ct_m057 : zCt := [(10, [(0, .inr (.inl (some 56))), (1, .inl ((-2147483648), 2147483647)), (2, .inl ((-2147483648), 2147483647)), (3, .inl ((-2147483648), 2147483647)), (4, .inl (0, 6))], [], [.inl 2, .inr (true, 4), .inl 0], ([], [], [], [])),
  (99, [(0, .inr (.inl (some 56))), (1, .inl (0, 3)), (2, .inl (0, 3)), (3, .inl ((-2147483648), 2147483647)), (4, .inl ((-2147483648), 2147483647)), (5, .inl (0, 36))], [], [.inl 1, .inr (true, 5), .inl 0], ([], [], [], []))]
def tb_m057 : zTb := ([sm_m014, sm_m056], zdec, zprs)
def cm_m057 : List (Nat × List Nat) := [(85, [0]), (136, [1])]
theorem rn_m057 : zgood tb_m057 cm_m057 2 sm_m057 ct_m057 20000 = true := by decide +kernel
theorem so_m057 {D : va_G} {l : Launch} : zSO zD0 D l pN sm_m057 := zfl1 rn_m057 (zHc so_m014 (zHc so_m056 zHn)) (hp_pM (by decide))
-- X11_home
def sm_m058 : zSm := (119, (5, 153), [.inr (.inl (some 56)), .inl ((-2147483648), 2147483647), .inl ((-2147483648), 2147483647)], some (.inl ((-1), 2147483647)), [3624, 3625, 3626, 5184], [], (([], []), [([], [], [])]))
def ct_m058 : zCt := [(27, [(0, .inr (.inl (some 56))), (1, .inl (0, 3)), (2, .inl (0, 1)), (3, .inl ((-1), 99)), (4, .inl ((-1), 2147483647)), (5, .inl (0, 100))], [], [.inl 1, .inr (true, 5), .inl 1000, .inl 0, .inl 0], ([], [], [], [])),
  (40, [(0, .inr (.inl (some 56))), (1, .inl (0, 3)), (2, .inl (0, 1)), (3, .inl ((-1), 99)), (4, .inl ((-1), 2147483647)), (5, .inl (0, 99)), (6, .inl ((-2147483648), 2147483647)), (7, .inl (0, 6))], [], [.inl 1, .inr (true, 5), .inl 1, .inr (true, 7), .inl 0], ([], [], [], []))]
def tb_m058 : zTb := ([sm_m016], zdec, zprs)
def cm_m058 : List (Nat × List Nat) := [(116, [0])]
theorem rn_m058 : zgood tb_m058 cm_m058 1 sm_m058 ct_m058 20000 = true := by decide +kernel
theorem so_m058 {D : va_G} {l : Launch} : zSO zD0 D l pN sm_m058 := zfl1 rn_m058 (zHc so_m016 zHn) (hp_pM (by decide))
-- X11_trade
def sm_m059 : zSm := (189, (9, 240), [.inr (.inl (some 56)), .inl ((-2147483648), 2147483647)], some (.inl ((-2147483648), 2147483647)), [3624, 3625, 3626, 5184, 5248, 5312], [], (([], []), [([], [], [])]))
def ct_m059 : zCt := [(24, [(0, .inr (.inl (some 56))), (1, .inl (0, 2)), (2, .inl ((-1), 15)), (3, .inl ((-2147483648), 2147483647)), (4, .inl (0, 20))], [], [.inl 1, .inr (true, 4), .inl 0], ([], [], [], []))]
def tb_m059 : zTb := ([sm_m023, sm_m037, sm_m038, sm_m047], zdec, zprs)
def cm_m059 : List (Nat × List Nat) := [(77, [0]), (82, [3]), (86, [1]), (143, [2])]
theorem rn_m059 : zgood tb_m059 cm_m059 4 sm_m059 ct_m059 20000 = true := by decide +kernel
theorem so_m059 {D : va_G} {l : Launch} : zSO zD0 D l pN sm_m059 := zfl1 rn_m059 (zHc so_m023 (zHc so_m037 (zHc so_m038 (zHc so_m047 zHn)))) (hp_pM (by decide))
-- X11_idle
def sm_m060 : zSm := (121, (2, 84), [.inr (.inl (some 56))], some (.inl (0, 63)), [], [], (([], []), [([], [], [])]))
def ct_m060 : zCt := [(4, [(0, .inr (.inl (some 56))), (1, .inl (0, 63)), (2, .inl (0, 4))], [], [.inl 1, .inr (true, 2), .inl 0], ([], [], [], []))]
def tb_m060 : zTb := ([], zdec, zprs)
def cm_m060 : List (Nat × List Nat) := []
theorem rn_m060 : zgood tb_m060 cm_m060 0 sm_m060 ct_m060 20000 = true := by decide +kernel
theorem so_m060 {D : va_G} {l : Launch} : zSO zD0 D l pN sm_m060 := zfl1 rn_m060 zHn (hp_pM (by decide))
-- X11_dark
def sm_m061 : zSm := (92, (2, 84), [.inr (.inl (some 56))], some (.inl (0, 63)), [], [], (([], []), [([], [], [])]))
def ct_m061 : zCt := [(4, [(0, .inr (.inl (some 56))), (1, .inl (0, 63)), (2, .inl (0, 6))], [], [.inl 1, .inr (true, 2), .inl 0], ([], [], [], []))]
def tb_m061 : zTb := ([], zdec, zprs)
def cm_m061 : List (Nat × List Nat) := []
theorem rn_m061 : zgood tb_m061 cm_m061 0 sm_m061 ct_m061 20000 = true := by decide +kernel
theorem so_m061 {D : va_G} {l : Launch} : zSO zD0 D l pN sm_m061 := zfl1 rn_m061 zHn (hp_pM (by decide))
-- X11_glow
def sm_m062 : zSm := (109, (8, 218), [.inr (.inl (some 56))], some (.inl (0, 63)), [3624, 3625, 3626, 5184, 5248, 5312], [], (([], []), [([], [], [])]))
def ct_m062 : zCt := [(4, [(0, .inr (.inl (some 56))), (1, .inl (0, 63)), (2, .inl (0, 6))], [], [.inl 1, .inr (true, 2), .inl 0], ([], [], [], []))]
def tb_m062 : zTb := ([sm_m022, sm_m037, sm_m038], zdec, zprs)
def cm_m062 : List (Nat × List Nat) := [(86, [1]), (96, [0]), (143, [2])]
theorem rn_m062 : zgood tb_m062 cm_m062 3 sm_m062 ct_m062 20000 = true := by decide +kernel
theorem so_m062 {D : va_G} {l : Launch} : zSO zD0 D l pN sm_m062 := zfl1 rn_m062 (zHc so_m022 (zHc so_m037 (zHc so_m038 zHn))) (hp_pM (by decide))
-- X11_blest
def sm_m063 : zSm := (83, (6, 175), [.inr (.inl (some 56))], some (.inl ((-1), 5)), [3624, 3625, 3626, 5184], [], (([], []), [([], [], [])]))
def ct_m063 : zCt := [(6, [(0, .inr (.inl (some 56))), (1, .inl ((-1), 5)), (2, .inl ((-1), 99)), (3, .inl (0, 6))], [], [.inl 1, .inr (true, 3), .inl 0], ([], [], [], []))]
def tb_m063 : zTb := ([sm_m014, sm_m017], zdec, zprs)
def cm_m063 : List (Nat × List Nat) := [(85, [0]), (117, [1])]
theorem rn_m063 : zgood tb_m063 cm_m063 2 sm_m063 ct_m063 20000 = true := by decide +kernel
theorem so_m063 {D : va_G} {l : Launch} : zSO zD0 D l pN sm_m063 := zfl1 rn_m063 (zHc so_m014 (zHc so_m017 zHn)) (hp_pM (by decide))
-- X11_timid
def sm_m064 : zSm := (188, (2, 84), [.inr (.inl (some 56))], some (.inl ((-1), 5)), [], [], (([], []), [([], [], [])]))
def ct_m064 : zCt := [(4, [(0, .inr (.inl (some 56))), (1, .inl ((-1), 5)), (2, .inl (0, 6))], [], [.inl 1, .inr (true, 2), .inl 0], ([], [], [], []))]
def tb_m064 : zTb := ([], zdec, zprs)
def cm_m064 : List (Nat × List Nat) := []
theorem rn_m064 : zgood tb_m064 cm_m064 0 sm_m064 ct_m064 20000 = true := by decide +kernel
theorem so_m064 {D : va_G} {l : Launch} : zSO zD0 D l pN sm_m064 := zfl1 rn_m064 zHn (hp_pM (by decide))
-- X11_nearest
def sm_m065 : zSm := (157, (3, 107), [.inr (.inl (some 56)), .inl ((-2147483648), 2147483647)], some (.inl ((-1), 5)), [], [], (([], []), [([], [], [])]))
def ct_m065 : zCt := [(14, [(0, .inr (.inl (some 56))), (1, .inl (0, 3)), (2, .inl ((-1), 5)), (3, .inl (0, 6))], [], [.inl 1, .inr (true, 3), .inl 0], ([], [], [], []))]
def tb_m065 : zTb := ([], zdec, zprs)
def cm_m065 : List (Nat × List Nat) := []
theorem rn_m065 : zgood tb_m065 cm_m065 0 sm_m065 ct_m065 20000 = true := by decide +kernel
theorem so_m065 {D : va_G} {l : Launch} : zSO zD0 D l pN sm_m065 := zfl1 rn_m065 zHn (hp_pM (by decide))
-- X11_between
def sm_m066 : zSm := (80, (2, 86), [.inr (.inl (some 56)), .inl ((-2147483648), 2147483647), .inl ((-2147483648), 2147483647)], some (.inl ((-1), 63)), [], [], (([], []), [([], [], [])]))
def ct_m066 : zCt := [(27, [(0, .inr (.inl (some 56))), (1, .inl (0, 99)), (2, .inl (0, 99)), (3, .inl (0, 63)), (4, .inl (0, 6))], [], [.inl 1, .inr (true, 4), .inl 0], ([], [], [], []))]
def tb_m066 : zTb := ([], zdec, zprs)
def cm_m066 : List (Nat × List Nat) := []
theorem rn_m066 : zgood tb_m066 cm_m066 0 sm_m066 ct_m066 20000 = true := by decide +kernel
theorem so_m066 {D : va_G} {l : Launch} : zSO zD0 D l pN sm_m066 := zfl1 rn_m066 zHn (hp_pM (by decide))
-- X11_law
def sm_m067 : zSm := (146, (9, 240), [.inr (.inl (some 56)), .inl ((-2147483648), 2147483647)], some (.inl ((-2147483648), 2147483647)), [3624, 3625, 3626, 5184, 5248, 5312], [], (([], []), [([], [], [])]))
def ct_m067 : zCt := [(18, [(0, .inr (.inl (some 56))), (1, .inl (0, 99)), (2, .inl (0, 6))], [], [.inl 1, .inr (true, 2), .inl 0], ([], [], [], []))]
def tb_m067 : zTb := ([sm_m023, sm_m037, sm_m038, sm_m047], zdec, zprs)
def cm_m067 : List (Nat × List Nat) := [(77, [0]), (82, [3]), (86, [1]), (143, [2])]
theorem rn_m067 : zgood tb_m067 cm_m067 4 sm_m067 ct_m067 20000 = true := by decide +kernel
theorem so_m067 {D : va_G} {l : Launch} : zSO zD0 D l pN sm_m067 := zfl1 rn_m067 (zHc so_m023 (zHc so_m037 (zHc so_m038 (zHc so_m047 zHn)))) (hp_pM (by decide))
-- X11_divisor
def sm_m068 : zSm := (94, (1, 64), [.inl (1, 100000000), .inl ((-2147483648), 2147483647)], some (.inl (1, 2147483647)), [], [], (([], []), [([], [], [])]))
def ct_m068 : zCt := [(4, [(0, .inl (1, 100000000)), (1, .inl ((-2147483648), 2147483647)), (2, .inl (1, 2147483647)), (3, .inl ((-2147483648), 2147483647))], [], [.inl 1, .inr (false, 3), .inl 0], ([], [], [], []))]
def tb_m068 : zTb := ([], zdec, zprs)
def cm_m068 : List (Nat × List Nat) := []
theorem rn_m068 : zgood tb_m068 cm_m068 0 sm_m068 ct_m068 20000 = true := by decide +kernel
theorem so_m068 {D : va_G} {l : Launch} : zSO zD0 D l pN sm_m068 := zfl1 rn_m068 zHn (hp_pM (by decide))
-- X11_odds
def sm_m069 : zSm := (161, (2, 88), [.inr (.inl (some 56)), .inl ((-2147483648), 2147483647), .inl ((-2147483648), 2147483647)], some (.inl ((-2147483648), 2147483647)), [], [], (([], []), [([], [], [])]))
def ct_m069 : zCt := []
def tb_m069 : zTb := ([sm_m068], zdec, zprs)
def cm_m069 : List (Nat × List Nat) := [(94, [0])]
theorem rn_m069 : zgood tb_m069 cm_m069 1 sm_m069 ct_m069 20000 = true := by decide +kernel
theorem so_m069 {D : va_G} {l : Launch} : zSO zD0 D l pN sm_m069 := zfl1 rn_m069 (zHc so_m068 zHn) (hp_pM (by decide))
-- X11_lies
def sm_m070 : zSm := (150, (2, 86), [.inr (.inl (some 56)), .inl ((-2147483648), 2147483647)], some (.inl ((-2147483648), 2147483647)), [], [], (([], []), [([], [], [])]))
def ct_m070 : zCt := []
def tb_m070 : zTb := ([], zdec, zprs)
def cm_m070 : List (Nat × List Nat) := []
theorem rn_m070 : zgood tb_m070 cm_m070 0 sm_m070 ct_m070 20000 = true := by decide +kernel
theorem so_m070 {D : va_G} {l : Launch} : zSO zD0 D l pN sm_m070 := zfl1 rn_m070 zHn (hp_pM (by decide))
-- X11_seen
def sm_m071 : zSm := (177, (2, 86), [.inr (.inl (some 56)), .inl ((-2147483648), 2147483647), .inl (0, 1)], some (.inl ((-1), 30)), [3641, 5696, 5760, 5824, 5888], [], (([], []), [([], [], [])]))
def ct_m071 : zCt := []
def tb_m071 : zTb := ([], zdec, zprs)
def cm_m071 : List (Nat × List Nat) := []
theorem rn_m071 : zgood tb_m071 cm_m071 0 sm_m071 ct_m071 20000 = true := by decide +kernel
theorem so_m071 {D : va_G} {l : Launch} : zSO zD0 D l pN sm_m071 := zfl1 rn_m071 zHn (hp_pM (by decide))
-- X11_untell
def sm_m072 : zSm := (195, (2, 86), [.inr (.inl (some 56)), .inl ((-2147483648), 2147483647)], some (.inl (0, 1)), [5888], [], (([], []), [([], [], [])]))
def ct_m072 : zCt := []
def tb_m072 : zTb := ([], zdec, zprs)
def cm_m072 : List (Nat × List Nat) := []
theorem rn_m072 : zgood tb_m072 cm_m072 0 sm_m072 ct_m072 20000 = true := by decide +kernel
theorem so_m072 {D : va_G} {l : Launch} : zSO zD0 D l pN sm_m072 := zfl1 rn_m072 zHn (hp_pM (by decide))
-- X11_later
def sm_m073 : zSm := (145, (2, 86), [.inr (.inl (some 56)), .inl ((-2147483648), 2147483647)], some (.inl ((-1), 100000)), [3642], [], (([], []), [([], [], [])]))
def ct_m073 : zCt := []
def tb_m073 : zTb := ([], zdec, zprs)
def cm_m073 : List (Nat × List Nat) := []
theorem rn_m073 : zgood tb_m073 cm_m073 0 sm_m073 ct_m073 20000 = true := by decide +kernel
theorem so_m073 {D : va_G} {l : Launch} : zSO zD0 D l pN sm_m073 := zfl1 rn_m073 zHn (hp_pM (by decide))
-- X11_doesFit
def sm_m074 : zSm := (95, (1, 64), [.inr (.inl (some 56)), .inl (0, 40), .inl ((-2147483648), 2147483647)], some (.inl (0, 1)), [], [], (([], []), [([], [], [])]))
def ct_m074 : zCt := [(2, [(0, .inr (.inl (some 56))), (1, .inl (0, 40)), (2, .inl ((-2147483648), 2147483647)), (3, .inl (0, 30))], [], [.inl 1, .inr (true, 3), .inl 0], ([], [], [], []))]
def tb_m074 : zTb := ([], zdec, zprs)
def cm_m074 : List (Nat × List Nat) := []
theorem rn_m074 : zgood tb_m074 cm_m074 0 sm_m074 ct_m074 20000 = true := by decide +kernel
theorem so_m074 {D : va_G} {l : Launch} : zSO zD0 D l pN sm_m074 := zfl1 rn_m074 zHn (hp_pM (by decide))
-- X11_laySlept
def sm_m075 : zSm := (147, (9, 241), [.inr (.inl (some 56))], none, [3624, 3625, 3626, 5184, 5248, 5312, 5632], [], (([(42, 56, .inl 34), (43, 59, .inr 42)], [(43, 1, 6)]), [([], [], [])]))
def ct_m075 : zCt := [(13, [(0, .inr (.inl (some 56))), (1, .inl (0, 5)), (2, .inl (0, 41))], [], [.inl 1, .inr (true, 2), .inl 1000, .inl 0, .inl 0], ([], [], [], [])),
  (41, [(0, .inr (.inl (some 56))), (1, .inl (0, 5)), (2, .inl (0, 40)), (3, .inl (0, 12))], [], [.inl 1, .inr (true, 2), .inl 1, .inr (true, 3), .inl 0], ([], [], [], []))]
def tb_m075 : zTb := ([sm_m010, sm_m025, sm_m037, sm_m038], zdec, zprs)
def cm_m075 : List (Nat × List Nat) := [(86, [2]), (112, [1]), (143, [3]), (148, [0])]
theorem rn_m075 : zgood tb_m075 cm_m075 4 sm_m075 ct_m075 20000 = true := by decide +kernel
theorem so_m075 {D : va_G} {l : Launch} : zSO zD0 D l pN sm_m075 := zfl1 rn_m075 (zHc so_m010 (zHc so_m025 (zHc so_m037 (zHc so_m038 zHn)))) (hp_pM (by decide))
-- X11_fits
def sm_m076 : zSm := (105, (10, 264), [.inr (.inl (some 56)), .inl ((-2147483648), 2147483647)], some (.inl ((-2147483648), 2147483647)), [3624, 3625, 3626, 5184, 5248, 5312, 5632], [], (([], []), [([], [], [])]))
def ct_m076 : zCt := [(17, [(0, .inr (.inl (some 56))), (1, .inl ((-2147483648), 2147483647)), (2, .inl ((-2147483648), 2147483647)), (3, .inl (0, 41))], [], [.inl 1, .inr (true, 3), .inl 0], ([], [], [], []))]
def tb_m076 : zTb := ([sm_m074, sm_m075], zdec, zprs)
def cm_m076 : List (Nat × List Nat) := [(95, [0]), (147, [1])]
theorem rn_m076 : zgood tb_m076 cm_m076 2 sm_m076 ct_m076 20000 = true := by decide +kernel
theorem so_m076 {D : va_G} {l : Launch} : zSO zD0 D l pN sm_m076 := zfl1 rn_m076 (zHc so_m074 (zHc so_m075 zHn)) (hp_pM (by decide))
-- X11_mostOn
def sm_m077 : zSm := (155, (2, 87), [.inr (.inl (some 56)), .inl (0, 11), .inl ((-2147483648), 2147483647)], some (.inl ((-2147483648), 2147483647)), [], [], (([], []), [([], [], [])]))
def ct_m077 : zCt := [(8, [(0, .inr (.inl (some 56))), (1, .inl (0, 11)), (2, .inl ((-2147483648), 2147483647)), (3, .inl ((-2147483648), 2147483647)), (4, .inl ((-2147483648), 2147483647)), (5, .inl (0, 41))], [], [.inl 1, .inr (true, 5), .inl 0], ([], [], [], []))]
def tb_m077 : zTb := ([sm_m074], zdec, zprs)
def cm_m077 : List (Nat × List Nat) := [(95, [0])]
theorem rn_m077 : zgood tb_m077 cm_m077 1 sm_m077 ct_m077 20000 = true := by decide +kernel
theorem so_m077 {D : va_G} {l : Launch} : zSO zD0 D l pN sm_m077 := zfl1 rn_m077 (zHc so_m074 zHn) (hp_pM (by decide))
-- X11_ask
def sm_m078 : zSm := (74, (11, 287), [.inr (.inl (some 56)), .inl ((-2147483648), 2147483647), .inl ((-2147483648), 2147483647)], some (.inl ((-2147483648), 2147483647)), [3624, 3625, 3626, 5184, 5248, 5312, 5632], [], (([], []), [([], [], [])]))
def ct_m078 : zCt := [(24, [(0, .inr (.inl (some 56))), (1, .inl (0, 1)), (2, .inl ((-2147483648), 2147483647)), (3, .inl (0, 11)), (4, .inl (1, 12))], [], [.inl 1, .inr (true, 4), .inl 0], ([], [], [], []))]
def tb_m078 : zTb := ([sm_m076, sm_m077], zdec, zprs)
def cm_m078 : List (Nat × List Nat) := [(105, [0]), (155, [1])]
theorem rn_m078 : zgood tb_m078 cm_m078 2 sm_m078 ct_m078 20000 = true := by decide +kernel
theorem so_m078 {D : va_G} {l : Launch} : zSO zD0 D l pN sm_m078 := zfl1 rn_m078 (zHc so_m076 (zHc so_m077 zHn)) (hp_pM (by decide))
-- X11_image
def sm_m079 : zSm := (122, (2, 86), [.inr (.inl (some 56)), .inl ((-2147483648), 2147483647)], some (.inl ((-2147483648), 2147483647)), [5952, 6016], [], (([], []), [([], [], [])]))
def ct_m079 : zCt := []
def tb_m079 : zTb := ([], zdec, zprs)
def cm_m079 : List (Nat × List Nat) := []
theorem rn_m079 : zgood tb_m079 cm_m079 0 sm_m079 ct_m079 20000 = true := by decide +kernel
theorem so_m079 {D : va_G} {l : Launch} : zSO zD0 D l pN sm_m079 := zfl1 rn_m079 zHn (hp_pM (by decide))
-- X11_back
def sm_m080 : zSm := (78, (2, 86), [.inr (.inl (some 56)), .inl ((-2147483648), 2147483647)], some (.inl ((-2147483648), 2147483647)), [3630, 3631, 5248], [], (([], []), [([], [], [])]))
def ct_m080 : zCt := []
def tb_m080 : zTb := ([], zdec, zprs)
def cm_m080 : List (Nat × List Nat) := []
theorem rn_m080 : zgood tb_m080 cm_m080 0 sm_m080 ct_m080 20000 = true := by decide +kernel
theorem so_m080 {D : va_G} {l : Launch} : zSO zD0 D l pN sm_m080 := zfl1 rn_m080 zHn (hp_pM (by decide))
-- X11_litNow
def sm_m081 : zSm := (152, (2, 84), [.inr (.inl (some 56))], some (.inl ((-2147483648), 2147483647)), [], [], (([], []), [([], [], [])]))
def ct_m081 : zCt := [(4, [(0, .inr (.inl (some 56))), (1, .inl ((-2147483648), 2147483647)), (2, .inl (0, 6))], [], [.inl 1, .inr (true, 2), .inl 0], ([], [], [], []))]
def tb_m081 : zTb := ([], zdec, zprs)
def cm_m081 : List (Nat × List Nat) := []
theorem rn_m081 : zgood tb_m081 cm_m081 0 sm_m081 ct_m081 20000 = true := by decide +kernel
theorem so_m081 {D : va_G} {l : Launch} : zSO zD0 D l pN sm_m081 := zfl1 rn_m081 zHn (hp_pM (by decide))
-- X11_about
def sm_m082 : zSm := (70, (3, 106), [.inr (.inl (some 56)), .inl ((-2147483648), 2147483647)], some (.inl ((-2147483648), 2147483647)), [], [], (([], []), [([], [], [])]))
def ct_m082 : zCt := []
def tb_m082 : zTb := ([sm_m081], zdec, zprs)
def cm_m082 : List (Nat × List Nat) := [(152, [0])]
theorem rn_m082 : zgood tb_m082 cm_m082 1 sm_m082 ct_m082 20000 = true := by decide +kernel
theorem so_m082 {D : va_G} {l : Launch} : zSO zD0 D l pN sm_m082 := zfl1 rn_m082 (zHc so_m081 zHn) (hp_pM (by decide))
