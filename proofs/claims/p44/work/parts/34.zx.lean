-- X10_feed
def sm_x000 : zSm := (24, (2, 86), [.inr (.inl (some 0)), .inl ((-2147483648), 2147483647), .inl ((-2147483648), 2147483647), .inl ((-2147483648), 2147483647), .inl ((-2147483648), 2147483647), .inl ((-2147483648), 2147483647)], some (.inl ((-1), 1600)), [64, 128], [], (([], []), [([], [], [])]))
def ct_x000 : zCt := []
def tb_x000 : zTb := ([], zdec, zprs)
def cm_x000 : List (Nat × List Nat) := []
theorem rn_x000 : zgood tb_x000 cm_x000 0 sm_x000 ct_x000 20000 = true := by decide +kernel
theorem so_x000 {D : va_G} {l : Launch} : zSO zD0 D l pT sm_x000 := zfl1 rn_x000 zHn hp_T
-- X10_end
def sm_x001 : zSm := (21, (1, 64), [.inr (.inl (some 0)), .inl ((-2147483648), 2147483647)], some (.inl ((-1), 1600)), [64], [], (([], []), [([], [], [])]))
def ct_x001 : zCt := []
def tb_x001 : zTb := ([], zdec, zprs)
def cm_x001 : List (Nat × List Nat) := []
theorem rn_x001 : zgood tb_x001 cm_x001 0 sm_x001 ct_x001 20000 = true := by decide +kernel
theorem so_x001 {D : va_G} {l : Launch} : zSO zD0 D l pT sm_x001 := zfl1 rn_x001 zHn hp_T
-- J7_fill_53178
def sm_x002 : zSm := (2, (1, 64), [.inr (.inl (some 9)), .inl ((-1), (-1))], none, [576], [], (([], []), [([], [], [])]))
def ct_x002 : zCt := [(5, [(0, .inr (.inl (some 9))), (1, .inl ((-1), (-1))), (2, .inl (0, 6)), (3, .inl (6, 6))], [], [.inl 1, .inr (true, 2), .inl 0], ([], [], [], []))]
def tb_x002 : zTb := ([], zdec, zprs)
def cm_x002 : List (Nat × List Nat) := []
theorem rn_x002 : zgood tb_x002 cm_x002 0 sm_x002 ct_x002 20000 = true := by decide +kernel
theorem so_x002 {D : va_G} {l : Launch} : zSO zD0 D l pT sm_x002 := zfl1 rn_x002 zHn hp_T
-- X5_negation
def sm_x008 : zSm := (256, (3, 105), [.inr (.inl (some 3)), .inl (7, 7)], some (.inl (0, 0)), [192, 193], [(3, 5, 34)], (([], []), [([], [], [])]))
def ct_x008 : zCt := []
def tb_x008 : zTb := ([], zdec, zprs)
def cm_x008 : List (Nat × List Nat) := []
theorem rn_x008 : zgood tb_x008 cm_x008 0 sm_x008 ct_x008 20000 = true := by decide +kernel
theorem so_x008 {D : va_G} {l : Launch} : zSO zD0 D l pT sm_x008 := zfl1 rn_x008 zHn hp_T
-- X5_negation
def sm_x081 : zSm := (256, (3, 105), [.inr (.inl (some 3)), .inl (7, 7)], some (.inl (0, 0)), [192, 193], [(3, 5, 45)], (([], []), [([], [], [])]))
def ct_x081 : zCt := []
def tb_x081 : zTb := ([], zdec, zprs)
def cm_x081 : List (Nat × List Nat) := []
theorem rn_x081 : zgood tb_x081 cm_x081 0 sm_x081 ct_x081 20000 = true := by decide +kernel
theorem so_x081 {D : va_G} {l : Launch} : zSO zD0 D l pT sm_x081 := zfl1 rn_x081 zHn hp_T
-- J7_fill_d0a16
def sm_x149 : zSm := (3, (1, 64), [.inr (.inl (some 22)), .inr (.inr ())], none, [1408], [], (([], []), [([], [], [])]))
def ct_x149 : zCt := [(6, [(0, .inr (.inl (some 22))), (1, .inr (.inr ())), (3, .inl (0, 13)), (4, .inl (13, 13))], [], [.inl 1, .inr (true, 3), .inl 0], ([], [], [], []))]
def tb_x149 : zTb := ([], zdec, zprs)
def cm_x149 : List (Nat × List Nat) := []
theorem rn_x149 : zgood tb_x149 cm_x149 0 sm_x149 ct_x149 20000 = true := by decide +kernel
theorem so_x149 {D : va_G} {l : Launch} : zSO zD0 D l pT sm_x149 := zfl1 rn_x149 zHn hp_T
-- X4_nightsAsleep
def sm_x150 : zSm := (241, (2, 85), [.inr (.inl (some 34)), .inl (0, 40), .inl (12, 12)], some (.inl ((-2147483648), 2147483647)), [], [], (([], []), [([], [], [])]))
def ct_x150 : zCt := [(45, [(0, .inr (.inl (some 34))), (1, .inl (0, 40)), (2, .inl (12, 12)), (3, .inl (0, 5)), (4, .inl ((-2147483648), 2147483647)), (5, .inl (0, 99)), (6, .inl ((-2147483648), 2147483647)), (7, .inl (1, 13))], [], [.inl 1, .inr (true, 7), .inl 0], ([], [], [], []))]
def tb_x150 : zTb := ([], zdec, zprs)
def cm_x150 : List (Nat × List Nat) := []
theorem rn_x150 : zgood tb_x150 cm_x150 0 sm_x150 ct_x150 20000 = true := by decide +kernel
theorem so_x150 {D : va_G} {l : Launch} : zSO zD0 D l pT sm_x150 := zfl1 rn_x150 zHn hp_T
-- X6_begin
def sm_x151 : zSm := (265, (3, 113), [.inr (.inl (some 17)), .inr (.inl (some 34))], none, [1088, 1094, 1408], [], (([], []), [([], [], [])]))
def ct_x151 : zCt := [(20, [(0, .inr (.inl (some 17))), (1, .inr (.inl (some 34))), (2, .inl (0, 41))], [], [.inl 1, .inr (true, 2), .inl 1000, .inl 0, .inl 0], ([], [], [], [])),
  (56, [(0, .inr (.inl (some 17))), (1, .inr (.inl (some 34))), (2, .inl (0, 40)), (3, .inl ((-2147483648), 2147483647)), (4, .inl (1, 13))], [], [.inl 1, .inr (true, 2), .inl 1, .inr (true, 4), .inl 0], ([], [], [], []))]
def tb_x151 : zTb := ([sm_x149, sm_x150], zdec, zprs)
def cm_x151 : List (Nat × List Nat) := [(3, [0]), (241, [1])]
theorem rn_x151 : zgood tb_x151 cm_x151 2 sm_x151 ct_x151 20000 = true := by decide +kernel
theorem so_x151 {D : va_G} {l : Launch} : zSO zD0 D l pT sm_x151 := zfl1 rn_x151 (zHc so_x149 (zHc so_x150 zHn)) hp_T
-- X4_nightsAsleep
def sm_x152 : zSm := (241, (2, 85), [.inr (.inl (some 45)), .inl (0, 40), .inl (12, 12)], some (.inl ((-2147483648), 2147483647)), [], [], (([], []), [([], [], [])]))
def ct_x152 : zCt := [(45, [(0, .inr (.inl (some 45))), (1, .inl (0, 40)), (2, .inl (12, 12)), (3, .inl (0, 5)), (4, .inl ((-2147483648), 2147483647)), (5, .inl (0, 99)), (6, .inl ((-2147483648), 2147483647)), (7, .inl (1, 13))], [], [.inl 1, .inr (true, 7), .inl 0], ([], [], [], []))]
def tb_x152 : zTb := ([], zdec, zprs)
def cm_x152 : List (Nat × List Nat) := []
theorem rn_x152 : zgood tb_x152 cm_x152 0 sm_x152 ct_x152 20000 = true := by decide +kernel
theorem so_x152 {D : va_G} {l : Launch} : zSO zD0 D l pT sm_x152 := zfl1 rn_x152 zHn hp_T
-- X6_begin
def sm_x153 : zSm := (265, (3, 113), [.inr (.inl (some 17)), .inr (.inl (some 45))], none, [1088, 1094, 1408], [], (([], []), [([], [], [])]))
def ct_x153 : zCt := [(20, [(0, .inr (.inl (some 17))), (1, .inr (.inl (some 45))), (2, .inl (0, 41))], [], [.inl 1, .inr (true, 2), .inl 1000, .inl 0, .inl 0], ([], [], [], [])),
  (56, [(0, .inr (.inl (some 17))), (1, .inr (.inl (some 45))), (2, .inl (0, 40)), (3, .inl ((-2147483648), 2147483647)), (4, .inl (1, 13))], [], [.inl 1, .inr (true, 2), .inl 1, .inr (true, 4), .inl 0], ([], [], [], []))]
def tb_x153 : zTb := ([sm_x149, sm_x152], zdec, zprs)
def cm_x153 : List (Nat × List Nat) := [(3, [0]), (241, [1])]
theorem rn_x153 : zgood tb_x153 cm_x153 2 sm_x153 ct_x153 20000 = true := by decide +kernel
theorem so_x153 {D : va_G} {l : Launch} : zSO zD0 D l pT sm_x153 := zfl1 rn_x153 (zHc so_x149 (zHc so_x152 zHn)) hp_T
-- X10_fault
def sm_x155 : zSm := (23, (1, 64), [.inr (.inl (some 0)), .inl ((-2147483648), 2147483647)], some (.inl ((-2147483648), 2147483647)), [], [], (([], []), [([], [], [])]))
def ct_x155 : zCt := []
def tb_x155 : zTb := ([], zdec, zprs)
def cm_x155 : List (Nat × List Nat) := []
theorem rn_x155 : zgood tb_x155 cm_x155 0 sm_x155 ct_x155 20000 = true := by decide +kernel
theorem so_x155 {D : va_G} {l : Launch} : zSO zD0 D l pT sm_x155 := zfl1 rn_x155 zHn hp_T
-- X1_join
def sm_x156 : zSm := (206, (1, 64), [.inl ((-2147483648), 999), .inl ((-2147483648), 2147483647), .inl ((-2147483648), 2147483647)], some (.inl ((-2147483648), 2147483647)), [], [], (([], []), [([], [], [])]))
def ct_x156 : zCt := []
def tb_x156 : zTb := ([], zdec, zprs)
def cm_x156 : List (Nat × List Nat) := []
theorem rn_x156 : zgood tb_x156 cm_x156 0 sm_x156 ct_x156 20000 = true := by decide +kernel
theorem so_x156 {D : va_G} {l : Launch} : zSO zD0 D l pT sm_x156 := zfl1 rn_x156 zHn hp_T
-- X1_value
def sm_x157 : zSm := (208, (2, 86), [.inr (.inl (some 35)), .inl ((-2147483648), 2147483647), .inl ((-2147483648), 2147483647), .inl ((-2147483648), 2147483647), .inl ((-2147483648), 2147483647), .inl (0, 1), .inl ((-2147483648), 2147483647)], some (.inl ((-2147483648), 2147483647)), [2368, 2432], [], (([], []), [([], [], [])]))
def ct_x157 : zCt := [(51, [(0, .inr (.inl (some 35))), (1, .inl ((-2147483648), 2147483647)), (2, .inl ((-2147483648), 2147483647)), (3, .inl ((-2147483648), 2147483647)), (4, .inl ((-2147483648), 2147483647)), (5, .inl (0, 1)), (6, .inl ((-2147483648), 2147483647)), (7, .inl (0, 30)), (8, .inl (0, 270))], [], [.inl 1, .inr (true, 8), .inl 0], ([], [], [], []))]
def tb_x157 : zTb := ([sm_x156], zdec, zprs)
def cm_x157 : List (Nat × List Nat) := [(206, [0])]
theorem rn_x157 : zgood tb_x157 cm_x157 1 sm_x157 ct_x157 20000 = true := by decide +kernel
theorem so_x157 {D : va_G} {l : Launch} : zSO zD0 D l pT sm_x157 := zfl1 rn_x157 (zHc so_x156 zHn) hp_T
-- X4_helpTo
def sm_x158 : zSm := (238, (3, 115), [.inr (.inl (some 34)), .inl (0, 5), .inl ((-2147483648), 2147483647), .inl ((-2147483648), 2147483647), .inl ((-2147483648), 2147483647), .inl (0, 1), .inl ((-2147483648), 2147483647)], some (.inl (0, 99)), [2368, 2432], [], (([], []), [([], [], [])]))
def ct_x158 : zCt := []
def tb_x158 : zTb := ([sm_x157], zdec, zprs)
def cm_x158 : List (Nat × List Nat) := [(208, [0])]
theorem rn_x158 : zgood tb_x158 cm_x158 1 sm_x158 ct_x158 20000 = true := by decide +kernel
theorem so_x158 {D : va_G} {l : Launch} : zSO zD0 D l pT sm_x158 := zfl1 rn_x158 (zHc so_x157 zHn) hp_T
-- X4_easeAs
def sm_x159 : zSm := (231, (4, 143), [.inr (.inl (some 34)), .inr (.inl (some 6)), .inl (0, 5), .inl ((-2147483648), 2147483647), .inl (0, 1), .inl ((-2147483648), 2147483647)], some (.inl (0, 122)), [2368, 2432], [], (([], []), [([], [], [])]))
def ct_x159 : zCt := []
def tb_x159 : zTb := ([sm_x158], zdec, zprs)
def cm_x159 : List (Nat × List Nat) := [(238, [0])]
theorem rn_x159 : zgood tb_x159 cm_x159 1 sm_x159 ct_x159 20000 = true := by decide +kernel
theorem so_x159 {D : va_G} {l : Launch} : zSO zD0 D l pT sm_x159 := zfl1 rn_x159 (zHc so_x158 zHn) hp_T
-- X4_easeOf
def sm_x160 : zSm := (232, (5, 170), [.inr (.inl (some 34)), .inr (.inl (some 6)), .inl (0, 5)], some (.inl (0, 122)), [2368, 2432], [], (([], []), [([], [], [])]))
def ct_x160 : zCt := []
def tb_x160 : zTb := ([sm_x159], zdec, zprs)
def cm_x160 : List (Nat × List Nat) := [(231, [0])]
theorem rn_x160 : zgood tb_x160 cm_x160 1 sm_x160 ct_x160 20000 = true := by decide +kernel
theorem so_x160 {D : va_G} {l : Launch} : zSO zD0 D l pT sm_x160 := zfl1 rn_x160 (zHc so_x159 zHn) hp_T
-- X1_value
def sm_x161 : zSm := (208, (2, 86), [.inr (.inl (some 46)), .inl ((-2147483648), 2147483647), .inl ((-2147483648), 2147483647), .inl ((-2147483648), 2147483647), .inl ((-2147483648), 2147483647), .inl (0, 1), .inl ((-2147483648), 2147483647)], some (.inl ((-2147483648), 2147483647)), [3072, 3136], [], (([], []), [([], [], [])]))
def ct_x161 : zCt := [(51, [(0, .inr (.inl (some 46))), (1, .inl ((-2147483648), 2147483647)), (2, .inl ((-2147483648), 2147483647)), (3, .inl ((-2147483648), 2147483647)), (4, .inl ((-2147483648), 2147483647)), (5, .inl (0, 1)), (6, .inl ((-2147483648), 2147483647)), (7, .inl (0, 30)), (8, .inl (0, 270))], [], [.inl 1, .inr (true, 8), .inl 0], ([], [], [], []))]
def tb_x161 : zTb := ([sm_x156], zdec, zprs)
def cm_x161 : List (Nat × List Nat) := [(206, [0])]
theorem rn_x161 : zgood tb_x161 cm_x161 1 sm_x161 ct_x161 20000 = true := by decide +kernel
theorem so_x161 {D : va_G} {l : Launch} : zSO zD0 D l pT sm_x161 := zfl1 rn_x161 (zHc so_x156 zHn) hp_T
-- X4_helpTo
def sm_x162 : zSm := (238, (3, 115), [.inr (.inl (some 45)), .inl (0, 5), .inl ((-2147483648), 2147483647), .inl ((-2147483648), 2147483647), .inl ((-2147483648), 2147483647), .inl (0, 1), .inl ((-2147483648), 2147483647)], some (.inl (0, 99)), [3072, 3136], [], (([], []), [([], [], [])]))
def ct_x162 : zCt := []
def tb_x162 : zTb := ([sm_x161], zdec, zprs)
def cm_x162 : List (Nat × List Nat) := [(208, [0])]
theorem rn_x162 : zgood tb_x162 cm_x162 1 sm_x162 ct_x162 20000 = true := by decide +kernel
theorem so_x162 {D : va_G} {l : Launch} : zSO zD0 D l pT sm_x162 := zfl1 rn_x162 (zHc so_x161 zHn) hp_T
-- X4_easeAs
def sm_x163 : zSm := (231, (4, 143), [.inr (.inl (some 45)), .inr (.inl (some 6)), .inl (0, 5), .inl ((-2147483648), 2147483647), .inl (0, 1), .inl ((-2147483648), 2147483647)], some (.inl (0, 122)), [3072, 3136], [], (([], []), [([], [], [])]))
def ct_x163 : zCt := []
def tb_x163 : zTb := ([sm_x162], zdec, zprs)
def cm_x163 : List (Nat × List Nat) := [(238, [0])]
theorem rn_x163 : zgood tb_x163 cm_x163 1 sm_x163 ct_x163 20000 = true := by decide +kernel
theorem so_x163 {D : va_G} {l : Launch} : zSO zD0 D l pT sm_x163 := zfl1 rn_x163 (zHc so_x162 zHn) hp_T
-- X4_easeOf
def sm_x164 : zSm := (232, (5, 170), [.inr (.inl (some 45)), .inr (.inl (some 6)), .inl (0, 5)], some (.inl (0, 122)), [3072, 3136], [], (([], []), [([], [], [])]))
def ct_x164 : zCt := []
def tb_x164 : zTb := ([sm_x163], zdec, zprs)
def cm_x164 : List (Nat × List Nat) := [(231, [0])]
theorem rn_x164 : zgood tb_x164 cm_x164 1 sm_x164 ct_x164 20000 = true := by decide +kernel
theorem so_x164 {D : va_G} {l : Launch} : zSO zD0 D l pT sm_x164 := zfl1 rn_x164 (zHc so_x163 zHn) hp_T
-- X10_man
def sm_x165 : zSm := (43, (6, 192), [.inr (.inl (some 0)), .inl ((-2147483648), 2147483647), .inl ((-2147483648), 2147483647)], some (.inl ((-2147483648), 2147483647)), [2368, 2432, 3072, 3136], [], (([], []), [([], [], [])]))
def ct_x165 : zCt := []
def tb_x165 : zTb := ([sm_x160, sm_x164], zdec, zprs)
def cm_x165 : List (Nat × List Nat) := [(232, [0, 1])]
theorem rn_x165 : zgood tb_x165 cm_x165 2 sm_x165 ct_x165 20000 = true := by decide +kernel
theorem so_x165 {D : va_G} {l : Launch} : zSO zD0 D l pT sm_x165 := zfl1 rn_x165 (zHc so_x160 (zHc so_x164 zHn)) hp_T
-- X7_manOf
def sm_x166 : zSm := (276, (1, 64), [.inr (.inl (some 6)), .inl (0, 3)], some (.inl ((-1), 5)), [], [], (([], []), [([], [], [])]))
def ct_x166 : zCt := [(2, [(0, .inr (.inl (some 6))), (1, .inl (0, 3)), (2, .inl (0, 6))], [], [.inl 1, .inr (true, 2), .inl 0], ([], [], [], []))]
def tb_x166 : zTb := ([], zdec, zprs)
def cm_x166 : List (Nat × List Nat) := []
theorem rn_x166 : zgood tb_x166 cm_x166 0 sm_x166 ct_x166 20000 = true := by decide +kernel
theorem so_x166 {D : va_G} {l : Launch} : zSO zD0 D l pT sm_x166 := zfl1 rn_x166 zHn hp_T
-- X10_boy
def sm_x167 : zSm := (16, (2, 86), [.inr (.inl (some 0)), .inl ((-2147483648), 2147483647), .inl ((-2147483648), 2147483647)], some (.inl ((-2147483648), 2147483647)), [], [], (([], []), [([], [], [])]))
def ct_x167 : zCt := []
def tb_x167 : zTb := ([sm_x166], zdec, zprs)
def cm_x167 : List (Nat × List Nat) := [(276, [0])]
theorem rn_x167 : zgood tb_x167 cm_x167 1 sm_x167 ct_x167 20000 = true := by decide +kernel
theorem so_x167 {D : va_G} {l : Launch} : zSO zD0 D l pT sm_x167 := zfl1 rn_x167 (zHc so_x166 zHn) hp_T
-- X4_helpOf
def sm_x168 : zSm := (237, (4, 143), [.inr (.inl (some 34)), .inr (.inl (some 6)), .inl ((-2147483648), 2147483647), .inl (0, 5)], some (.inl (0, 99)), [2368, 2432], [], (([], []), [([], [], [])]))
def ct_x168 : zCt := []
def tb_x168 : zTb := ([sm_x158], zdec, zprs)
def cm_x168 : List (Nat × List Nat) := [(238, [0])]
theorem rn_x168 : zgood tb_x168 cm_x168 1 sm_x168 ct_x168 20000 = true := by decide +kernel
theorem so_x168 {D : va_G} {l : Launch} : zSO zD0 D l pT sm_x168 := zfl1 rn_x168 (zHc so_x158 zHn) hp_T
-- X4_helpOf
def sm_x169 : zSm := (237, (4, 143), [.inr (.inl (some 45)), .inr (.inl (some 6)), .inl ((-2147483648), 2147483647), .inl (0, 5)], some (.inl (0, 99)), [3072, 3136], [], (([], []), [([], [], [])]))
def ct_x169 : zCt := []
def tb_x169 : zTb := ([sm_x162], zdec, zprs)
def cm_x169 : List (Nat × List Nat) := [(238, [0])]
theorem rn_x169 : zgood tb_x169 cm_x169 1 sm_x169 ct_x169 20000 = true := by decide +kernel
theorem so_x169 {D : va_G} {l : Launch} : zSO zD0 D l pT sm_x169 := zfl1 rn_x169 (zHc so_x162 zHn) hp_T
-- X10_help
def sm_x170 : zSm := (27, (5, 167), [.inr (.inl (some 0)), .inl ((-2147483648), 2147483647), .inl ((-2147483648), 2147483647)], some (.inl ((-1), 99)), [2368, 2432, 3072, 3136], [], (([], []), [([], [], [])]))
def ct_x170 : zCt := []
def tb_x170 : zTb := ([sm_x168, sm_x169], zdec, zprs)
def cm_x170 : List (Nat × List Nat) := [(237, [0, 1])]
theorem rn_x170 : zgood tb_x170 cm_x170 2 sm_x170 ct_x170 20000 = true := by decide +kernel
theorem so_x170 {D : va_G} {l : Launch} : zSO zD0 D l pT sm_x170 := zfl1 rn_x170 (zHc so_x168 (zHc so_x169 zHn)) hp_T
-- X4_asleepIn
def sm_x171 : zSm := (228, (6, 192), [.inr (.inl (some 34)), .inr (.inl (some 6))], some (.inl (0, 63)), [2368, 2432], [], (([], []), [([], [], [])]))
def ct_x171 : zCt := [(4, [(0, .inr (.inl (some 34))), (1, .inr (.inl (some 6))), (2, .inl (0, 63)), (3, .inl (0, 6))], [], [.inl 1, .inr (true, 3), .inl 0], ([], [], [], []))]
def tb_x171 : zTb := ([sm_x160], zdec, zprs)
def cm_x171 : List (Nat × List Nat) := [(232, [0])]
theorem rn_x171 : zgood tb_x171 cm_x171 1 sm_x171 ct_x171 20000 = true := by decide +kernel
theorem so_x171 {D : va_G} {l : Launch} : zSO zD0 D l pT sm_x171 := zfl1 rn_x171 (zHc so_x160 zHn) hp_T
-- X4_asleepIn
def sm_x172 : zSm := (228, (6, 192), [.inr (.inl (some 45)), .inr (.inl (some 6))], some (.inl (0, 63)), [3072, 3136], [], (([], []), [([], [], [])]))
def ct_x172 : zCt := [(4, [(0, .inr (.inl (some 45))), (1, .inr (.inl (some 6))), (2, .inl (0, 63)), (3, .inl (0, 6))], [], [.inl 1, .inr (true, 3), .inl 0], ([], [], [], []))]
def tb_x172 : zTb := ([sm_x164], zdec, zprs)
def cm_x172 : List (Nat × List Nat) := [(232, [0])]
theorem rn_x172 : zgood tb_x172 cm_x172 1 sm_x172 ct_x172 20000 = true := by decide +kernel
theorem so_x172 {D : va_G} {l : Launch} : zSO zD0 D l pT sm_x172 := zfl1 rn_x172 (zHc so_x164 zHn) hp_T
-- X10_sleepers
def sm_x173 : zSm := (58, (7, 215), [.inr (.inl (some 0))], some (.inl (0, 63)), [2368, 2432, 3072, 3136], [], (([], []), [([], [], [])]))
def ct_x173 : zCt := []
def tb_x173 : zTb := ([sm_x171, sm_x172], zdec, zprs)
def cm_x173 : List (Nat × List Nat) := [(228, [0, 1])]
theorem rn_x173 : zgood tb_x173 cm_x173 2 sm_x173 ct_x173 20000 = true := by decide +kernel
theorem so_x173 {D : va_G} {l : Launch} : zSO zD0 D l pT sm_x173 := zfl1 rn_x173 (zHc so_x171 (zHc so_x172 zHn)) hp_T
-- X4_passNight
def sm_x174 : zSm := (242, (6, 192), [.inr (.inl (some 34)), .inr (.inl (some 6)), .inl (1, 1)], some (.inl (0, 63)), [389, 390, 448, 512, 2368, 2432], [], (([], []), [([], [], [])]))
def ct_x174 : zCt := [(5, [(0, .inr (.inl (some 34))), (1, .inr (.inl (some 6))), (2, .inl (1, 1)), (3, .inl (0, 63)), (4, .inl (0, 6))], [], [.inl 1, .inr (true, 4), .inl 0], ([], [], [], []))]
def tb_x174 : zTb := ([sm_x160], zdec, zprs)
def cm_x174 : List (Nat × List Nat) := [(232, [0])]
theorem rn_x174 : zgood tb_x174 cm_x174 1 sm_x174 ct_x174 20000 = true := by decide +kernel
theorem so_x174 {D : va_G} {l : Launch} : zSO zD0 D l pT sm_x174 := zfl1 rn_x174 (zHc so_x160 zHn) hp_T
-- X4_passNight
def sm_x175 : zSm := (242, (6, 192), [.inr (.inl (some 45)), .inr (.inl (some 6)), .inl (1, 1)], some (.inl (0, 63)), [389, 390, 448, 512, 3072, 3136], [], (([], []), [([], [], [])]))
def ct_x175 : zCt := [(5, [(0, .inr (.inl (some 45))), (1, .inr (.inl (some 6))), (2, .inl (1, 1)), (3, .inl (0, 63)), (4, .inl (0, 6))], [], [.inl 1, .inr (true, 4), .inl 0], ([], [], [], []))]
def tb_x175 : zTb := ([sm_x164], zdec, zprs)
def cm_x175 : List (Nat × List Nat) := [(232, [0])]
theorem rn_x175 : zgood tb_x175 cm_x175 1 sm_x175 ct_x175 20000 = true := by decide +kernel
theorem so_x175 {D : va_G} {l : Launch} : zSO zD0 D l pT sm_x175 := zfl1 rn_x175 (zHc so_x164 zHn) hp_T
-- X10_night
def sm_x176 : zSm := (46, (7, 217), [.inr (.inl (some 0))], some (.inl ((-1), 63)), [389, 390, 448, 512, 897, 898, 960, 2368, 2432, 3072, 3136], [], (([], []), [([], [], [])]))
def ct_x176 : zCt := []
def tb_x176 : zTb := ([sm_x174, sm_x175], zdec, zprs)
def cm_x176 : List (Nat × List Nat) := [(242, [0, 1])]
theorem rn_x176 : zgood tb_x176 cm_x176 2 sm_x176 ct_x176 20000 = true := by decide +kernel
theorem so_x176 {D : va_G} {l : Launch} : zSO zD0 D l pT sm_x176 := zfl1 rn_x176 (zHc so_x174 (zHc so_x175 zHn)) hp_T
-- X10_send
def sm_x177 : zSm := (56, (6, 192), [.inr (.inl (some 0)), .inl ((-2147483648), 2147483647), .inl ((-2147483648), 2147483647)], some (.inl ((-1), 122)), [576, 897, 898, 960, 2368, 2432, 3072, 3136], [], (([], []), [([], [], [])]))
def ct_x177 : zCt := []
def tb_x177 : zTb := ([sm_x160, sm_x164, sm_x166], zdec, zprs)
def cm_x177 : List (Nat × List Nat) := [(232, [0, 1]), (276, [2])]
theorem rn_x177 : zgood tb_x177 cm_x177 3 sm_x177 ct_x177 20000 = true := by decide +kernel
theorem so_x177 {D : va_G} {l : Launch} : zSO zD0 D l pT sm_x177 := zfl1 rn_x177 (zHc so_x160 (zHc so_x164 (zHc so_x166 zHn))) hp_T
-- X10_recall
def sm_x178 : zSm := (50, (3, 109), [.inr (.inl (some 0)), .inl ((-2147483648), 2147483647)], some (.inl ((-1), 5)), [576, 897, 898, 960], [], (([], []), [([], [], [])]))
def ct_x178 : zCt := []
def tb_x178 : zTb := ([sm_x166], zdec, zprs)
def cm_x178 : List (Nat × List Nat) := [(276, [0])]
theorem rn_x178 : zgood tb_x178 cm_x178 1 sm_x178 ct_x178 20000 = true := by decide +kernel
theorem so_x178 {D : va_G} {l : Launch} : zSO zD0 D l pT sm_x178 := zfl1 rn_x178 (zHc so_x166 zHn) hp_T
-- X10_turnLight
def sm_x179 : zSm := (65, (3, 109), [.inr (.inl (some 0)), .inl ((-2147483648), 2147483647), .inl (0, 1)], some (.inl ((-2147483648), 2147483647)), [387, 897, 898, 960], [], (([], []), [([], [], [])]))
def ct_x179 : zCt := []
def tb_x179 : zTb := ([], zdec, zprs)
def cm_x179 : List (Nat × List Nat) := []
theorem rn_x179 : zgood tb_x179 cm_x179 0 sm_x179 ct_x179 20000 = true := by decide +kernel
theorem so_x179 {D : va_G} {l : Launch} : zSO zD0 D l pT sm_x179 := zfl1 rn_x179 zHn hp_T
-- X10_light
def sm_x180 : zSm := (42, (4, 131), [.inr (.inl (some 0)), .inl ((-2147483648), 2147483647)], some (.inl ((-2147483648), 2147483647)), [387, 897, 898, 960], [], (([], []), [([], [], [])]))
def ct_x180 : zCt := []
def tb_x180 : zTb := ([sm_x179], zdec, zprs)
def cm_x180 : List (Nat × List Nat) := [(65, [0])]
theorem rn_x180 : zgood tb_x180 cm_x180 1 sm_x180 ct_x180 20000 = true := by decide +kernel
theorem so_x180 {D : va_G} {l : Launch} : zSO zD0 D l pT sm_x180 := zfl1 rn_x180 (zHc so_x179 zHn) hp_T
-- X10_snuff
def sm_x181 : zSm := (60, (4, 131), [.inr (.inl (some 0)), .inl ((-2147483648), 2147483647)], some (.inl ((-2147483648), 2147483647)), [387, 897, 898, 960], [], (([], []), [([], [], [])]))
def ct_x181 : zCt := []
def tb_x181 : zTb := ([sm_x179], zdec, zprs)
def cm_x181 : List (Nat × List Nat) := [(65, [0])]
theorem rn_x181 : zgood tb_x181 cm_x181 1 sm_x181 ct_x181 20000 = true := by decide +kernel
theorem so_x181 {D : va_G} {l : Launch} : zSO zD0 D l pT sm_x181 := zfl1 rn_x181 (zHc so_x179 zHn) hp_T
-- X10_pour
def sm_x182 : zSm := (49, (3, 109), [.inr (.inl (some 0)), .inl ((-2147483648), 2147483647), .inl ((-2147483648), 2147483647)], some (.inl ((-2147483648), 20)), [388, 512, 897, 898, 960], [], (([], []), [([], [], [])]))
def ct_x182 : zCt := []
def tb_x182 : zTb := ([], zdec, zprs)
def cm_x182 : List (Nat × List Nat) := []
theorem rn_x182 : zgood tb_x182 cm_x182 0 sm_x182 ct_x182 20000 = true := by decide +kernel
theorem so_x182 {D : va_G} {l : Launch} : zSO zD0 D l pT sm_x182 := zfl1 rn_x182 zHn hp_T
