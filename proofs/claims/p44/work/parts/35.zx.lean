-- X10_undo
def sm_x183 : zSm := (67, (3, 109), [.inr (.inl (some 0))], some (.inl (0, 1)), [387, 388, 389, 390, 448, 512, 576, 897], [], (([], []), [([], [], [])]))
def ct_x183 : zCt := []
def tb_x183 : zTb := ([], zdec, zprs)
def cm_x183 : List (Nat × List Nat) := []
theorem rn_x183 : zgood tb_x183 cm_x183 0 sm_x183 ct_x183 20000 = true := by decide +kernel
theorem so_x183 {D : va_G} {l : Launch} : zSO zD0 D l pT sm_x183 := zfl1 rn_x183 zHn hp_T
-- X10_redo
def sm_x184 : zSm := (51, (3, 109), [.inr (.inl (some 0))], some (.inl (0, 1)), [387, 388, 389, 390, 448, 512, 576, 897], [], (([], []), [([], [], [])]))
def ct_x184 : zCt := []
def tb_x184 : zTb := ([], zdec, zprs)
def cm_x184 : List (Nat × List Nat) := []
theorem rn_x184 : zgood tb_x184 cm_x184 0 sm_x184 ct_x184 20000 = true := by decide +kernel
theorem so_x184 {D : va_G} {l : Launch} : zSO zD0 D l pT sm_x184 := zfl1 rn_x184 zHn hp_T
-- X4_easeAs
def sm_x185 : zSm := (231, (4, 143), [.inr (.inl (some 34)), .inr (.inl (some 10)), .inl (0, 5), .inl ((-2147483648), 2147483647), .inl (0, 1), .inl ((-2147483648), 2147483647)], some (.inl (0, 122)), [2368, 2432], [], (([], []), [([], [], [])]))
def ct_x185 : zCt := []
def tb_x185 : zTb := ([sm_x158], zdec, zprs)
def cm_x185 : List (Nat × List Nat) := [(238, [0])]
theorem rn_x185 : zgood tb_x185 cm_x185 1 sm_x185 ct_x185 20000 = true := by decide +kernel
theorem so_x185 {D : va_G} {l : Launch} : zSO zD0 D l pT sm_x185 := zfl1 rn_x185 (zHc so_x158 zHn) hp_T
-- X4_easeOf
def sm_x186 : zSm := (232, (5, 170), [.inr (.inl (some 34)), .inr (.inl (some 10)), .inl (0, 5)], some (.inl (0, 122)), [2368, 2432], [], (([], []), [([], [], [])]))
def ct_x186 : zCt := []
def tb_x186 : zTb := ([sm_x185], zdec, zprs)
def cm_x186 : List (Nat × List Nat) := [(231, [0])]
theorem rn_x186 : zgood tb_x186 cm_x186 1 sm_x186 ct_x186 20000 = true := by decide +kernel
theorem so_x186 {D : va_G} {l : Launch} : zSO zD0 D l pT sm_x186 := zfl1 rn_x186 (zHc so_x185 zHn) hp_T
-- X4_passNight
def sm_x187 : zSm := (242, (6, 192), [.inr (.inl (some 34)), .inr (.inl (some 10)), .inl (0, 1)], some (.inl (0, 63)), [645, 646, 704, 768, 2368, 2432], [], (([], []), [([], [], [])]))
def ct_x187 : zCt := [(5, [(0, .inr (.inl (some 34))), (1, .inr (.inl (some 10))), (2, .inl (0, 1)), (3, .inl (0, 63)), (4, .inl (0, 6))], [], [.inl 1, .inr (true, 4), .inl 0], ([], [], [], []))]
def tb_x187 : zTb := ([sm_x186], zdec, zprs)
def cm_x187 : List (Nat × List Nat) := [(232, [0])]
theorem rn_x187 : zgood tb_x187 cm_x187 1 sm_x187 ct_x187 20000 = true := by decide +kernel
theorem so_x187 {D : va_G} {l : Launch} : zSO zD0 D l pT sm_x187 := zfl1 rn_x187 (zHc so_x186 zHn) hp_T
-- X4_easeAs
def sm_x188 : zSm := (231, (4, 143), [.inr (.inl (some 45)), .inr (.inl (some 10)), .inl (0, 5), .inl ((-2147483648), 2147483647), .inl (0, 1), .inl ((-2147483648), 2147483647)], some (.inl (0, 122)), [3072, 3136], [], (([], []), [([], [], [])]))
def ct_x188 : zCt := []
def tb_x188 : zTb := ([sm_x162], zdec, zprs)
def cm_x188 : List (Nat × List Nat) := [(238, [0])]
theorem rn_x188 : zgood tb_x188 cm_x188 1 sm_x188 ct_x188 20000 = true := by decide +kernel
theorem so_x188 {D : va_G} {l : Launch} : zSO zD0 D l pT sm_x188 := zfl1 rn_x188 (zHc so_x162 zHn) hp_T
-- X4_easeOf
def sm_x189 : zSm := (232, (5, 170), [.inr (.inl (some 45)), .inr (.inl (some 10)), .inl (0, 5)], some (.inl (0, 122)), [3072, 3136], [], (([], []), [([], [], [])]))
def ct_x189 : zCt := []
def tb_x189 : zTb := ([sm_x188], zdec, zprs)
def cm_x189 : List (Nat × List Nat) := [(231, [0])]
theorem rn_x189 : zgood tb_x189 cm_x189 1 sm_x189 ct_x189 20000 = true := by decide +kernel
theorem so_x189 {D : va_G} {l : Launch} : zSO zD0 D l pT sm_x189 := zfl1 rn_x189 (zHc so_x188 zHn) hp_T
-- X4_passNight
def sm_x190 : zSm := (242, (6, 192), [.inr (.inl (some 45)), .inr (.inl (some 10)), .inl (0, 1)], some (.inl (0, 63)), [645, 646, 704, 768, 3072, 3136], [], (([], []), [([], [], [])]))
def ct_x190 : zCt := [(5, [(0, .inr (.inl (some 45))), (1, .inr (.inl (some 10))), (2, .inl (0, 1)), (3, .inl (0, 63)), (4, .inl (0, 6))], [], [.inl 1, .inr (true, 4), .inl 0], ([], [], [], []))]
def tb_x190 : zTb := ([sm_x189], zdec, zprs)
def cm_x190 : List (Nat × List Nat) := [(232, [0])]
theorem rn_x190 : zgood tb_x190 cm_x190 1 sm_x190 ct_x190 20000 = true := by decide +kernel
theorem so_x190 {D : va_G} {l : Launch} : zSO zD0 D l pT sm_x190 := zfl1 rn_x190 (zHc so_x189 zHn) hp_T
-- X10_will
def sm_x191 : zSm := (69, (7, 217), [.inr (.inl (some 0)), .inl ((-2147483648), 2147483647), .inl ((-2147483648), 2147483647), .inl ((-2147483648), 2147483647)], some (.inl ((-2147483648), 2147483647)), [643, 644, 645, 646, 704, 768, 832, 2368, 2432, 3072, 3136], [], (([], []), [([], [], [])]))
def ct_x191 : zCt := [(46, [(0, .inr (.inl (some 0))), (1, .inl (0, 5)), (2, .inl (0, 60)), (3, .inl (0, 1)), (4, .inl (0, 60))], [], [.inl 1, .inr (true, 4), .inl 0], ([], [], [], []))]
def tb_x191 : zTb := ([sm_x187, sm_x190], zdec, zprs)
def cm_x191 : List (Nat × List Nat) := [(242, [0, 1])]
theorem rn_x191 : zgood tb_x191 cm_x191 2 sm_x191 ct_x191 20000 = true := by decide +kernel
theorem so_x191 {D : va_G} {l : Launch} : zSO zD0 D l pT sm_x191 := zfl1 rn_x191 (zHc so_x187 (zHc so_x190 zHn)) hp_T
-- X4_asleepIn
def sm_x192 : zSm := (228, (6, 192), [.inr (.inl (some 34)), .inr (.inl (some 10))], some (.inl (0, 63)), [2368, 2432], [], (([], []), [([], [], [])]))
def ct_x192 : zCt := [(4, [(0, .inr (.inl (some 34))), (1, .inr (.inl (some 10))), (2, .inl (0, 63)), (3, .inl (0, 6))], [], [.inl 1, .inr (true, 3), .inl 0], ([], [], [], []))]
def tb_x192 : zTb := ([sm_x186], zdec, zprs)
def cm_x192 : List (Nat × List Nat) := [(232, [0])]
theorem rn_x192 : zgood tb_x192 cm_x192 1 sm_x192 ct_x192 20000 = true := by decide +kernel
theorem so_x192 {D : va_G} {l : Launch} : zSO zD0 D l pT sm_x192 := zfl1 rn_x192 (zHc so_x186 zHn) hp_T
-- X4_asleepIn
def sm_x193 : zSm := (228, (6, 192), [.inr (.inl (some 45)), .inr (.inl (some 10))], some (.inl (0, 63)), [3072, 3136], [], (([], []), [([], [], [])]))
def ct_x193 : zCt := [(4, [(0, .inr (.inl (some 45))), (1, .inr (.inl (some 10))), (2, .inl (0, 63)), (3, .inl (0, 6))], [], [.inl 1, .inr (true, 3), .inl 0], ([], [], [], []))]
def tb_x193 : zTb := ([sm_x189], zdec, zprs)
def cm_x193 : List (Nat × List Nat) := [(232, [0])]
theorem rn_x193 : zgood tb_x193 cm_x193 1 sm_x193 ct_x193 20000 = true := by decide +kernel
theorem so_x193 {D : va_G} {l : Launch} : zSO zD0 D l pT sm_x193 := zfl1 rn_x193 (zHc so_x189 zHn) hp_T
-- X10_asleep
def sm_x194 : zSm := (11, (7, 217), [.inr (.inl (some 0)), .inl ((-2147483648), 2147483647)], some (.inl ((-1), 63)), [643, 644, 645, 646, 704, 768, 832, 2368, 2432, 3072, 3136], [], (([], []), [([], [], [])]))
def ct_x194 : zCt := [(26, [(0, .inr (.inl (some 0))), (1, .inl (1, 60)), (2, .inl (1, 60))], [], [.inl 1, .inr (true, 2), .inl 0], ([], [], [], []))]
def tb_x194 : zTb := ([sm_x187, sm_x190, sm_x192, sm_x193], zdec, zprs)
def cm_x194 : List (Nat × List Nat) := [(228, [2, 3]), (242, [0, 1])]
theorem rn_x194 : zgood tb_x194 cm_x194 4 sm_x194 ct_x194 20000 = true := by decide +kernel
theorem so_x194 {D : va_G} {l : Launch} : zSO zD0 D l pT sm_x194 := zfl1 rn_x194 (zHc so_x187 (zHc so_x190 (zHc so_x192 (zHc so_x193 zHn)))) hp_T
-- X10_calm
def sm_x195 : zSm := (18, (7, 217), [.inr (.inl (some 0))], some (.inl ((-1), 60)), [643, 644, 645, 646, 704, 768, 832, 2368, 2432, 3072, 3136], [], (([], []), [([], [], [])]))
def ct_x195 : zCt := [(13, [(0, .inr (.inl (some 0))), (1, .inl (0, 63))], [], [.inl 1, .inr (true, 1), .inl 0], ([], [], [], []))]
def tb_x195 : zTb := ([sm_x187, sm_x190], zdec, zprs)
def cm_x195 : List (Nat × List Nat) := [(242, [0, 1])]
theorem rn_x195 : zgood tb_x195 cm_x195 2 sm_x195 ct_x195 20000 = true := by decide +kernel
theorem so_x195 {D : va_G} {l : Launch} : zSO zD0 D l pT sm_x195 := zfl1 rn_x195 (zHc so_x187 (zHc so_x190 zHn)) hp_T
-- X10_layPairs
def sm_x196 : zSm := (39, (2, 85), [.inr (.inl (some 0))], none, [13, 2112], [], (([], []), [([], [], [])]))
def ct_x196 : zCt := [(7, [(0, .inr (.inl (some 0))), (1, .inl (0, 6))], [], [.inl 1, .inr (true, 1), .inl 0], ([], [], [], []))]
def tb_x196 : zTb := ([], zdec, zprs)
def cm_x196 : List (Nat × List Nat) := []
theorem rn_x196 : zgood tb_x196 cm_x196 0 sm_x196 ct_x196 20000 = true := by decide +kernel
theorem so_x196 {D : va_G} {l : Launch} : zSO zD0 D l pT sm_x196 := zfl1 rn_x196 zHn hp_T
-- J7_fill_53178
def sm_x197 : zSm := (2, (1, 64), [.inr (.inl (some 24)), .inl ((-1), (-1))], none, [1536], [], (([], []), [([], [], [])]))
def ct_x197 : zCt := [(5, [(0, .inr (.inl (some 24))), (1, .inl ((-1), (-1))), (2, .inl (0, 6)), (3, .inl (6, 6))], [], [.inl 1, .inr (true, 2), .inl 0], ([], [], [], []))]
def tb_x197 : zTb := ([], zdec, zprs)
def cm_x197 : List (Nat × List Nat) := []
theorem rn_x197 : zgood tb_x197 cm_x197 0 sm_x197 ct_x197 20000 = true := by decide +kernel
theorem so_x197 {D : va_G} {l : Launch} : zSO zD0 D l pT sm_x197 := zfl1 rn_x197 zHn hp_T
-- J7_fill_53178
def sm_x198 : zSm := (2, (1, 64), [.inr (.inl (some 28)), .inl (0, 0)], none, [1792], [], (([], []), [([], [], [])]))
def ct_x198 : zCt := [(5, [(0, .inr (.inl (some 28))), (1, .inl (0, 0)), (2, .inl (0, 6)), (3, .inl (6, 6))], [], [.inl 1, .inr (true, 2), .inl 0], ([], [], [], []))]
def tb_x198 : zTb := ([], zdec, zprs)
def cm_x198 : List (Nat × List Nat) := []
theorem rn_x198 : zgood tb_x198 cm_x198 0 sm_x198 ct_x198 20000 = true := by decide +kernel
theorem so_x198 {D : va_G} {l : Launch} : zSO zD0 D l pT sm_x198 := zfl1 rn_x198 zHn hp_T
-- X3_begin
def sm_x199 : zSm := (217, (5, 167), [.inr (.inl (some 23)), .inr (.inl (some 34)), .inr (.inl (some 6))], none, [1475, 1476, 1536, 1600, 1664, 1792, 2368, 2432], [], (([], []), [([], [], [])]))
def ct_x199 : zCt := [(34, [(0, .inr (.inl (some 23))), (1, .inr (.inl (some 34))), (2, .inr (.inl (some 6))), (3, .inl (0, 6))], [], [.inl 1, .inr (true, 3), .inl 1000, .inl 0, .inl 0], ([], [], [], [])),
  (65, [(0, .inr (.inl (some 23))), (1, .inr (.inl (some 34))), (2, .inr (.inl (some 6))), (3, .inl (0, 5)), (4, .inl (0, 4))], [], [.inl 1, .inr (true, 3), .inl 1, .inr (true, 4), .inl 0], ([], [], [], []))]
def tb_x199 : zTb := ([sm_x168, sm_x197, sm_x198], zdec, zprs)
def cm_x199 : List (Nat × List Nat) := [(2, [1, 2]), (237, [0])]
theorem rn_x199 : zgood tb_x199 cm_x199 3 sm_x199 ct_x199 20000 = true := by decide +kernel
theorem so_x199 {D : va_G} {l : Launch} : zSO zD0 D l pT sm_x199 := zfl1 rn_x199 (zHc so_x168 (zHc so_x197 (zHc so_x198 zHn))) hp_T
-- X3_tryFrom
def sm_x200 : zSm := (224, (2, 86), [.inr (.inl (some 23)), .inl (6, 6), .inl (0, 63), .inl (0, 6), .inl ((-2147483648), 2147483647)], none, [1473, 1474, 1536], [], (([], []), [([], [], [])]))
def ct_x200 : zCt := []
def tb_x200 : zTb := ([], zdec, zprs)
def cm_x200 : List (Nat × List Nat) := []
theorem rn_x200 : zgood tb_x200 cm_x200 0 sm_x200 ct_x200 20000 = true := by decide +kernel
theorem so_x200 {D : va_G} {l : Launch} : zSO zD0 D l pT sm_x200 := zfl1 rn_x200 zHn hp_T
-- X3_tryFrom
def sm_x201 : zSm := (224, (3, 113), [.inr (.inl (some 23)), .inl (5, 5), .inl (0, 63), .inl (0, 5), .inl ((-2147483648), 2147483647)], none, [1473, 1474, 1536, 1728], [], (([], []), [([], [], [])]))
def ct_x201 : zCt := [(25, [(0, .inr (.inl (some 23))), (1, .inl (5, 5)), (2, .inl (0, 63)), (3, .inl (0, 5)), (4, .inl ((-2147483648), 2147483647)), (5, .inl (0, 4))], [], [.inl 1, .inr (true, 5), .inl 0], ([], [], [], []))]
def tb_x201 : zTb := ([sm_x200], zdec, zprs)
def cm_x201 : List (Nat × List Nat) := [(224, [0])]
theorem rn_x201 : zgood tb_x201 cm_x201 1 sm_x201 ct_x201 20000 = true := by decide +kernel
theorem so_x201 {D : va_G} {l : Launch} : zSO zD0 D l pT sm_x201 := zfl1 rn_x201 (zHc so_x200 zHn) hp_T
-- X3_tryFrom
def sm_x202 : zSm := (224, (4, 140), [.inr (.inl (some 23)), .inl (4, 4), .inl (0, 63), .inl (0, 4), .inl ((-2147483648), 2147483647)], none, [1473, 1474, 1536, 1728], [], (([], []), [([], [], [])]))
def ct_x202 : zCt := [(25, [(0, .inr (.inl (some 23))), (1, .inl (4, 4)), (2, .inl (0, 63)), (3, .inl (0, 4)), (4, .inl ((-2147483648), 2147483647)), (5, .inl (0, 4))], [], [.inl 1, .inr (true, 5), .inl 0], ([], [], [], []))]
def tb_x202 : zTb := ([sm_x201], zdec, zprs)
def cm_x202 : List (Nat × List Nat) := [(224, [0])]
theorem rn_x202 : zgood tb_x202 cm_x202 1 sm_x202 ct_x202 20000 = true := by decide +kernel
theorem so_x202 {D : va_G} {l : Launch} : zSO zD0 D l pT sm_x202 := zfl1 rn_x202 (zHc so_x201 zHn) hp_T
-- X3_tryFrom
def sm_x203 : zSm := (224, (5, 167), [.inr (.inl (some 23)), .inl (3, 3), .inl (0, 63), .inl (0, 3), .inl ((-2147483648), 2147483647)], none, [1473, 1474, 1536, 1728], [], (([], []), [([], [], [])]))
def ct_x203 : zCt := [(25, [(0, .inr (.inl (some 23))), (1, .inl (3, 3)), (2, .inl (0, 63)), (3, .inl (0, 3)), (4, .inl ((-2147483648), 2147483647)), (5, .inl (0, 4))], [], [.inl 1, .inr (true, 5), .inl 0], ([], [], [], []))]
def tb_x203 : zTb := ([sm_x202], zdec, zprs)
def cm_x203 : List (Nat × List Nat) := [(224, [0])]
theorem rn_x203 : zgood tb_x203 cm_x203 1 sm_x203 ct_x203 20000 = true := by decide +kernel
theorem so_x203 {D : va_G} {l : Launch} : zSO zD0 D l pT sm_x203 := zfl1 rn_x203 (zHc so_x202 zHn) hp_T
-- X3_tryFrom
def sm_x204 : zSm := (224, (6, 194), [.inr (.inl (some 23)), .inl (2, 2), .inl (0, 63), .inl (0, 2), .inl ((-2147483648), 2147483647)], none, [1473, 1474, 1536, 1728], [], (([], []), [([], [], [])]))
def ct_x204 : zCt := [(25, [(0, .inr (.inl (some 23))), (1, .inl (2, 2)), (2, .inl (0, 63)), (3, .inl (0, 2)), (4, .inl ((-2147483648), 2147483647)), (5, .inl (0, 4))], [], [.inl 1, .inr (true, 5), .inl 0], ([], [], [], []))]
def tb_x204 : zTb := ([sm_x203], zdec, zprs)
def cm_x204 : List (Nat × List Nat) := [(224, [0])]
theorem rn_x204 : zgood tb_x204 cm_x204 1 sm_x204 ct_x204 20000 = true := by decide +kernel
theorem so_x204 {D : va_G} {l : Launch} : zSO zD0 D l pT sm_x204 := zfl1 rn_x204 (zHc so_x203 zHn) hp_T
-- X3_tryFrom
def sm_x205 : zSm := (224, (7, 221), [.inr (.inl (some 23)), .inl (1, 1), .inl (0, 63), .inl (0, 1), .inl ((-2147483648), 2147483647)], none, [1473, 1474, 1536, 1728], [], (([], []), [([], [], [])]))
def ct_x205 : zCt := [(25, [(0, .inr (.inl (some 23))), (1, .inl (1, 1)), (2, .inl (0, 63)), (3, .inl (0, 1)), (4, .inl ((-2147483648), 2147483647)), (5, .inl (0, 4))], [], [.inl 1, .inr (true, 5), .inl 0], ([], [], [], []))]
def tb_x205 : zTb := ([sm_x204], zdec, zprs)
def cm_x205 : List (Nat × List Nat) := [(224, [0])]
theorem rn_x205 : zgood tb_x205 cm_x205 1 sm_x205 ct_x205 20000 = true := by decide +kernel
theorem so_x205 {D : va_G} {l : Launch} : zSO zD0 D l pT sm_x205 := zfl1 rn_x205 (zHc so_x204 zHn) hp_T
-- X3_tryFrom
def sm_x206 : zSm := (224, (8, 248), [.inr (.inl (some 23)), .inl (0, 0), .inl (0, 0), .inl (0, 0), .inl (0, 0)], none, [1473, 1474, 1536, 1728], [], (([], []), [([], [], [])]))
def ct_x206 : zCt := [(25, [(0, .inr (.inl (some 23))), (1, .inl (0, 0)), (2, .inl (0, 0)), (3, .inl (0, 0)), (4, .inl (0, 0)), (5, .inl (0, 4))], [], [.inl 1, .inr (true, 5), .inl 0], ([], [], [], []))]
def tb_x206 : zTb := ([sm_x205], zdec, zprs)
def cm_x206 : List (Nat × List Nat) := [(224, [0])]
theorem rn_x206 : zgood tb_x206 cm_x206 1 sm_x206 ct_x206 20000 = true := by decide +kernel
theorem so_x206 {D : va_G} {l : Launch} : zSO zD0 D l pT sm_x206 := zfl1 rn_x206 (zHc so_x205 zHn) hp_T
-- X3_findSending
def sm_x207 : zSm := (219, (9, 275), [.inr (.inl (some 23)), .inr (.inl (some 34)), .inr (.inl (some 6))], none, [1473, 1474, 1475, 1476, 1536, 1600, 1664, 1728, 1792, 2368, 2432], [], (([], []), [([], [], [])]))
def ct_x207 : zCt := []
def tb_x207 : zTb := ([sm_x199, sm_x206], zdec, zprs)
def cm_x207 : List (Nat × List Nat) := [(217, [0]), (224, [1])]
theorem rn_x207 : zgood tb_x207 cm_x207 2 sm_x207 ct_x207 20000 = true := by decide +kernel
theorem so_x207 {D : va_G} {l : Launch} : zSO zD0 D l pT sm_x207 := zfl1 rn_x207 (zHc so_x199 (zHc so_x206 zHn)) hp_T
-- X3_begin
def sm_x208 : zSm := (217, (5, 167), [.inr (.inl (some 23)), .inr (.inl (some 45)), .inr (.inl (some 6))], none, [1475, 1476, 1536, 1600, 1664, 1792, 3072, 3136], [], (([], []), [([], [], [])]))
def ct_x208 : zCt := [(34, [(0, .inr (.inl (some 23))), (1, .inr (.inl (some 45))), (2, .inr (.inl (some 6))), (3, .inl (0, 6))], [], [.inl 1, .inr (true, 3), .inl 1000, .inl 0, .inl 0], ([], [], [], [])),
  (65, [(0, .inr (.inl (some 23))), (1, .inr (.inl (some 45))), (2, .inr (.inl (some 6))), (3, .inl (0, 5)), (4, .inl (0, 4))], [], [.inl 1, .inr (true, 3), .inl 1, .inr (true, 4), .inl 0], ([], [], [], []))]
def tb_x208 : zTb := ([sm_x169, sm_x197, sm_x198], zdec, zprs)
def cm_x208 : List (Nat × List Nat) := [(2, [1, 2]), (237, [0])]
theorem rn_x208 : zgood tb_x208 cm_x208 3 sm_x208 ct_x208 20000 = true := by decide +kernel
theorem so_x208 {D : va_G} {l : Launch} : zSO zD0 D l pT sm_x208 := zfl1 rn_x208 (zHc so_x169 (zHc so_x197 (zHc so_x198 zHn))) hp_T
-- X3_findSending
def sm_x209 : zSm := (219, (9, 275), [.inr (.inl (some 23)), .inr (.inl (some 45)), .inr (.inl (some 6))], none, [1473, 1474, 1475, 1476, 1536, 1600, 1664, 1728, 1792, 3072, 3136], [], (([], []), [([], [], [])]))
def ct_x209 : zCt := []
def tb_x209 : zTb := ([sm_x206, sm_x208], zdec, zprs)
def cm_x209 : List (Nat × List Nat) := [(217, [1]), (224, [0])]
theorem rn_x209 : zgood tb_x209 cm_x209 2 sm_x209 ct_x209 20000 = true := by decide +kernel
theorem so_x209 {D : va_G} {l : Launch} : zSO zD0 D l pT sm_x209 := zfl1 rn_x209 (zHc so_x206 (zHc so_x208 zHn)) hp_T
-- X10_sending
def sm_x210 : zSm := (57, (10, 297), [.inr (.inl (some 0)), .inl ((-2147483648), 2147483647)], some (.inl ((-2147483648), 2147483647)), [13, 1473, 1474, 1475, 1476, 1536, 1600, 1664, 1728, 1792, 2112, 2368, 2432, 3072, 3136], [], (([], []), [([], [], [])]))
def ct_x210 : zCt := []
def tb_x210 : zTb := ([sm_x196, sm_x207, sm_x209], zdec, zprs)
def cm_x210 : List (Nat × List Nat) := [(39, [0]), (219, [1, 2])]
theorem rn_x210 : zgood tb_x210 cm_x210 3 sm_x210 ct_x210 20000 = true := by decide +kernel
theorem so_x210 {D : va_G} {l : Launch} : zSO zD0 D l pT sm_x210 := zfl1 rn_x210 (zHc so_x196 (zHc so_x207 (zHc so_x209 zHn))) hp_T
-- X9_walk
def sm_x211 : zSm := (292, (1, 64), [.inr (.inl (some 29)), .inr (.inl (some 34)), .inl (6, 6), .inl (0, 63), .inl ((-2147483648), 2147483647), .inl ((-2147483648), 2147483647)], none, [1858, 1920], [], (([], []), [([], [], [])]))
def ct_x211 : zCt := []
def tb_x211 : zTb := ([], zdec, zprs)
def cm_x211 : List (Nat × List Nat) := []
theorem rn_x211 : zgood tb_x211 cm_x211 0 sm_x211 ct_x211 20000 = true := by decide +kernel
theorem so_x211 {D : va_G} {l : Launch} : zSO zD0 D l pT sm_x211 := zfl1 rn_x211 zHn hp_T
-- X9_walk
def sm_x212 : zSm := (292, (2, 91), [.inr (.inl (some 29)), .inr (.inl (some 34)), .inl (5, 5), .inl (0, 63), .inl ((-2147483648), 2147483647), .inl ((-2147483648), 2147483647)], none, [1858, 1920, 1984], [], (([], []), [([], [], [])]))
def ct_x212 : zCt := [(49, [(0, .inr (.inl (some 29))), (1, .inr (.inl (some 34))), (2, .inl (5, 5)), (3, .inl (0, 63)), (4, .inl ((-2147483648), 2147483647)), (5, .inl ((-2147483648), 2147483646)), (6, .inl (0, 6))], [], [.inl 1, .inr (true, 6), .inl 0], ([], [], [], []))]
def tb_x212 : zTb := ([sm_x211], zdec, zprs)
def cm_x212 : List (Nat × List Nat) := [(292, [0])]
theorem rn_x212 : zgood tb_x212 cm_x212 1 sm_x212 ct_x212 20000 = true := by decide +kernel
theorem so_x212 {D : va_G} {l : Launch} : zSO zD0 D l pT sm_x212 := zfl1 rn_x212 (zHc so_x211 zHn) hp_T
-- X9_walk
def sm_x213 : zSm := (292, (3, 118), [.inr (.inl (some 29)), .inr (.inl (some 34)), .inl (4, 4), .inl (0, 63), .inl ((-2147483648), 2147483647), .inl ((-2147483648), 2147483647)], none, [1858, 1920, 1984], [], (([], []), [([], [], [])]))
def ct_x213 : zCt := [(49, [(0, .inr (.inl (some 29))), (1, .inr (.inl (some 34))), (2, .inl (4, 4)), (3, .inl (0, 63)), (4, .inl ((-2147483648), 2147483647)), (5, .inl ((-2147483648), 2147483646)), (6, .inl (0, 6))], [], [.inl 1, .inr (true, 6), .inl 0], ([], [], [], []))]
def tb_x213 : zTb := ([sm_x212], zdec, zprs)
def cm_x213 : List (Nat × List Nat) := [(292, [0])]
theorem rn_x213 : zgood tb_x213 cm_x213 1 sm_x213 ct_x213 20000 = true := by decide +kernel
theorem so_x213 {D : va_G} {l : Launch} : zSO zD0 D l pT sm_x213 := zfl1 rn_x213 (zHc so_x212 zHn) hp_T
-- X9_walk
def sm_x214 : zSm := (292, (4, 145), [.inr (.inl (some 29)), .inr (.inl (some 34)), .inl (3, 3), .inl (0, 63), .inl ((-2147483648), 2147483647), .inl ((-2147483648), 2147483647)], none, [1858, 1920, 1984], [], (([], []), [([], [], [])]))
def ct_x214 : zCt := [(49, [(0, .inr (.inl (some 29))), (1, .inr (.inl (some 34))), (2, .inl (3, 3)), (3, .inl (0, 63)), (4, .inl ((-2147483648), 2147483647)), (5, .inl ((-2147483648), 2147483646)), (6, .inl (0, 6))], [], [.inl 1, .inr (true, 6), .inl 0], ([], [], [], []))]
def tb_x214 : zTb := ([sm_x213], zdec, zprs)
def cm_x214 : List (Nat × List Nat) := [(292, [0])]
theorem rn_x214 : zgood tb_x214 cm_x214 1 sm_x214 ct_x214 20000 = true := by decide +kernel
theorem so_x214 {D : va_G} {l : Launch} : zSO zD0 D l pT sm_x214 := zfl1 rn_x214 (zHc so_x213 zHn) hp_T
-- X9_walk
def sm_x215 : zSm := (292, (5, 172), [.inr (.inl (some 29)), .inr (.inl (some 34)), .inl (2, 2), .inl (0, 63), .inl ((-2147483648), 2147483647), .inl ((-2147483648), 2147483647)], none, [1858, 1920, 1984], [], (([], []), [([], [], [])]))
def ct_x215 : zCt := [(49, [(0, .inr (.inl (some 29))), (1, .inr (.inl (some 34))), (2, .inl (2, 2)), (3, .inl (0, 63)), (4, .inl ((-2147483648), 2147483647)), (5, .inl ((-2147483648), 2147483646)), (6, .inl (0, 6))], [], [.inl 1, .inr (true, 6), .inl 0], ([], [], [], []))]
def tb_x215 : zTb := ([sm_x214], zdec, zprs)
def cm_x215 : List (Nat × List Nat) := [(292, [0])]
theorem rn_x215 : zgood tb_x215 cm_x215 1 sm_x215 ct_x215 20000 = true := by decide +kernel
theorem so_x215 {D : va_G} {l : Launch} : zSO zD0 D l pT sm_x215 := zfl1 rn_x215 (zHc so_x214 zHn) hp_T
-- X9_walk
def sm_x216 : zSm := (292, (6, 199), [.inr (.inl (some 29)), .inr (.inl (some 34)), .inl (1, 1), .inl (0, 63), .inl ((-2147483648), 2147483647), .inl ((-2147483648), 2147483647)], none, [1858, 1920, 1984], [], (([], []), [([], [], [])]))
def ct_x216 : zCt := [(49, [(0, .inr (.inl (some 29))), (1, .inr (.inl (some 34))), (2, .inl (1, 1)), (3, .inl (0, 63)), (4, .inl ((-2147483648), 2147483647)), (5, .inl ((-2147483648), 2147483646)), (6, .inl (0, 6))], [], [.inl 1, .inr (true, 6), .inl 0], ([], [], [], []))]
def tb_x216 : zTb := ([sm_x215], zdec, zprs)
def cm_x216 : List (Nat × List Nat) := [(292, [0])]
theorem rn_x216 : zgood tb_x216 cm_x216 1 sm_x216 ct_x216 20000 = true := by decide +kernel
theorem so_x216 {D : va_G} {l : Launch} : zSO zD0 D l pT sm_x216 := zfl1 rn_x216 (zHc so_x215 zHn) hp_T
-- X9_walk
def sm_x217 : zSm := (292, (7, 226), [.inr (.inl (some 29)), .inr (.inl (some 34)), .inl (0, 0), .inl (0, 0), .inl ((-2147483648), 2147483647), .inl (0, 0)], none, [1858, 1920, 1984], [], (([], []), [([], [], [])]))
def ct_x217 : zCt := [(49, [(0, .inr (.inl (some 29))), (1, .inr (.inl (some 34))), (2, .inl (0, 0)), (3, .inl (0, 0)), (4, .inl ((-2147483648), 2147483647)), (5, .inl (0, 0)), (6, .inl (0, 6))], [], [.inl 1, .inr (true, 6), .inl 0], ([], [], [], []))]
def tb_x217 : zTb := ([sm_x216], zdec, zprs)
def cm_x217 : List (Nat × List Nat) := [(292, [0])]
theorem rn_x217 : zgood tb_x217 cm_x217 1 sm_x217 ct_x217 20000 = true := by decide +kernel
theorem so_x217 {D : va_G} {l : Launch} : zSO zD0 D l pT sm_x217 := zfl1 rn_x217 (zHc so_x216 zHn) hp_T
-- X9_findRound
def sm_x218 : zSm := (289, (8, 253), [.inr (.inl (some 29)), .inr (.inl (some 34)), .inl ((-2147483648), 2147483647)], some (.inl ((-2147483648), 2147483647)), [1858, 1920, 1984], [], (([], []), [([], [], [])]))
def ct_x218 : zCt := []
def tb_x218 : zTb := ([sm_x217], zdec, zprs)
def cm_x218 : List (Nat × List Nat) := [(292, [0])]
theorem rn_x218 : zgood tb_x218 cm_x218 1 sm_x218 ct_x218 20000 = true := by decide +kernel
theorem so_x218 {D : va_G} {l : Launch} : zSO zD0 D l pT sm_x218 := zfl1 rn_x218 (zHc so_x217 zHn) hp_T
-- X9_walk
def sm_x219 : zSm := (292, (1, 64), [.inr (.inl (some 29)), .inr (.inl (some 45)), .inl (6, 6), .inl (0, 63), .inl ((-2147483648), 2147483647), .inl ((-2147483648), 2147483647)], none, [1858, 1920], [], (([], []), [([], [], [])]))
def ct_x219 : zCt := []
def tb_x219 : zTb := ([], zdec, zprs)
def cm_x219 : List (Nat × List Nat) := []
theorem rn_x219 : zgood tb_x219 cm_x219 0 sm_x219 ct_x219 20000 = true := by decide +kernel
theorem so_x219 {D : va_G} {l : Launch} : zSO zD0 D l pT sm_x219 := zfl1 rn_x219 zHn hp_T
-- X9_walk
def sm_x220 : zSm := (292, (2, 91), [.inr (.inl (some 29)), .inr (.inl (some 45)), .inl (5, 5), .inl (0, 63), .inl ((-2147483648), 2147483647), .inl ((-2147483648), 2147483647)], none, [1858, 1920, 1984], [], (([], []), [([], [], [])]))
def ct_x220 : zCt := [(49, [(0, .inr (.inl (some 29))), (1, .inr (.inl (some 45))), (2, .inl (5, 5)), (3, .inl (0, 63)), (4, .inl ((-2147483648), 2147483647)), (5, .inl ((-2147483648), 2147483646)), (6, .inl (0, 6))], [], [.inl 1, .inr (true, 6), .inl 0], ([], [], [], []))]
def tb_x220 : zTb := ([sm_x219], zdec, zprs)
def cm_x220 : List (Nat × List Nat) := [(292, [0])]
theorem rn_x220 : zgood tb_x220 cm_x220 1 sm_x220 ct_x220 20000 = true := by decide +kernel
theorem so_x220 {D : va_G} {l : Launch} : zSO zD0 D l pT sm_x220 := zfl1 rn_x220 (zHc so_x219 zHn) hp_T
-- X9_walk
def sm_x221 : zSm := (292, (3, 118), [.inr (.inl (some 29)), .inr (.inl (some 45)), .inl (4, 4), .inl (0, 63), .inl ((-2147483648), 2147483647), .inl ((-2147483648), 2147483647)], none, [1858, 1920, 1984], [], (([], []), [([], [], [])]))
def ct_x221 : zCt := [(49, [(0, .inr (.inl (some 29))), (1, .inr (.inl (some 45))), (2, .inl (4, 4)), (3, .inl (0, 63)), (4, .inl ((-2147483648), 2147483647)), (5, .inl ((-2147483648), 2147483646)), (6, .inl (0, 6))], [], [.inl 1, .inr (true, 6), .inl 0], ([], [], [], []))]
def tb_x221 : zTb := ([sm_x220], zdec, zprs)
def cm_x221 : List (Nat × List Nat) := [(292, [0])]
theorem rn_x221 : zgood tb_x221 cm_x221 1 sm_x221 ct_x221 20000 = true := by decide +kernel
theorem so_x221 {D : va_G} {l : Launch} : zSO zD0 D l pT sm_x221 := zfl1 rn_x221 (zHc so_x220 zHn) hp_T
-- X9_walk
def sm_x222 : zSm := (292, (4, 145), [.inr (.inl (some 29)), .inr (.inl (some 45)), .inl (3, 3), .inl (0, 63), .inl ((-2147483648), 2147483647), .inl ((-2147483648), 2147483647)], none, [1858, 1920, 1984], [], (([], []), [([], [], [])]))
def ct_x222 : zCt := [(49, [(0, .inr (.inl (some 29))), (1, .inr (.inl (some 45))), (2, .inl (3, 3)), (3, .inl (0, 63)), (4, .inl ((-2147483648), 2147483647)), (5, .inl ((-2147483648), 2147483646)), (6, .inl (0, 6))], [], [.inl 1, .inr (true, 6), .inl 0], ([], [], [], []))]
def tb_x222 : zTb := ([sm_x221], zdec, zprs)
def cm_x222 : List (Nat × List Nat) := [(292, [0])]
theorem rn_x222 : zgood tb_x222 cm_x222 1 sm_x222 ct_x222 20000 = true := by decide +kernel
theorem so_x222 {D : va_G} {l : Launch} : zSO zD0 D l pT sm_x222 := zfl1 rn_x222 (zHc so_x221 zHn) hp_T
-- X9_walk
def sm_x223 : zSm := (292, (5, 172), [.inr (.inl (some 29)), .inr (.inl (some 45)), .inl (2, 2), .inl (0, 63), .inl ((-2147483648), 2147483647), .inl ((-2147483648), 2147483647)], none, [1858, 1920, 1984], [], (([], []), [([], [], [])]))
def ct_x223 : zCt := [(49, [(0, .inr (.inl (some 29))), (1, .inr (.inl (some 45))), (2, .inl (2, 2)), (3, .inl (0, 63)), (4, .inl ((-2147483648), 2147483647)), (5, .inl ((-2147483648), 2147483646)), (6, .inl (0, 6))], [], [.inl 1, .inr (true, 6), .inl 0], ([], [], [], []))]
def tb_x223 : zTb := ([sm_x222], zdec, zprs)
def cm_x223 : List (Nat × List Nat) := [(292, [0])]
theorem rn_x223 : zgood tb_x223 cm_x223 1 sm_x223 ct_x223 20000 = true := by decide +kernel
theorem so_x223 {D : va_G} {l : Launch} : zSO zD0 D l pT sm_x223 := zfl1 rn_x223 (zHc so_x222 zHn) hp_T
-- X9_walk
def sm_x224 : zSm := (292, (6, 199), [.inr (.inl (some 29)), .inr (.inl (some 45)), .inl (1, 1), .inl (0, 63), .inl ((-2147483648), 2147483647), .inl ((-2147483648), 2147483647)], none, [1858, 1920, 1984], [], (([], []), [([], [], [])]))
def ct_x224 : zCt := [(49, [(0, .inr (.inl (some 29))), (1, .inr (.inl (some 45))), (2, .inl (1, 1)), (3, .inl (0, 63)), (4, .inl ((-2147483648), 2147483647)), (5, .inl ((-2147483648), 2147483646)), (6, .inl (0, 6))], [], [.inl 1, .inr (true, 6), .inl 0], ([], [], [], []))]
def tb_x224 : zTb := ([sm_x223], zdec, zprs)
def cm_x224 : List (Nat × List Nat) := [(292, [0])]
theorem rn_x224 : zgood tb_x224 cm_x224 1 sm_x224 ct_x224 20000 = true := by decide +kernel
theorem so_x224 {D : va_G} {l : Launch} : zSO zD0 D l pT sm_x224 := zfl1 rn_x224 (zHc so_x223 zHn) hp_T
-- X9_walk
def sm_x225 : zSm := (292, (7, 226), [.inr (.inl (some 29)), .inr (.inl (some 45)), .inl (0, 0), .inl (0, 0), .inl ((-2147483648), 2147483647), .inl (0, 0)], none, [1858, 1920, 1984], [], (([], []), [([], [], [])]))
def ct_x225 : zCt := [(49, [(0, .inr (.inl (some 29))), (1, .inr (.inl (some 45))), (2, .inl (0, 0)), (3, .inl (0, 0)), (4, .inl ((-2147483648), 2147483647)), (5, .inl (0, 0)), (6, .inl (0, 6))], [], [.inl 1, .inr (true, 6), .inl 0], ([], [], [], []))]
def tb_x225 : zTb := ([sm_x224], zdec, zprs)
def cm_x225 : List (Nat × List Nat) := [(292, [0])]
theorem rn_x225 : zgood tb_x225 cm_x225 1 sm_x225 ct_x225 20000 = true := by decide +kernel
theorem so_x225 {D : va_G} {l : Launch} : zSO zD0 D l pT sm_x225 := zfl1 rn_x225 (zHc so_x224 zHn) hp_T
-- X9_findRound
def sm_x226 : zSm := (289, (8, 253), [.inr (.inl (some 29)), .inr (.inl (some 45)), .inl ((-2147483648), 2147483647)], some (.inl ((-2147483648), 2147483647)), [1858, 1920, 1984], [], (([], []), [([], [], [])]))
def ct_x226 : zCt := []
def tb_x226 : zTb := ([sm_x225], zdec, zprs)
def cm_x226 : List (Nat × List Nat) := [(292, [0])]
theorem rn_x226 : zgood tb_x226 cm_x226 1 sm_x226 ct_x226 20000 = true := by decide +kernel
theorem so_x226 {D : va_G} {l : Launch} : zSO zD0 D l pT sm_x226 := zfl1 rn_x226 (zHc so_x225 zHn) hp_T
-- X10_round
def sm_x227 : zSm := (54, (9, 275), [.inr (.inl (some 0)), .inl ((-2147483648), 2147483647)], some (.inl ((-2147483648), 2147483647)), [13, 1858, 1920, 1984, 2112], [], (([], []), [([], [], [])]))
def ct_x227 : zCt := [(41, [(0, .inr (.inl (some 0))), (1, .inl (0, 3)), (2, .inl ((-2147483648), 2147483647)), (3, .inl (0, 6))], [], [.inl 1, .inr (true, 3), .inl 0], ([], [], [], []))]
def tb_x227 : zTb := ([sm_x218, sm_x226], zdec, zprs)
def cm_x227 : List (Nat × List Nat) := [(289, [0, 1])]
theorem rn_x227 : zgood tb_x227 cm_x227 2 sm_x227 ct_x227 20000 = true := by decide +kernel
theorem so_x227 {D : va_G} {l : Launch} : zSO zD0 D l pT sm_x227 := zfl1 rn_x227 (zHc so_x218 (zHc so_x226 zHn)) hp_T
