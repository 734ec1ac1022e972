-- X9_wayTo
def sm_x228 : zSm := (293, (1, 64), [.inr (.inl (some 34)), .inl ((-2147483648), 2147483647), .inl (1, 63)], some (.inl ((-2147483648), 2147483647)), [], [], (([], []), [([], [], [])]))
def ct_x228 : zCt := [(8, [(0, .inr (.inl (some 34))), (1, .inl ((-2147483648), 2147483647)), (2, .inl (1, 63)), (3, .inl ((-2147483648), 2147483647)), (4, .inl ((-2147483648), 2147483647)), (5, .inl (0, 6))], [], [.inl 1, .inr (true, 5), .inl 0], ([], [], [], []))]
def tb_x228 : zTb := ([], zdec, zprs)
def cm_x228 : List (Nat × List Nat) := []
theorem rn_x228 : zgood tb_x228 cm_x228 0 sm_x228 ct_x228 20000 = true := by decide +kernel
theorem so_x228 {D : va_G} {l : Launch} : zSO zD0 D l pT sm_x228 := zfl1 rn_x228 zHn hp_T
-- X9_mostWithin
def sm_x229 : zSm := (291, (2, 89), [.inr (.inl (some 34)), .inl ((-2147483648), 2147483647), .inl (0, 999)], some (.inl (0, 63)), [], [], (([], []), [([], [], [])]))
def ct_x229 : zCt := [(5, [(0, .inr (.inl (some 34))), (1, .inl ((-2147483648), 2147483647)), (2, .inl (0, 999)), (3, .inl (0, 63)), (4, .inl (1, 64))], [], [.inl 1, .inr (true, 4), .inl 0], ([], [], [], []))]
def tb_x229 : zTb := ([sm_x228], zdec, zprs)
def cm_x229 : List (Nat × List Nat) := [(293, [0])]
theorem rn_x229 : zgood tb_x229 cm_x229 1 sm_x229 ct_x229 20000 = true := by decide +kernel
theorem so_x229 {D : va_G} {l : Launch} : zSO zD0 D l pT sm_x229 := zfl1 rn_x229 (zHc so_x228 zHn) hp_T
-- X9_wayTo
def sm_x230 : zSm := (293, (1, 64), [.inr (.inl (some 45)), .inl ((-2147483648), 2147483647), .inl (1, 63)], some (.inl ((-2147483648), 2147483647)), [], [], (([], []), [([], [], [])]))
def ct_x230 : zCt := [(8, [(0, .inr (.inl (some 45))), (1, .inl ((-2147483648), 2147483647)), (2, .inl (1, 63)), (3, .inl ((-2147483648), 2147483647)), (4, .inl ((-2147483648), 2147483647)), (5, .inl (0, 6))], [], [.inl 1, .inr (true, 5), .inl 0], ([], [], [], []))]
def tb_x230 : zTb := ([], zdec, zprs)
def cm_x230 : List (Nat × List Nat) := []
theorem rn_x230 : zgood tb_x230 cm_x230 0 sm_x230 ct_x230 20000 = true := by decide +kernel
theorem so_x230 {D : va_G} {l : Launch} : zSO zD0 D l pT sm_x230 := zfl1 rn_x230 zHn hp_T
-- X9_mostWithin
def sm_x231 : zSm := (291, (2, 89), [.inr (.inl (some 45)), .inl ((-2147483648), 2147483647), .inl (0, 999)], some (.inl (0, 63)), [], [], (([], []), [([], [], [])]))
def ct_x231 : zCt := [(5, [(0, .inr (.inl (some 45))), (1, .inl ((-2147483648), 2147483647)), (2, .inl (0, 999)), (3, .inl (0, 63)), (4, .inl (1, 64))], [], [.inl 1, .inr (true, 4), .inl 0], ([], [], [], []))]
def tb_x231 : zTb := ([sm_x230], zdec, zprs)
def cm_x231 : List (Nat × List Nat) := [(293, [0])]
theorem rn_x231 : zgood tb_x231 cm_x231 1 sm_x231 ct_x231 20000 = true := by decide +kernel
theorem so_x231 {D : va_G} {l : Launch} : zSO zD0 D l pT sm_x231 := zfl1 rn_x231 (zHc so_x230 zHn) hp_T
-- X10_twelve
def sm_x232 : zSm := (66, (3, 114), [.inr (.inl (some 0)), .inl ((-2147483648), 2147483647), .inl ((-2147483648), 2147483647), .inl ((-2147483648), 2147483647)], some (.inl ((-1), 63)), [], [], (([], []), [([], [], [])]))
def ct_x232 : zCt := []
def tb_x232 : zTb := ([sm_x229, sm_x231], zdec, zprs)
def cm_x232 : List (Nat × List Nat) := [(291, [0, 1])]
theorem rn_x232 : zgood tb_x232 cm_x232 2 sm_x232 ct_x232 20000 = true := by decide +kernel
theorem so_x232 {D : va_G} {l : Launch} : zSO zD0 D l pT sm_x232 := zfl1 rn_x232 (zHc so_x229 (zHc so_x231 zHn)) hp_T
-- X3_askFor
def sm_x233 : zSm := (216, (2, 86), [.inr (.inl (some 23)), .inr (.inl (some 34)), .inl (0, 5), .inl ((-1), 3)], none, [1536, 1792], [], (([], []), [([], [], [])]))
def ct_x233 : zCt := [(15, [(0, .inr (.inl (some 23))), (1, .inr (.inl (some 34))), (2, .inl (0, 5)), (3, .inl (0, 3)), (4, .inl ((-1), 5)), (5, .inl (0, 6))], [], [.inl 1, .inr (true, 5), .inl 0], ([], [], [], []))]
def tb_x233 : zTb := ([], zdec, zprs)
def cm_x233 : List (Nat × List Nat) := []
theorem rn_x233 : zgood tb_x233 cm_x233 0 sm_x233 ct_x233 20000 = true := by decide +kernel
theorem so_x233 {D : va_G} {l : Launch} : zSO zD0 D l pT sm_x233 := zfl1 rn_x233 zHn hp_T
-- X3_dearest
def sm_x234 : zSm := (218, (1, 64), [.inr (.inl (some 23)), .inl (0, 5)], some (.inl ((-1), 3)), [], [], (([], []), [([], [], [])]))
def ct_x234 : zCt := [(7, [(0, .inr (.inl (some 23))), (1, .inl (0, 5)), (2, .inl ((-1), 3)), (3, .inl (0, 2147483647)), (4, .inl (0, 4))], [], [.inl 1, .inr (true, 4), .inl 0], ([], [], [], []))]
def tb_x234 : zTb := ([], zdec, zprs)
def cm_x234 : List (Nat × List Nat) := []
theorem rn_x234 : zgood tb_x234 cm_x234 0 sm_x234 ct_x234 20000 = true := by decide +kernel
theorem so_x234 {D : va_G} {l : Launch} : zSO zD0 D l pT sm_x234 := zfl1 rn_x234 zHn hp_T
-- X3_nextAsking
def sm_x235 : zSm := (223, (2, 89), [.inr (.inl (some 23))], some (.inl ((-1), 5)), [], [], (([], []), [([], [], [])]))
def ct_x235 : zCt := [(2, [(0, .inr (.inl (some 23))), (1, .inl (0, 6))], [], [.inl 1, .inr (true, 1), .inl 0], ([], [], [], []))]
def tb_x235 : zTb := ([sm_x234], zdec, zprs)
def cm_x235 : List (Nat × List Nat) := [(218, [0])]
theorem rn_x235 : zgood tb_x235 cm_x235 1 sm_x235 ct_x235 20000 = true := by decide +kernel
theorem so_x235 {D : va_G} {l : Launch} : zSO zD0 D l pT sm_x235 := zfl1 rn_x235 (zHc so_x234 zHn) hp_T
-- X3_findStable
def sm_x236 : zSm := (220, (6, 191), [.inr (.inl (some 23)), .inr (.inl (some 34)), .inr (.inl (some 6))], some (.inl ((-2147483648), 2147483647)), [1475, 1476, 1536, 1600, 1664, 1792, 2368, 2432], [], (([], []), [([], [], [])]))
def ct_x236 : zCt := [(8, [(0, .inr (.inl (some 23))), (1, .inr (.inl (some 34))), (2, .inr (.inl (some 6))), (3, .inl (0, 24))], [], [.inl 2, .inr (true, 3), .inl 0], ([], [], [], [])),
  (50, [(0, .inr (.inl (some 23))), (1, .inr (.inl (some 34))), (2, .inr (.inl (some 6))), (3, .inl ((-2147483648), 2147483647)), (4, .inl (0, 6))], [], [.inl 1, .inr (true, 4), .inl 0], ([], [], [], []))]
def tb_x236 : zTb := ([sm_x199, sm_x233, sm_x234, sm_x235], zdec, zprs)
def cm_x236 : List (Nat × List Nat) := [(216, [1]), (217, [0]), (218, [2]), (223, [3])]
theorem rn_x236 : zgood tb_x236 cm_x236 4 sm_x236 ct_x236 20000 = true := by decide +kernel
theorem so_x236 {D : va_G} {l : Launch} : zSO zD0 D l pT sm_x236 := zfl1 rn_x236 (zHc so_x199 (zHc so_x233 (zHc so_x234 (zHc so_x235 zHn)))) hp_T
-- X3_askFor
def sm_x237 : zSm := (216, (2, 86), [.inr (.inl (some 23)), .inr (.inl (some 45)), .inl (0, 5), .inl ((-1), 3)], none, [1536, 1792], [], (([], []), [([], [], [])]))
def ct_x237 : zCt := [(15, [(0, .inr (.inl (some 23))), (1, .inr (.inl (some 45))), (2, .inl (0, 5)), (3, .inl (0, 3)), (4, .inl ((-1), 5)), (5, .inl (0, 6))], [], [.inl 1, .inr (true, 5), .inl 0], ([], [], [], []))]
def tb_x237 : zTb := ([], zdec, zprs)
def cm_x237 : List (Nat × List Nat) := []
theorem rn_x237 : zgood tb_x237 cm_x237 0 sm_x237 ct_x237 20000 = true := by decide +kernel
theorem so_x237 {D : va_G} {l : Launch} : zSO zD0 D l pT sm_x237 := zfl1 rn_x237 zHn hp_T
-- X3_findStable
def sm_x238 : zSm := (220, (6, 191), [.inr (.inl (some 23)), .inr (.inl (some 45)), .inr (.inl (some 6))], some (.inl ((-2147483648), 2147483647)), [1475, 1476, 1536, 1600, 1664, 1792, 3072, 3136], [], (([], []), [([], [], [])]))
def ct_x238 : zCt := [(8, [(0, .inr (.inl (some 23))), (1, .inr (.inl (some 45))), (2, .inr (.inl (some 6))), (3, .inl (0, 24))], [], [.inl 2, .inr (true, 3), .inl 0], ([], [], [], [])),
  (50, [(0, .inr (.inl (some 23))), (1, .inr (.inl (some 45))), (2, .inr (.inl (some 6))), (3, .inl ((-2147483648), 2147483647)), (4, .inl (0, 6))], [], [.inl 1, .inr (true, 4), .inl 0], ([], [], [], []))]
def tb_x238 : zTb := ([sm_x208, sm_x234, sm_x235, sm_x237], zdec, zprs)
def cm_x238 : List (Nat × List Nat) := [(216, [3]), (217, [0]), (218, [1]), (223, [2])]
theorem rn_x238 : zgood tb_x238 cm_x238 4 sm_x238 ct_x238 20000 = true := by decide +kernel
theorem so_x238 {D : va_G} {l : Launch} : zSO zD0 D l pT sm_x238 := zfl1 rn_x238 (zHc so_x208 (zHc so_x234 (zHc so_x235 (zHc so_x237 zHn)))) hp_T
-- X10_stable
def sm_x239 : zSm := (61, (7, 215), [.inr (.inl (some 0))], some (.inl ((-2147483648), 2147483647)), [13, 1475, 1476, 1536, 1600, 1664, 1792, 2112, 2368, 2432, 3072, 3136], [], (([], []), [([], [], [])]))
def ct_x239 : zCt := []
def tb_x239 : zTb := ([sm_x196, sm_x236, sm_x238], zdec, zprs)
def cm_x239 : List (Nat × List Nat) := [(39, [0]), (220, [1, 2])]
theorem rn_x239 : zgood tb_x239 cm_x239 3 sm_x239 ct_x239 20000 = true := by decide +kernel
theorem so_x239 {D : va_G} {l : Launch} : zSO zD0 D l pT sm_x239 := zfl1 rn_x239 (zHc so_x196 (zHc so_x236 (zHc so_x238 zHn))) hp_T
-- X10_jealous
def sm_x240 : zSm := (35, (6, 191), [.inr (.inl (some 0)), .inl ((-2147483648), 2147483647)], some (.inl ((-2147483648), 2147483647)), [2368, 2432, 3072, 3136], [], (([], []), [([], [], [])]))
def ct_x240 : zCt := [(10, [(0, .inr (.inl (some 0))), (1, .inl ((-2147483648), 2147483647)), (2, .inl ((-2147483648), 2147483647)), (3, .inl ((-1), 5)), (4, .inl ((-1), 3)), (5, .inl (0, 6))], [], [.inl 1, .inr (true, 5), .inl 1000, .inl 0, .inl 0], ([], [], [], [])),
  (25, [(0, .inr (.inl (some 0))), (1, .inl ((-2147483648), 2147483647)), (2, .inl ((-2147483648), 2147483647)), (3, .inl ((-1), 5)), (4, .inl ((-1), 3)), (5, .inl (0, 5)), (6, .inl (0, 4))], [], [.inl 1, .inr (true, 5), .inl 1, .inr (true, 6), .inl 0], ([], [], [], []))]
def tb_x240 : zTb := ([sm_x166, sm_x168, sm_x169], zdec, zprs)
def cm_x240 : List (Nat × List Nat) := [(237, [1, 2]), (276, [0])]
theorem rn_x240 : zgood tb_x240 cm_x240 3 sm_x240 ct_x240 20000 = true := by decide +kernel
theorem so_x240 {D : va_G} {l : Launch} : zSO zD0 D l pT sm_x240 := zfl1 rn_x240 (zHc so_x166 (zHc so_x168 (zHc so_x169 zHn))) hp_T
-- X0_burn
def sm_x241 : zSm := (4, (3, 108), [.inr (.inl (some 32)), .inl (8, 8), .inl ((-2147483648), 2147483647), .inl ((-2147483648), 2147483647), .inl (0, 8)], none, [2048, 2049], [(32, 2, 34), (32, 3, 6)], (([], []), [([], [], [])]))
def ct_x241 : zCt := []
def tb_x241 : zTb := ([], zdec, zprs)
def cm_x241 : List (Nat × List Nat) := []
theorem rn_x241 : zgood tb_x241 cm_x241 0 sm_x241 ct_x241 20000 = true := by decide +kernel
theorem so_x241 {D : va_G} {l : Launch} : zSO zD0 D l pT sm_x241 := zfl1 rn_x241 zHn hp_T
-- X0_burn
def sm_x242 : zSm := (4, (5, 170), [.inr (.inl (some 32)), .inl (7, 7), .inl ((-2147483648), 2147483647), .inl ((-2147483648), 2147483647), .inl (0, 7)], none, [2048, 2049, 2368, 2432], [(32, 2, 34), (32, 3, 6)], (([], []), [([], [], [])]))
def ct_x242 : zCt := [(51, [(0, .inr (.inl (some 32))), (1, .inl (7, 7)), (2, .inl ((-2147483648), 2147483647)), (3, .inl ((-2147483648), 2147483647)), (4, .inl (0, 7)), (5, .inl (0, 1)), (6, .inl (0, 2))], [], [.inl 1, .inr (true, 6), .inl 0], ([], [], [], []))]
def tb_x242 : zTb := ([sm_x159, sm_x241], zdec, zprs)
def cm_x242 : List (Nat × List Nat) := [(4, [1]), (231, [0])]
theorem rn_x242 : zgood tb_x242 cm_x242 2 sm_x242 ct_x242 20000 = true := by decide +kernel
theorem so_x242 {D : va_G} {l : Launch} : zSO zD0 D l pT sm_x242 := zfl1 rn_x242 (zHc so_x159 (zHc so_x241 zHn)) hp_T
-- X0_burn
def sm_x243 : zSm := (4, (6, 199), [.inr (.inl (some 32)), .inl (6, 6), .inl ((-2147483648), 2147483647), .inl ((-2147483648), 2147483647), .inl (0, 6)], none, [2048, 2049, 2368, 2432], [(32, 2, 34), (32, 3, 6)], (([], []), [([], [], [])]))
def ct_x243 : zCt := [(51, [(0, .inr (.inl (some 32))), (1, .inl (6, 6)), (2, .inl ((-2147483648), 2147483647)), (3, .inl ((-2147483648), 2147483647)), (4, .inl (0, 6)), (5, .inl (0, 1)), (6, .inl (0, 2))], [], [.inl 1, .inr (true, 6), .inl 0], ([], [], [], []))]
def tb_x243 : zTb := ([sm_x159, sm_x242], zdec, zprs)
def cm_x243 : List (Nat × List Nat) := [(4, [1]), (231, [0])]
theorem rn_x243 : zgood tb_x243 cm_x243 2 sm_x243 ct_x243 20000 = true := by decide +kernel
theorem so_x243 {D : va_G} {l : Launch} : zSO zD0 D l pT sm_x243 := zfl1 rn_x243 (zHc so_x159 (zHc so_x242 zHn)) hp_T
-- X0_burn
def sm_x244 : zSm := (4, (7, 228), [.inr (.inl (some 32)), .inl (5, 5), .inl ((-2147483648), 2147483647), .inl ((-2147483648), 2147483647), .inl (0, 5)], none, [2048, 2049, 2368, 2432], [(32, 2, 34), (32, 3, 6)], (([], []), [([], [], [])]))
def ct_x244 : zCt := [(51, [(0, .inr (.inl (some 32))), (1, .inl (5, 5)), (2, .inl ((-2147483648), 2147483647)), (3, .inl ((-2147483648), 2147483647)), (4, .inl (0, 5)), (5, .inl (0, 1)), (6, .inl (0, 2))], [], [.inl 1, .inr (true, 6), .inl 0], ([], [], [], []))]
def tb_x244 : zTb := ([sm_x159, sm_x243], zdec, zprs)
def cm_x244 : List (Nat × List Nat) := [(4, [1]), (231, [0])]
theorem rn_x244 : zgood tb_x244 cm_x244 2 sm_x244 ct_x244 20000 = true := by decide +kernel
theorem so_x244 {D : va_G} {l : Launch} : zSO zD0 D l pT sm_x244 := zfl1 rn_x244 (zHc so_x159 (zHc so_x243 zHn)) hp_T
-- X0_burn
def sm_x245 : zSm := (4, (8, 257), [.inr (.inl (some 32)), .inl (4, 4), .inl ((-2147483648), 2147483647), .inl ((-2147483648), 2147483647), .inl (0, 4)], none, [2048, 2049, 2368, 2432], [(32, 2, 34), (32, 3, 6)], (([], []), [([], [], [])]))
def ct_x245 : zCt := [(51, [(0, .inr (.inl (some 32))), (1, .inl (4, 4)), (2, .inl ((-2147483648), 2147483647)), (3, .inl ((-2147483648), 2147483647)), (4, .inl (0, 4)), (5, .inl (0, 1)), (6, .inl (0, 2))], [], [.inl 1, .inr (true, 6), .inl 0], ([], [], [], []))]
def tb_x245 : zTb := ([sm_x159, sm_x244], zdec, zprs)
def cm_x245 : List (Nat × List Nat) := [(4, [1]), (231, [0])]
theorem rn_x245 : zgood tb_x245 cm_x245 2 sm_x245 ct_x245 20000 = true := by decide +kernel
theorem so_x245 {D : va_G} {l : Launch} : zSO zD0 D l pT sm_x245 := zfl1 rn_x245 (zHc so_x159 (zHc so_x244 zHn)) hp_T
-- X0_burn
def sm_x246 : zSm := (4, (9, 286), [.inr (.inl (some 32)), .inl (3, 3), .inl ((-2147483648), 2147483647), .inl ((-2147483648), 2147483647), .inl (0, 3)], none, [2048, 2049, 2368, 2432], [(32, 2, 34), (32, 3, 6)], (([], []), [([], [], [])]))
def ct_x246 : zCt := [(51, [(0, .inr (.inl (some 32))), (1, .inl (3, 3)), (2, .inl ((-2147483648), 2147483647)), (3, .inl ((-2147483648), 2147483647)), (4, .inl (0, 3)), (5, .inl (0, 1)), (6, .inl (0, 2))], [], [.inl 1, .inr (true, 6), .inl 0], ([], [], [], []))]
def tb_x246 : zTb := ([sm_x159, sm_x245], zdec, zprs)
def cm_x246 : List (Nat × List Nat) := [(4, [1]), (231, [0])]
theorem rn_x246 : zgood tb_x246 cm_x246 2 sm_x246 ct_x246 20000 = true := by decide +kernel
theorem so_x246 {D : va_G} {l : Launch} : zSO zD0 D l pT sm_x246 := zfl1 rn_x246 (zHc so_x159 (zHc so_x245 zHn)) hp_T
-- X0_burn
def sm_x247 : zSm := (4, (10, 315), [.inr (.inl (some 32)), .inl (2, 2), .inl ((-2147483648), 2147483647), .inl ((-2147483648), 2147483647), .inl (0, 2)], none, [2048, 2049, 2368, 2432], [(32, 2, 34), (32, 3, 6)], (([], []), [([], [], [])]))
def ct_x247 : zCt := [(51, [(0, .inr (.inl (some 32))), (1, .inl (2, 2)), (2, .inl ((-2147483648), 2147483647)), (3, .inl ((-2147483648), 2147483647)), (4, .inl (0, 2)), (5, .inl (0, 1)), (6, .inl (0, 2))], [], [.inl 1, .inr (true, 6), .inl 0], ([], [], [], []))]
def tb_x247 : zTb := ([sm_x159, sm_x246], zdec, zprs)
def cm_x247 : List (Nat × List Nat) := [(4, [1]), (231, [0])]
theorem rn_x247 : zgood tb_x247 cm_x247 2 sm_x247 ct_x247 20000 = true := by decide +kernel
theorem so_x247 {D : va_G} {l : Launch} : zSO zD0 D l pT sm_x247 := zfl1 rn_x247 (zHc so_x159 (zHc so_x246 zHn)) hp_T
-- X0_burn
def sm_x248 : zSm := (4, (11, 344), [.inr (.inl (some 32)), .inl (1, 1), .inl ((-2147483648), 2147483647), .inl ((-2147483648), 2147483647), .inl (0, 1)], none, [2048, 2049, 2368, 2432], [(32, 2, 34), (32, 3, 6)], (([], []), [([], [], [])]))
def ct_x248 : zCt := [(51, [(0, .inr (.inl (some 32))), (1, .inl (1, 1)), (2, .inl ((-2147483648), 2147483647)), (3, .inl ((-2147483648), 2147483647)), (4, .inl (0, 1)), (5, .inl (0, 1)), (6, .inl (0, 2))], [], [.inl 1, .inr (true, 6), .inl 0], ([], [], [], []))]
def tb_x248 : zTb := ([sm_x159, sm_x247], zdec, zprs)
def cm_x248 : List (Nat × List Nat) := [(4, [1]), (231, [0])]
theorem rn_x248 : zgood tb_x248 cm_x248 2 sm_x248 ct_x248 20000 = true := by decide +kernel
theorem so_x248 {D : va_G} {l : Launch} : zSO zD0 D l pT sm_x248 := zfl1 rn_x248 (zHc so_x159 (zHc so_x247 zHn)) hp_T
-- X0_burn
def sm_x249 : zSm := (4, (12, 373), [.inr (.inl (some 32)), .inl (0, 0), .inl ((-2147483648), 2147483647), .inl (0, 0), .inl (0, 0)], none, [2048, 2049, 2368, 2432], [(32, 2, 34), (32, 3, 6)], (([], []), [([], [], [])]))
def ct_x249 : zCt := [(51, [(0, .inr (.inl (some 32))), (1, .inl (0, 0)), (2, .inl ((-2147483648), 2147483647)), (3, .inl (0, 0)), (4, .inl (0, 0)), (5, .inl (0, 1)), (6, .inl (0, 2))], [], [.inl 1, .inr (true, 6), .inl 0], ([], [], [], []))]
def tb_x249 : zTb := ([sm_x159, sm_x248], zdec, zprs)
def cm_x249 : List (Nat × List Nat) := [(4, [1]), (231, [0])]
theorem rn_x249 : zgood tb_x249 cm_x249 2 sm_x249 ct_x249 20000 = true := by decide +kernel
theorem so_x249 {D : va_G} {l : Launch} : zSO zD0 D l pT sm_x249 := zfl1 rn_x249 (zHc so_x159 (zHc so_x248 zHn)) hp_T
-- X0_findBurning
def sm_x250 : zSm := (5, (13, 402), [.inr (.inl (some 32)), .inr (.inl (some 34)), .inr (.inl (some 6)), .inl (0, 5), .inl (0, 8)], none, [2048, 2049, 2050, 2051, 2052, 2053, 2368, 2432], [], (([], []), [([], [], [])]))
def ct_x250 : zCt := []
def tb_x250 : zTb := ([sm_x249], zdec, zprs)
def cm_x250 : List (Nat × List Nat) := [(4, [0])]
theorem rn_x250 : zgood tb_x250 cm_x250 1 sm_x250 ct_x250 20000 = true := by decide +kernel
theorem so_x250 {D : va_G} {l : Launch} : zSO zD0 D l pT sm_x250 := zfl1 rn_x250 (zHc so_x249 zHn) hp_T
-- X0_burn
def sm_x251 : zSm := (4, (3, 108), [.inr (.inl (some 32)), .inl (8, 8), .inl ((-2147483648), 2147483647), .inl ((-2147483648), 2147483647), .inl (0, 8)], none, [2048, 2049], [(32, 2, 45), (32, 3, 6)], (([], []), [([], [], [])]))
def ct_x251 : zCt := []
def tb_x251 : zTb := ([], zdec, zprs)
def cm_x251 : List (Nat × List Nat) := []
theorem rn_x251 : zgood tb_x251 cm_x251 0 sm_x251 ct_x251 20000 = true := by decide +kernel
theorem so_x251 {D : va_G} {l : Launch} : zSO zD0 D l pT sm_x251 := zfl1 rn_x251 zHn hp_T
-- X0_burn
def sm_x252 : zSm := (4, (5, 170), [.inr (.inl (some 32)), .inl (7, 7), .inl ((-2147483648), 2147483647), .inl ((-2147483648), 2147483647), .inl (0, 7)], none, [2048, 2049, 3072, 3136], [(32, 2, 45), (32, 3, 6)], (([], []), [([], [], [])]))
def ct_x252 : zCt := [(51, [(0, .inr (.inl (some 32))), (1, .inl (7, 7)), (2, .inl ((-2147483648), 2147483647)), (3, .inl ((-2147483648), 2147483647)), (4, .inl (0, 7)), (5, .inl (0, 1)), (6, .inl (0, 2))], [], [.inl 1, .inr (true, 6), .inl 0], ([], [], [], []))]
def tb_x252 : zTb := ([sm_x163, sm_x251], zdec, zprs)
def cm_x252 : List (Nat × List Nat) := [(4, [1]), (231, [0])]
theorem rn_x252 : zgood tb_x252 cm_x252 2 sm_x252 ct_x252 20000 = true := by decide +kernel
theorem so_x252 {D : va_G} {l : Launch} : zSO zD0 D l pT sm_x252 := zfl1 rn_x252 (zHc so_x163 (zHc so_x251 zHn)) hp_T
-- X0_burn
def sm_x253 : zSm := (4, (6, 199), [.inr (.inl (some 32)), .inl (6, 6), .inl ((-2147483648), 2147483647), .inl ((-2147483648), 2147483647), .inl (0, 6)], none, [2048, 2049, 3072, 3136], [(32, 2, 45), (32, 3, 6)], (([], []), [([], [], [])]))
def ct_x253 : zCt := [(51, [(0, .inr (.inl (some 32))), (1, .inl (6, 6)), (2, .inl ((-2147483648), 2147483647)), (3, .inl ((-2147483648), 2147483647)), (4, .inl (0, 6)), (5, .inl (0, 1)), (6, .inl (0, 2))], [], [.inl 1, .inr (true, 6), .inl 0], ([], [], [], []))]
def tb_x253 : zTb := ([sm_x163, sm_x252], zdec, zprs)
def cm_x253 : List (Nat × List Nat) := [(4, [1]), (231, [0])]
theorem rn_x253 : zgood tb_x253 cm_x253 2 sm_x253 ct_x253 20000 = true := by decide +kernel
theorem so_x253 {D : va_G} {l : Launch} : zSO zD0 D l pT sm_x253 := zfl1 rn_x253 (zHc so_x163 (zHc so_x252 zHn)) hp_T
-- X0_burn
def sm_x254 : zSm := (4, (7, 228), [.inr (.inl (some 32)), .inl (5, 5), .inl ((-2147483648), 2147483647), .inl ((-2147483648), 2147483647), .inl (0, 5)], none, [2048, 2049, 3072, 3136], [(32, 2, 45), (32, 3, 6)], (([], []), [([], [], [])]))
def ct_x254 : zCt := [(51, [(0, .inr (.inl (some 32))), (1, .inl (5, 5)), (2, .inl ((-2147483648), 2147483647)), (3, .inl ((-2147483648), 2147483647)), (4, .inl (0, 5)), (5, .inl (0, 1)), (6, .inl (0, 2))], [], [.inl 1, .inr (true, 6), .inl 0], ([], [], [], []))]
def tb_x254 : zTb := ([sm_x163, sm_x253], zdec, zprs)
def cm_x254 : List (Nat × List Nat) := [(4, [1]), (231, [0])]
theorem rn_x254 : zgood tb_x254 cm_x254 2 sm_x254 ct_x254 20000 = true := by decide +kernel
theorem so_x254 {D : va_G} {l : Launch} : zSO zD0 D l pT sm_x254 := zfl1 rn_x254 (zHc so_x163 (zHc so_x253 zHn)) hp_T
-- X0_burn
def sm_x255 : zSm := (4, (8, 257), [.inr (.inl (some 32)), .inl (4, 4), .inl ((-2147483648), 2147483647), .inl ((-2147483648), 2147483647), .inl (0, 4)], none, [2048, 2049, 3072, 3136], [(32, 2, 45), (32, 3, 6)], (([], []), [([], [], [])]))
def ct_x255 : zCt := [(51, [(0, .inr (.inl (some 32))), (1, .inl (4, 4)), (2, .inl ((-2147483648), 2147483647)), (3, .inl ((-2147483648), 2147483647)), (4, .inl (0, 4)), (5, .inl (0, 1)), (6, .inl (0, 2))], [], [.inl 1, .inr (true, 6), .inl 0], ([], [], [], []))]
def tb_x255 : zTb := ([sm_x163, sm_x254], zdec, zprs)
def cm_x255 : List (Nat × List Nat) := [(4, [1]), (231, [0])]
theorem rn_x255 : zgood tb_x255 cm_x255 2 sm_x255 ct_x255 20000 = true := by decide +kernel
theorem so_x255 {D : va_G} {l : Launch} : zSO zD0 D l pT sm_x255 := zfl1 rn_x255 (zHc so_x163 (zHc so_x254 zHn)) hp_T
