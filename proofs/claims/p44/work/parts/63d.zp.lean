-- X5_one
def sm_x141 : zSm := (259, (59, 1620), [.inr (.inl (some 3)), .inl (0, 0)], some (.inl (0, 1)), [65, 66, 67, 68, 70, 192, 193, 2944, 2945, 3008], [(3, 5, 45)], (([], []), [([], [], [])]))
def ct_x141 : zCt := []
def tb_x141 : zTb := ([sm_adv, sm_x134, sm_x140], zdec, zprs)
def cm_x141 : List (Nat × List Nat) := [(256, [1]), (262, [2]), (280, [0])]
theorem rn_x141 : zgood tb_x141 cm_x141 3 sm_x141 ct_x141 20000 = true := by decide +kernel
theorem so_x141 {D : va_G} {l : Launch} : zSO zD0 D l pT sm_x141 := zfl1 rn_x141 (zHc so_adv (zHc so_x134 (zHc so_x140 zHn))) hp_T
-- X5_both
def sm_x142 : zSm := (243, (60, 1643), [.inr (.inl (some 3)), .inl (0, 0)], some (.inl (0, 1)), [65, 66, 67, 68, 70, 192, 193, 2944, 2945, 3008], [(3, 5, 45)], (([], []), [([], [], [])]))
def ct_x142 : zCt := [(8, [(0, .inr (.inl (some 3))), (1, .inl (0, 0)), (2, .inl (0, 1)), (3, .inl (0, 30))], [], [.inl 1, .inr (true, 3), .inl 0], ([], [], [], []))]
def tb_x142 : zTb := ([sm_adv, sm_x141], zdec, zprs)
def cm_x142 : List (Nat × List Nat) := [(259, [1]), (280, [0])]
theorem rn_x142 : zgood tb_x142 cm_x142 2 sm_x142 ct_x142 20000 = true := by decide +kernel
theorem so_x142 {D : va_G} {l : Launch} : zSO zD0 D l pT sm_x142 := zfl1 rn_x142 (zHc so_adv (zHc so_x141 zHn)) hp_T
-- X5_either
def sm_x143 : zSm := (246, (61, 1666), [.inr (.inl (some 3)), .inl (0, 0)], some (.inl (0, 1)), [65, 66, 67, 68, 70, 192, 193, 2944, 2945, 3008], [(3, 5, 45)], (([], []), [([], [], [])]))
def ct_x143 : zCt := [(8, [(0, .inr (.inl (some 3))), (1, .inl (0, 0)), (2, .inl (0, 1)), (3, .inl (0, 30))], [], [.inl 1, .inr (true, 3), .inl 0], ([], [], [], []))]
def tb_x143 : zTb := ([sm_adv, sm_x142], zdec, zprs)
def cm_x143 : List (Nat × List Nat) := [(243, [1]), (280, [0])]
theorem rn_x143 : zgood tb_x143 cm_x143 2 sm_x143 ct_x143 20000 = true := by decide +kernel
theorem so_x143 {D : va_G} {l : Launch} : zSO zD0 D l pT sm_x143 := zfl1 rn_x143 (zHc so_adv (zHc so_x142 zHn)) hp_T
-- X5_helpLine
def sm_x144 : zSm := (249, (62, 1689), [.inr (.inl (some 3))], some (.inl (0, 1)), [65, 66, 67, 68, 70, 192, 193, 198, 2944, 2945, 3008], [(3, 5, 45)], (([], []), [([], [], [])]))
def ct_x144 : zCt := []
def tb_x144 : zTb := ([sm_adv, sm_x077, sm_x143], zdec, zprs)
def cm_x144 : List (Nat × List Nat) := [(245, [1]), (246, [2]), (280, [0])]
theorem rn_x144 : zgood tb_x144 cm_x144 3 sm_x144 ct_x144 20000 = true := by decide +kernel
theorem so_x144 {D : va_G} {l : Launch} : zSO zD0 D l pT sm_x144 := zfl1 rn_x144 (zHc so_adv (zHc so_x077 (zHc so_x143 zHn))) hp_T
-- X5_name
def sm_x145 : zSm := (255, (7, 422), [.inr (.inl (some 3)), .inr (.inl (some 4)), .inl (0, 5)], some (.inl (0, 1)), [65, 66, 67, 68, 70, 192, 193, 256], [(3, 5, 45)], (([], []), [([], [], [])]))
def ct_x145 : zCt := [(24, [(0, .inr (.inl (some 3))), (1, .inr (.inl (some 4))), (2, .inl (0, 5)), (3, .inl (0, 5))], [], [.inl 1, .inr (true, 3), .inl 0], ([], [], [], []))]
def tb_x145 : zTb := ([sm_adv], zdec, zprs)
def cm_x145 : List (Nat × List Nat) := [(280, [0])]
theorem rn_x145 : zgood tb_x145 cm_x145 1 sm_x145 ct_x145 20000 = true := by decide +kernel
theorem so_x145 {D : va_G} {l : Launch} : zSO zD0 D l pT sm_x145 := zfl1 rn_x145 (zHc so_adv zHn) hp_T
-- X5_manLine
def sm_x146 : zSm := (254, (8, 445), [.inr (.inl (some 3))], some (.inl (0, 1)), [65, 66, 67, 68, 70, 192, 193, 256, 2880, 2892, 3200, 3264, 3456, 3520], [(3, 5, 45)], (([], []), [([], [], [])]))
def ct_x146 : zCt := []
def tb_x146 : zTb := ([sm_adv, sm_x077, sm_x078, sm_x145], zdec, zprs)
def cm_x146 : List (Nat × List Nat) := [(245, [1]), (248, [2]), (255, [3]), (280, [0])]
theorem rn_x146 : zgood tb_x146 cm_x146 4 sm_x146 ct_x146 20000 = true := by decide +kernel
theorem so_x146 {D : va_G} {l : Launch} : zSO zD0 D l pT sm_x146 := zfl1 rn_x146 (zHc so_adv (zHc so_x077 (zHc so_x078 (zHc so_x145 zHn)))) hp_T
-- X5_numberLine
def sm_x147 : zSm := (257, (8, 445), [.inr (.inl (some 3)), .inl (209, 217), .inl (99, 999)], some (.inl (0, 1)), [65, 66, 67, 68, 70, 192, 193, 198, 2882, 2883, 2884], [(3, 5, 45)], (([], []), [([], [], [])]))
def ct_x147 : zCt := []
def tb_x147 : zTb := ([sm_x077, sm_x078], zdec, zprs)
def cm_x147 : List (Nat × List Nat) := [(245, [0]), (248, [1])]
theorem rn_x147 : zgood tb_x147 cm_x147 2 sm_x147 ct_x147 20000 = true := by decide +kernel
theorem so_x147 {D : va_G} {l : Launch} : zSO zD0 D l pT sm_x147 := zfl1 rn_x147 (zHc so_x077 (zHc so_x078 zHn)) hp_T
-- X5_read
def sm_x148 : zSm := (260, (63, 1709), [.inr (.inl (some 3)), .inr (.inl (some 45))], some (.inl (0, 1)), [65, 66, 67, 68, 70, 192, 193, 197, 198, 256, 320, 2880, 2881, 2882, 2883, 2884, 2892, 2944, 2945, 3008, 3200, 3264, 3328, 3392, 3456, 3520], [], (([], []), [([], [], [])]))
def ct_x148 : zCt := [(38, [(0, .inr (.inl (some 3))), (1, .inr (.inl (some 45))), (2, .inl (0, 1)), (3, .inl (0, 1601))], [], [.inl 1, .inr (true, 3), .inl 0], ([(3, 5, 45)], [], [], []))]
def tb_x148 : zTb := ([sm_x075, sm_x080, sm_x144, sm_x146, sm_x147], zdec, zprs)
def cm_x148 : List (Nat × List Nat) := [(244, [1]), (249, [2]), (254, [3]), (257, [4]), (281, [0])]
theorem rn_x148 : zgood tb_x148 cm_x148 5 sm_x148 ct_x148 20000 = true := by decide +kernel
theorem so_x148 {D : va_G} {l : Launch} : zSO zD0 D l pT sm_x148 := zfl1 rn_x148 (zHc so_x075 (zHc so_x080 (zHc so_x144 (zHc so_x146 (zHc so_x147 zHn))))) hp_T
-- X10_parish
def sm_x154 : zSm := (48, (64, 1732), [.inr (.inl (some 0))], some (.inl ((-1), 6)), [11, 12, 13, 14, 16, 17, 64, 65, 66, 67, 68, 70, 192, 193, 197, 198, 256, 320, 387, 388, 389, 390, 448, 512, 576, 897, 898, 960, 1088, 1094, 1408, 2176, 2177, 2178, 2179, 2180, 2188, 2240, 2241, 2304, 2496, 2560, 2624, 2688, 2752, 2816, 2880, 2881, 2882, 2883, 2884, 2892, 2944, 2945, 3008, 3200, 3264, 3328, 3392, 3456, 3520], [], (([], []), [([], [], [])]))
def ct_x154 : zCt := []
def tb_x154 : zTb := ([sm_x002, sm_x076, sm_x148, sm_x151, sm_x153], zdec, zprs)
def cm_x154 : List (Nat × List Nat) := [(2, [0]), (260, [1, 2]), (265, [3, 4])]
theorem rn_x154 : zgood tb_x154 cm_x154 5 sm_x154 ct_x154 20000 = true := by decide +kernel
theorem so_x154 {D : va_G} {l : Launch} : zSO zD0 D l pT sm_x154 := zfl1 rn_x154 (zHc so_x002 (zHc so_x076 (zHc so_x148 (zHc so_x151 (zHc so_x153 zHn))))) hp_T
