-- X5_term
def sm_x050 : zSm := (263, (43, 1250), [.inr (.inl (some 3)), .inl (2, 2)], some (.inl (0, 1)), [65, 66, 67, 68, 70, 192, 193, 2240, 2241, 2304], [(3, 5, 34)], (([], []), [([], [], [])]))
def ct_x050 : zCt := [(8, [(0, .inr (.inl (some 3))), (1, .inl (2, 2)), (2, .inl (0, 1)), (3, .inl (0, 30))], [], [.inl 1, .inr (true, 3), .inl 0], ([], [], [], []))]
def tb_x050 : zTb := ([sm_adv, sm_x049], zdec, zprs)
def cm_x050 : List (Nat × List Nat) := [(264, [1]), (280, [0])]
theorem rn_x050 : zgood tb_x050 cm_x050 2 sm_x050 ct_x050 20000 = true := by decide +kernel
theorem so_x050 {D : va_G} {l : Launch} : zSO zD0 D l pT sm_x050 := zfl1 rn_x050 (zHc so_adv (zHc so_x049 zHn)) hp_T
-- X5_sum
def sm_x051 : zSm := (262, (44, 1274), [.inr (.inl (some 3)), .inl (2, 2)], some (.inl (0, 1)), [65, 66, 67, 68, 70, 192, 193, 2240, 2241, 2304], [(3, 5, 34)], (([], []), [([], [], [])]))
def ct_x051 : zCt := [(8, [(0, .inr (.inl (some 3))), (1, .inl (2, 2)), (2, .inl (0, 1)), (3, .inl (0, 30))], [], [.inl 1, .inr (true, 3), .inl 0], ([], [], [], []))]
def tb_x051 : zTb := ([sm_adv, sm_x050], zdec, zprs)
def cm_x051 : List (Nat × List Nat) := [(263, [1]), (280, [0])]
theorem rn_x051 : zgood tb_x051 cm_x051 2 sm_x051 ct_x051 20000 = true := by decide +kernel
theorem so_x051 {D : va_G} {l : Launch} : zSO zD0 D l pT sm_x051 := zfl1 rn_x051 (zHc so_adv (zHc so_x050 zHn)) hp_T
-- X5_one
def sm_x052 : zSm := (259, (45, 1298), [.inr (.inl (some 3)), .inl (2, 2)], some (.inl (0, 1)), [65, 66, 67, 68, 70, 192, 193, 2240, 2241, 2304], [(3, 5, 34)], (([], []), [([], [], [])]))
def ct_x052 : zCt := []
def tb_x052 : zTb := ([sm_adv, sm_x045, sm_x051], zdec, zprs)
def cm_x052 : List (Nat × List Nat) := [(256, [1]), (262, [2]), (280, [0])]
theorem rn_x052 : zgood tb_x052 cm_x052 3 sm_x052 ct_x052 20000 = true := by decide +kernel
theorem so_x052 {D : va_G} {l : Launch} : zSO zD0 D l pT sm_x052 := zfl1 rn_x052 (zHc so_adv (zHc so_x045 (zHc so_x051 zHn))) hp_T
-- X5_negation
def sm_x053 : zSm := (256, (46, 1321), [.inr (.inl (some 3)), .inl (1, 1)], some (.inl (0, 1)), [65, 66, 67, 68, 70, 192, 193, 2240, 2241, 2304], [(3, 5, 34)], (([], []), [([], [], [])]))
def ct_x053 : zCt := []
def tb_x053 : zTb := ([sm_adv, sm_x052], zdec, zprs)
def cm_x053 : List (Nat × List Nat) := [(259, [1]), (280, [0])]
theorem rn_x053 : zgood tb_x053 cm_x053 2 sm_x053 ct_x053 20000 = true := by decide +kernel
theorem so_x053 {D : va_G} {l : Launch} : zSO zD0 D l pT sm_x053 := zfl1 rn_x053 (zHc so_adv (zHc so_x052 zHn)) hp_T
-- X5_both
def sm_x054 : zSm := (243, (46, 1321), [.inr (.inl (some 3)), .inl (2, 2)], some (.inl (0, 1)), [65, 66, 67, 68, 70, 192, 193, 2240, 2241, 2304], [(3, 5, 34)], (([], []), [([], [], [])]))
def ct_x054 : zCt := [(8, [(0, .inr (.inl (some 3))), (1, .inl (2, 2)), (2, .inl (0, 1)), (3, .inl (0, 30))], [], [.inl 1, .inr (true, 3), .inl 0], ([], [], [], []))]
def tb_x054 : zTb := ([sm_adv, sm_x052], zdec, zprs)
def cm_x054 : List (Nat × List Nat) := [(259, [1]), (280, [0])]
theorem rn_x054 : zgood tb_x054 cm_x054 2 sm_x054 ct_x054 20000 = true := by decide +kernel
theorem so_x054 {D : va_G} {l : Launch} : zSO zD0 D l pT sm_x054 := zfl1 rn_x054 (zHc so_adv (zHc so_x052 zHn)) hp_T
-- X5_either
def sm_x055 : zSm := (246, (47, 1344), [.inr (.inl (some 3)), .inl (2, 2)], some (.inl (0, 1)), [65, 66, 67, 68, 70, 192, 193, 2240, 2241, 2304], [(3, 5, 34)], (([], []), [([], [], [])]))
def ct_x055 : zCt := [(8, [(0, .inr (.inl (some 3))), (1, .inl (2, 2)), (2, .inl (0, 1)), (3, .inl (0, 30))], [], [.inl 1, .inr (true, 3), .inl 0], ([], [], [], []))]
def tb_x055 : zTb := ([sm_adv, sm_x054], zdec, zprs)
def cm_x055 : List (Nat × List Nat) := [(243, [1]), (280, [0])]
theorem rn_x055 : zgood tb_x055 cm_x055 2 sm_x055 ct_x055 20000 = true := by decide +kernel
theorem so_x055 {D : va_G} {l : Launch} : zSO zD0 D l pT sm_x055 := zfl1 rn_x055 (zHc so_adv (zHc so_x054 zHn)) hp_T
-- X5_inParentheses
def sm_x056 : zSm := (250, (48, 1367), [.inr (.inl (some 3)), .inl (1, 1)], some (.inl (0, 1)), [65, 66, 67, 68, 70, 192, 193, 2240, 2241, 2304], [(3, 5, 34)], (([], []), [([], [], [])]))
def ct_x056 : zCt := []
def tb_x056 : zTb := ([sm_adv, sm_x055], zdec, zprs)
def cm_x056 : List (Nat × List Nat) := [(246, [1]), (280, [0])]
theorem rn_x056 : zgood tb_x056 cm_x056 2 sm_x056 ct_x056 20000 = true := by decide +kernel
theorem so_x056 {D : va_G} {l : Launch} : zSO zD0 D l pT sm_x056 := zfl1 rn_x056 (zHc so_adv (zHc so_x055 zHn)) hp_T
-- X5_unit
def sm_x057 : zSm := (264, (49, 1388), [.inr (.inl (some 3)), .inl (1, 1)], some (.inl (0, 1)), [65, 66, 67, 68, 70, 192, 193, 2240, 2241, 2304], [(3, 5, 34)], (([], []), [([], [], [])]))
def ct_x057 : zCt := []
def tb_x057 : zTb := ([sm_adv, sm_x056], zdec, zprs)
def cm_x057 : List (Nat × List Nat) := [(250, [1]), (280, [0])]
theorem rn_x057 : zgood tb_x057 cm_x057 2 sm_x057 ct_x057 20000 = true := by decide +kernel
theorem so_x057 {D : va_G} {l : Launch} : zSO zD0 D l pT sm_x057 := zfl1 rn_x057 (zHc so_adv (zHc so_x056 zHn)) hp_T
-- X5_term
def sm_x058 : zSm := (263, (50, 1411), [.inr (.inl (some 3)), .inl (1, 1)], some (.inl (0, 1)), [65, 66, 67, 68, 70, 192, 193, 2240, 2241, 2304], [(3, 5, 34)], (([], []), [([], [], [])]))
def ct_x058 : zCt := [(8, [(0, .inr (.inl (some 3))), (1, .inl (1, 1)), (2, .inl (0, 1)), (3, .inl (0, 30))], [], [.inl 1, .inr (true, 3), .inl 0], ([], [], [], []))]
def tb_x058 : zTb := ([sm_adv, sm_x057], zdec, zprs)
def cm_x058 : List (Nat × List Nat) := [(264, [1]), (280, [0])]
theorem rn_x058 : zgood tb_x058 cm_x058 2 sm_x058 ct_x058 20000 = true := by decide +kernel
theorem so_x058 {D : va_G} {l : Launch} : zSO zD0 D l pT sm_x058 := zfl1 rn_x058 (zHc so_adv (zHc so_x057 zHn)) hp_T
-- X5_sum
def sm_x059 : zSm := (262, (51, 1435), [.inr (.inl (some 3)), .inl (1, 1)], some (.inl (0, 1)), [65, 66, 67, 68, 70, 192, 193, 2240, 2241, 2304], [(3, 5, 34)], (([], []), [([], [], [])]))
def ct_x059 : zCt := [(8, [(0, .inr (.inl (some 3))), (1, .inl (1, 1)), (2, .inl (0, 1)), (3, .inl (0, 30))], [], [.inl 1, .inr (true, 3), .inl 0], ([], [], [], []))]
def tb_x059 : zTb := ([sm_adv, sm_x058], zdec, zprs)
def cm_x059 : List (Nat × List Nat) := [(263, [1]), (280, [0])]
theorem rn_x059 : zgood tb_x059 cm_x059 2 sm_x059 ct_x059 20000 = true := by decide +kernel
theorem so_x059 {D : va_G} {l : Launch} : zSO zD0 D l pT sm_x059 := zfl1 rn_x059 (zHc so_adv (zHc so_x058 zHn)) hp_T
-- X5_one
def sm_x060 : zSm := (259, (52, 1459), [.inr (.inl (some 3)), .inl (1, 1)], some (.inl (0, 1)), [65, 66, 67, 68, 70, 192, 193, 2240, 2241, 2304], [(3, 5, 34)], (([], []), [([], [], [])]))
def ct_x060 : zCt := []
def tb_x060 : zTb := ([sm_adv, sm_x053, sm_x059], zdec, zprs)
def cm_x060 : List (Nat × List Nat) := [(256, [1]), (262, [2]), (280, [0])]
theorem rn_x060 : zgood tb_x060 cm_x060 3 sm_x060 ct_x060 20000 = true := by decide +kernel
theorem so_x060 {D : va_G} {l : Launch} : zSO zD0 D l pT sm_x060 := zfl1 rn_x060 (zHc so_adv (zHc so_x053 (zHc so_x059 zHn))) hp_T
-- X5_negation
def sm_x061 : zSm := (256, (53, 1482), [.inr (.inl (some 3)), .inl (0, 0)], some (.inl (0, 1)), [65, 66, 67, 68, 70, 192, 193, 2240, 2241, 2304], [(3, 5, 34)], (([], []), [([], [], [])]))
def ct_x061 : zCt := []
def tb_x061 : zTb := ([sm_adv, sm_x060], zdec, zprs)
def cm_x061 : List (Nat × List Nat) := [(259, [1]), (280, [0])]
theorem rn_x061 : zgood tb_x061 cm_x061 2 sm_x061 ct_x061 20000 = true := by decide +kernel
theorem so_x061 {D : va_G} {l : Launch} : zSO zD0 D l pT sm_x061 := zfl1 rn_x061 (zHc so_adv (zHc so_x060 zHn)) hp_T
-- X5_both
def sm_x062 : zSm := (243, (53, 1482), [.inr (.inl (some 3)), .inl (1, 1)], some (.inl (0, 1)), [65, 66, 67, 68, 70, 192, 193, 2240, 2241, 2304], [(3, 5, 34)], (([], []), [([], [], [])]))
def ct_x062 : zCt := [(8, [(0, .inr (.inl (some 3))), (1, .inl (1, 1)), (2, .inl (0, 1)), (3, .inl (0, 30))], [], [.inl 1, .inr (true, 3), .inl 0], ([], [], [], []))]
def tb_x062 : zTb := ([sm_adv, sm_x060], zdec, zprs)
def cm_x062 : List (Nat × List Nat) := [(259, [1]), (280, [0])]
theorem rn_x062 : zgood tb_x062 cm_x062 2 sm_x062 ct_x062 20000 = true := by decide +kernel
theorem so_x062 {D : va_G} {l : Launch} : zSO zD0 D l pT sm_x062 := zfl1 rn_x062 (zHc so_adv (zHc so_x060 zHn)) hp_T
-- X5_either
def sm_x063 : zSm := (246, (54, 1505), [.inr (.inl (some 3)), .inl (1, 1)], some (.inl (0, 1)), [65, 66, 67, 68, 70, 192, 193, 2240, 2241, 2304], [(3, 5, 34)], (([], []), [([], [], [])]))
def ct_x063 : zCt := [(8, [(0, .inr (.inl (some 3))), (1, .inl (1, 1)), (2, .inl (0, 1)), (3, .inl (0, 30))], [], [.inl 1, .inr (true, 3), .inl 0], ([], [], [], []))]
def tb_x063 : zTb := ([sm_adv, sm_x062], zdec, zprs)
def cm_x063 : List (Nat × List Nat) := [(243, [1]), (280, [0])]
theorem rn_x063 : zgood tb_x063 cm_x063 2 sm_x063 ct_x063 20000 = true := by decide +kernel
theorem so_x063 {D : va_G} {l : Launch} : zSO zD0 D l pT sm_x063 := zfl1 rn_x063 (zHc so_adv (zHc so_x062 zHn)) hp_T
-- X5_inParentheses
def sm_x064 : zSm := (250, (55, 1528), [.inr (.inl (some 3)), .inl (0, 0)], some (.inl (0, 1)), [65, 66, 67, 68, 70, 192, 193, 2240, 2241, 2304], [(3, 5, 34)], (([], []), [([], [], [])]))
def ct_x064 : zCt := []
def tb_x064 : zTb := ([sm_adv, sm_x063], zdec, zprs)
def cm_x064 : List (Nat × List Nat) := [(246, [1]), (280, [0])]
theorem rn_x064 : zgood tb_x064 cm_x064 2 sm_x064 ct_x064 20000 = true := by decide +kernel
theorem so_x064 {D : va_G} {l : Launch} : zSO zD0 D l pT sm_x064 := zfl1 rn_x064 (zHc so_adv (zHc so_x063 zHn)) hp_T
-- X5_unit
def sm_x065 : zSm := (264, (56, 1549), [.inr (.inl (some 3)), .inl (0, 0)], some (.inl (0, 1)), [65, 66, 67, 68, 70, 192, 193, 2240, 2241, 2304], [(3, 5, 34)], (([], []), [([], [], [])]))
def ct_x065 : zCt := []
def tb_x065 : zTb := ([sm_adv, sm_x064], zdec, zprs)
def cm_x065 : List (Nat × List Nat) := [(250, [1]), (280, [0])]
theorem rn_x065 : zgood tb_x065 cm_x065 2 sm_x065 ct_x065 20000 = true := by decide +kernel
theorem so_x065 {D : va_G} {l : Launch} : zSO zD0 D l pT sm_x065 := zfl1 rn_x065 (zHc so_adv (zHc so_x064 zHn)) hp_T
-- X5_term
def sm_x066 : zSm := (263, (57, 1572), [.inr (.inl (some 3)), .inl (0, 0)], some (.inl (0, 1)), [65, 66, 67, 68, 70, 192, 193, 2240, 2241, 2304], [(3, 5, 34)], (([], []), [([], [], [])]))
def ct_x066 : zCt := [(8, [(0, .inr (.inl (some 3))), (1, .inl (0, 0)), (2, .inl (0, 1)), (3, .inl (0, 30))], [], [.inl 1, .inr (true, 3), .inl 0], ([], [], [], []))]
def tb_x066 : zTb := ([sm_adv, sm_x065], zdec, zprs)
def cm_x066 : List (Nat × List Nat) := [(264, [1]), (280, [0])]
theorem rn_x066 : zgood tb_x066 cm_x066 2 sm_x066 ct_x066 20000 = true := by decide +kernel
theorem so_x066 {D : va_G} {l : Launch} : zSO zD0 D l pT sm_x066 := zfl1 rn_x066 (zHc so_adv (zHc so_x065 zHn)) hp_T
-- X5_sum
def sm_x067 : zSm := (262, (58, 1596), [.inr (.inl (some 3)), .inl (0, 0)], some (.inl (0, 1)), [65, 66, 67, 68, 70, 192, 193, 2240, 2241, 2304], [(3, 5, 34)], (([], []), [([], [], [])]))
def ct_x067 : zCt := [(8, [(0, .inr (.inl (some 3))), (1, .inl (0, 0)), (2, .inl (0, 1)), (3, .inl (0, 30))], [], [.inl 1, .inr (true, 3), .inl 0], ([], [], [], []))]
def tb_x067 : zTb := ([sm_adv, sm_x066], zdec, zprs)
def cm_x067 : List (Nat × List Nat) := [(263, [1]), (280, [0])]
theorem rn_x067 : zgood tb_x067 cm_x067 2 sm_x067 ct_x067 20000 = true := by decide +kernel
theorem so_x067 {D : va_G} {l : Launch} : zSO zD0 D l pT sm_x067 := zfl1 rn_x067 (zHc so_adv (zHc so_x066 zHn)) hp_T
-- X5_one
def sm_x068 : zSm := (259, (59, 1620), [.inr (.inl (some 3)), .inl (0, 0)], some (.inl (0, 1)), [65, 66, 67, 68, 70, 192, 193, 2240, 2241, 2304], [(3, 5, 34)], (([], []), [([], [], [])]))
def ct_x068 : zCt := []
def tb_x068 : zTb := ([sm_adv, sm_x061, sm_x067], zdec, zprs)
def cm_x068 : List (Nat × List Nat) := [(256, [1]), (262, [2]), (280, [0])]
theorem rn_x068 : zgood tb_x068 cm_x068 3 sm_x068 ct_x068 20000 = true := by decide +kernel
theorem so_x068 {D : va_G} {l : Launch} : zSO zD0 D l pT sm_x068 := zfl1 rn_x068 (zHc so_adv (zHc so_x061 (zHc so_x067 zHn))) hp_T
-- X5_both
def sm_x069 : zSm := (243, (60, 1643), [.inr (.inl (some 3)), .inl (0, 0)], some (.inl (0, 1)), [65, 66, 67, 68, 70, 192, 193, 2240, 2241, 2304], [(3, 5, 34)], (([], []), [([], [], [])]))
def ct_x069 : zCt := [(8, [(0, .inr (.inl (some 3))), (1, .inl (0, 0)), (2, .inl (0, 1)), (3, .inl (0, 30))], [], [.inl 1, .inr (true, 3), .inl 0], ([], [], [], []))]
def tb_x069 : zTb := ([sm_adv, sm_x068], zdec, zprs)
def cm_x069 : List (Nat × List Nat) := [(259, [1]), (280, [0])]
theorem rn_x069 : zgood tb_x069 cm_x069 2 sm_x069 ct_x069 20000 = true := by decide +kernel
theorem so_x069 {D : va_G} {l : Launch} : zSO zD0 D l pT sm_x069 := zfl1 rn_x069 (zHc so_adv (zHc so_x068 zHn)) hp_T
-- X5_either
def sm_x070 : zSm := (246, (61, 1666), [.inr (.inl (some 3)), .inl (0, 0)], some (.inl (0, 1)), [65, 66, 67, 68, 70, 192, 193, 2240, 2241, 2304], [(3, 5, 34)], (([], []), [([], [], [])]))
def ct_x070 : zCt := [(8, [(0, .inr (.inl (some 3))), (1, .inl (0, 0)), (2, .inl (0, 1)), (3, .inl (0, 30))], [], [.inl 1, .inr (true, 3), .inl 0], ([], [], [], []))]
def tb_x070 : zTb := ([sm_adv, sm_x069], zdec, zprs)
def cm_x070 : List (Nat × List Nat) := [(243, [1]), (280, [0])]
theorem rn_x070 : zgood tb_x070 cm_x070 2 sm_x070 ct_x070 20000 = true := by decide +kernel
theorem so_x070 {D : va_G} {l : Launch} : zSO zD0 D l pT sm_x070 := zfl1 rn_x070 (zHc so_adv (zHc so_x069 zHn)) hp_T
-- X5_helpLine
def sm_x071 : zSm := (249, (62, 1689), [.inr (.inl (some 3))], some (.inl (0, 1)), [65, 66, 67, 68, 70, 192, 193, 198, 2240, 2241, 2304], [(3, 5, 34)], (([], []), [([], [], [])]))
def ct_x071 : zCt := []
def tb_x071 : zTb := ([sm_adv, sm_x004, sm_x070], zdec, zprs)
def cm_x071 : List (Nat × List Nat) := [(245, [1]), (246, [2]), (280, [0])]
theorem rn_x071 : zgood tb_x071 cm_x071 3 sm_x071 ct_x071 20000 = true := by decide +kernel
theorem so_x071 {D : va_G} {l : Launch} : zSO zD0 D l pT sm_x071 := zfl1 rn_x071 (zHc so_adv (zHc so_x004 (zHc so_x070 zHn))) hp_T
-- X5_name
def sm_x072 : zSm := (255, (7, 422), [.inr (.inl (some 3)), .inr (.inl (some 4)), .inl (0, 5)], some (.inl (0, 1)), [65, 66, 67, 68, 70, 192, 193, 256], [(3, 5, 34)], (([], []), [([], [], [])]))
def ct_x072 : zCt := [(24, [(0, .inr (.inl (some 3))), (1, .inr (.inl (some 4))), (2, .inl (0, 5)), (3, .inl (0, 5))], [], [.inl 1, .inr (true, 3), .inl 0], ([], [], [], []))]
def tb_x072 : zTb := ([sm_adv], zdec, zprs)
def cm_x072 : List (Nat × List Nat) := [(280, [0])]
theorem rn_x072 : zgood tb_x072 cm_x072 1 sm_x072 ct_x072 20000 = true := by decide +kernel
theorem so_x072 {D : va_G} {l : Launch} : zSO zD0 D l pT sm_x072 := zfl1 rn_x072 (zHc so_adv zHn) hp_T
-- X5_manLine
def sm_x073 : zSm := (254, (8, 445), [.inr (.inl (some 3))], some (.inl (0, 1)), [65, 66, 67, 68, 70, 192, 193, 256, 2176, 2188, 2496, 2560, 2752, 2816], [(3, 5, 34)], (([], []), [([], [], [])]))
def ct_x073 : zCt := []
def tb_x073 : zTb := ([sm_adv, sm_x004, sm_x005, sm_x072], zdec, zprs)
def cm_x073 : List (Nat × List Nat) := [(245, [1]), (248, [2]), (255, [3]), (280, [0])]
theorem rn_x073 : zgood tb_x073 cm_x073 4 sm_x073 ct_x073 20000 = true := by decide +kernel
theorem so_x073 {D : va_G} {l : Launch} : zSO zD0 D l pT sm_x073 := zfl1 rn_x073 (zHc so_adv (zHc so_x004 (zHc so_x005 (zHc so_x072 zHn)))) hp_T
-- X5_numberLine
def sm_x074 : zSm := (257, (8, 445), [.inr (.inl (some 3)), .inl (209, 217), .inl (99, 999)], some (.inl (0, 1)), [65, 66, 67, 68, 70, 192, 193, 198, 2178, 2179, 2180], [(3, 5, 34)], (([], []), [([], [], [])]))
def ct_x074 : zCt := []
def tb_x074 : zTb := ([sm_x004, sm_x005], zdec, zprs)
def cm_x074 : List (Nat × List Nat) := [(245, [0]), (248, [1])]
theorem rn_x074 : zgood tb_x074 cm_x074 2 sm_x074 ct_x074 20000 = true := by decide +kernel
theorem so_x074 {D : va_G} {l : Launch} : zSO zD0 D l pT sm_x074 := zfl1 rn_x074 (zHc so_x004 (zHc so_x005 zHn)) hp_T
-- X8_begin
def sm_x075 : zSm := (281, (7, 422), [.inr (.inl (some 1))], none, [65, 66, 67, 68, 70], [], (([], []), [([], [], [])]))
def ct_x075 : zCt := []
def tb_x075 : zTb := ([sm_adv], zdec, zprs)
def cm_x075 : List (Nat × List Nat) := [(280, [0])]
theorem rn_x075 : zgood tb_x075 cm_x075 1 sm_x075 ct_x075 20000 = true := by decide +kernel
theorem so_x075 {D : va_G} {l : Launch} : zSO zD0 D l pT sm_x075 := zfl1 rn_x075 (zHc so_adv zHn) hp_T
-- X5_read
def sm_x076 : zSm := (260, (63, 1709), [.inr (.inl (some 3)), .inr (.inl (some 34))], some (.inl (0, 1)), [65, 66, 67, 68, 70, 192, 193, 197, 198, 256, 320, 2176, 2177, 2178, 2179, 2180, 2188, 2240, 2241, 2304, 2496, 2560, 2624, 2688, 2752, 2816], [], (([], []), [([], [], [])]))
def ct_x076 : zCt := [(38, [(0, .inr (.inl (some 3))), (1, .inr (.inl (some 34))), (2, .inl (0, 1)), (3, .inl (0, 1601))], [], [.inl 1, .inr (true, 3), .inl 0], ([(3, 5, 34)], [], [], []))]
def tb_x076 : zTb := ([sm_x007, sm_x071, sm_x073, sm_x074, sm_x075], zdec, zprs)
def cm_x076 : List (Nat × List Nat) := [(244, [0]), (249, [1]), (254, [2]), (257, [3]), (281, [4])]
theorem rn_x076 : zgood tb_x076 cm_x076 5 sm_x076 ct_x076 20000 = true := by decide +kernel
theorem so_x076 {D : va_G} {l : Launch} : zSO zD0 D l pT sm_x076 := zfl1 rn_x076 (zHc so_x007 (zHc so_x071 (zHc so_x073 (zHc so_x074 (zHc so_x075 zHn))))) hp_T
-- X5_closing
def sm_x077 : zSm := (245, (7, 422), [.inr (.inl (some 3))], some (.inl (0, 1)), [65, 66, 67, 68, 70, 192, 193], [(3, 5, 45)], (([], []), [([], [], [])]))
def ct_x077 : zCt := []
def tb_x077 : zTb := ([sm_adv], zdec, zprs)
def cm_x077 : List (Nat × List Nat) := [(280, [0])]
theorem rn_x077 : zgood tb_x077 cm_x077 1 sm_x077 ct_x077 20000 = true := by decide +kernel
theorem so_x077 {D : va_G} {l : Launch} : zSO zD0 D l pT sm_x077 := zfl1 rn_x077 (zHc so_adv zHn) hp_T
-- X5_field
def sm_x078 : zSm := (248, (7, 422), [.inr (.inl (some 3)), .inl (200, 217), .inl (20, 999)], some (.inl ((-2147483648), 999)), [65, 66, 67, 68, 70, 192, 193], [(3, 5, 45)], (([], []), [([], [], [])]))
def ct_x078 : zCt := []
def tb_x078 : zTb := ([sm_adv], zdec, zprs)
def cm_x078 : List (Nat × List Nat) := [(280, [0])]
theorem rn_x078 : zgood tb_x078 cm_x078 1 sm_x078 ct_x078 20000 = true := by decide +kernel
theorem so_x078 {D : va_G} {l : Launch} : zSO zD0 D l pT sm_x078 := zfl1 rn_x078 (zHc so_adv zHn) hp_T
-- X5_name
def sm_x079 : zSm := (255, (7, 422), [.inr (.inl (some 3)), .inr (.inl (some 5)), .inl (0, 3)], some (.inl (0, 1)), [65, 66, 67, 68, 70, 192, 193, 320], [(3, 5, 45)], (([], []), [([], [], [])]))
def ct_x079 : zCt := [(24, [(0, .inr (.inl (some 3))), (1, .inr (.inl (some 5))), (2, .inl (0, 3)), (3, .inl (0, 3))], [], [.inl 1, .inr (true, 3), .inl 0], ([], [], [], []))]
def tb_x079 : zTb := ([sm_adv], zdec, zprs)
def cm_x079 : List (Nat × List Nat) := [(280, [0])]
theorem rn_x079 : zgood tb_x079 cm_x079 1 sm_x079 ct_x079 20000 = true := by decide +kernel
theorem so_x079 {D : va_G} {l : Launch} : zSO zD0 D l pT sm_x079 := zfl1 rn_x079 (zHc so_adv zHn) hp_T
-- X5_boyLine
def sm_x080 : zSm := (244, (8, 445), [.inr (.inl (some 3))], some (.inl (0, 1)), [65, 66, 67, 68, 70, 192, 193, 320, 2881, 3328, 3392], [(3, 5, 45)], (([], []), [([], [], [])]))
def ct_x080 : zCt := []
def tb_x080 : zTb := ([sm_adv, sm_x077, sm_x078, sm_x079], zdec, zprs)
def cm_x080 : List (Nat × List Nat) := [(245, [1]), (248, [2]), (255, [3]), (280, [0])]
theorem rn_x080 : zgood tb_x080 cm_x080 4 sm_x080 ct_x080 20000 = true := by decide +kernel
theorem so_x080 {D : va_G} {l : Launch} : zSO zD0 D l pT sm_x080 := zfl1 rn_x080 (zHc so_adv (zHc so_x077 (zHc so_x078 (zHc so_x079 zHn)))) hp_T
-- X5_unit
def sm_x082 : zSm := (264, (7, 422), [.inr (.inl (some 3)), .inl (7, 7)], some (.inl (0, 1)), [65, 66, 67, 68, 70, 192, 193, 2944, 2945, 3008], [(3, 5, 45)], (([], []), [([], [], [])]))
def ct_x082 : zCt := []
def tb_x082 : zTb := ([sm_adv], zdec, zprs)
def cm_x082 : List (Nat × List Nat) := [(280, [0])]
theorem rn_x082 : zgood tb_x082 cm_x082 1 sm_x082 ct_x082 20000 = true := by decide +kernel
theorem so_x082 {D : va_G} {l : Launch} : zSO zD0 D l pT sm_x082 := zfl1 rn_x082 (zHc so_adv zHn) hp_T
-- X5_term
def sm_x083 : zSm := (263, (8, 445), [.inr (.inl (some 3)), .inl (7, 7)], some (.inl (0, 1)), [65, 66, 67, 68, 70, 192, 193, 2944, 2945, 3008], [(3, 5, 45)], (([], []), [([], [], [])]))
def ct_x083 : zCt := [(8, [(0, .inr (.inl (some 3))), (1, .inl (7, 7)), (2, .inl (0, 1)), (3, .inl (0, 30))], [], [.inl 1, .inr (true, 3), .inl 0], ([], [], [], []))]
def tb_x083 : zTb := ([sm_adv, sm_x082], zdec, zprs)
def cm_x083 : List (Nat × List Nat) := [(264, [1]), (280, [0])]
theorem rn_x083 : zgood tb_x083 cm_x083 2 sm_x083 ct_x083 20000 = true := by decide +kernel
theorem so_x083 {D : va_G} {l : Launch} : zSO zD0 D l pT sm_x083 := zfl1 rn_x083 (zHc so_adv (zHc so_x082 zHn)) hp_T
-- X5_sum
def sm_x084 : zSm := (262, (9, 469), [.inr (.inl (some 3)), .inl (7, 7)], some (.inl (0, 1)), [65, 66, 67, 68, 70, 192, 193, 2944, 2945, 3008], [(3, 5, 45)], (([], []), [([], [], [])]))
def ct_x084 : zCt := [(8, [(0, .inr (.inl (some 3))), (1, .inl (7, 7)), (2, .inl (0, 1)), (3, .inl (0, 30))], [], [.inl 1, .inr (true, 3), .inl 0], ([], [], [], []))]
def tb_x084 : zTb := ([sm_adv, sm_x083], zdec, zprs)
def cm_x084 : List (Nat × List Nat) := [(263, [1]), (280, [0])]
theorem rn_x084 : zgood tb_x084 cm_x084 2 sm_x084 ct_x084 20000 = true := by decide +kernel
theorem so_x084 {D : va_G} {l : Launch} : zSO zD0 D l pT sm_x084 := zfl1 rn_x084 (zHc so_adv (zHc so_x083 zHn)) hp_T
-- X5_one
def sm_x085 : zSm := (259, (10, 493), [.inr (.inl (some 3)), .inl (7, 7)], some (.inl (0, 1)), [65, 66, 67, 68, 70, 192, 193, 2944, 2945, 3008], [(3, 5, 45)], (([], []), [([], [], [])]))
def ct_x085 : zCt := []
def tb_x085 : zTb := ([sm_adv, sm_x081, sm_x084], zdec, zprs)
def cm_x085 : List (Nat × List Nat) := [(256, [1]), (262, [2]), (280, [0])]
theorem rn_x085 : zgood tb_x085 cm_x085 3 sm_x085 ct_x085 20000 = true := by decide +kernel
theorem so_x085 {D : va_G} {l : Launch} : zSO zD0 D l pT sm_x085 := zfl1 rn_x085 (zHc so_adv (zHc so_x081 (zHc so_x084 zHn))) hp_T
-- X5_negation
def sm_x086 : zSm := (256, (11, 516), [.inr (.inl (some 3)), .inl (6, 6)], some (.inl (0, 1)), [65, 66, 67, 68, 70, 192, 193, 2944, 2945, 3008], [(3, 5, 45)], (([], []), [([], [], [])]))
def ct_x086 : zCt := []
def tb_x086 : zTb := ([sm_adv, sm_x085], zdec, zprs)
def cm_x086 : List (Nat × List Nat) := [(259, [1]), (280, [0])]
theorem rn_x086 : zgood tb_x086 cm_x086 2 sm_x086 ct_x086 20000 = true := by decide +kernel
theorem so_x086 {D : va_G} {l : Launch} : zSO zD0 D l pT sm_x086 := zfl1 rn_x086 (zHc so_adv (zHc so_x085 zHn)) hp_T
-- X5_both
def sm_x087 : zSm := (243, (11, 516), [.inr (.inl (some 3)), .inl (7, 7)], some (.inl (0, 1)), [65, 66, 67, 68, 70, 192, 193, 2944, 2945, 3008], [(3, 5, 45)], (([], []), [([], [], [])]))
def ct_x087 : zCt := [(8, [(0, .inr (.inl (some 3))), (1, .inl (7, 7)), (2, .inl (0, 1)), (3, .inl (0, 30))], [], [.inl 1, .inr (true, 3), .inl 0], ([], [], [], []))]
def tb_x087 : zTb := ([sm_adv, sm_x085], zdec, zprs)
def cm_x087 : List (Nat × List Nat) := [(259, [1]), (280, [0])]
theorem rn_x087 : zgood tb_x087 cm_x087 2 sm_x087 ct_x087 20000 = true := by decide +kernel
theorem so_x087 {D : va_G} {l : Launch} : zSO zD0 D l pT sm_x087 := zfl1 rn_x087 (zHc so_adv (zHc so_x085 zHn)) hp_T
-- X5_either
def sm_x088 : zSm := (246, (12, 539), [.inr (.inl (some 3)), .inl (7, 7)], some (.inl (0, 1)), [65, 66, 67, 68, 70, 192, 193, 2944, 2945, 3008], [(3, 5, 45)], (([], []), [([], [], [])]))
def ct_x088 : zCt := [(8, [(0, .inr (.inl (some 3))), (1, .inl (7, 7)), (2, .inl (0, 1)), (3, .inl (0, 30))], [], [.inl 1, .inr (true, 3), .inl 0], ([], [], [], []))]
def tb_x088 : zTb := ([sm_adv, sm_x087], zdec, zprs)
def cm_x088 : List (Nat × List Nat) := [(243, [1]), (280, [0])]
theorem rn_x088 : zgood tb_x088 cm_x088 2 sm_x088 ct_x088 20000 = true := by decide +kernel
theorem so_x088 {D : va_G} {l : Launch} : zSO zD0 D l pT sm_x088 := zfl1 rn_x088 (zHc so_adv (zHc so_x087 zHn)) hp_T
-- X5_inParentheses
def sm_x089 : zSm := (250, (13, 562), [.inr (.inl (some 3)), .inl (6, 6)], some (.inl (0, 1)), [65, 66, 67, 68, 70, 192, 193, 2944, 2945, 3008], [(3, 5, 45)], (([], []), [([], [], [])]))
def ct_x089 : zCt := []
def tb_x089 : zTb := ([sm_adv, sm_x088], zdec, zprs)
def cm_x089 : List (Nat × List Nat) := [(246, [1]), (280, [0])]
theorem rn_x089 : zgood tb_x089 cm_x089 2 sm_x089 ct_x089 20000 = true := by decide +kernel
theorem so_x089 {D : va_G} {l : Launch} : zSO zD0 D l pT sm_x089 := zfl1 rn_x089 (zHc so_adv (zHc so_x088 zHn)) hp_T
-- X5_unit
def sm_x090 : zSm := (264, (14, 583), [.inr (.inl (some 3)), .inl (6, 6)], some (.inl (0, 1)), [65, 66, 67, 68, 70, 192, 193, 2944, 2945, 3008], [(3, 5, 45)], (([], []), [([], [], [])]))
def ct_x090 : zCt := []
def tb_x090 : zTb := ([sm_adv, sm_x089], zdec, zprs)
def cm_x090 : List (Nat × List Nat) := [(250, [1]), (280, [0])]
theorem rn_x090 : zgood tb_x090 cm_x090 2 sm_x090 ct_x090 20000 = true := by decide +kernel
theorem so_x090 {D : va_G} {l : Launch} : zSO zD0 D l pT sm_x090 := zfl1 rn_x090 (zHc so_adv (zHc so_x089 zHn)) hp_T
-- X5_term
def sm_x091 : zSm := (263, (15, 606), [.inr (.inl (some 3)), .inl (6, 6)], some (.inl (0, 1)), [65, 66, 67, 68, 70, 192, 193, 2944, 2945, 3008], [(3, 5, 45)], (([], []), [([], [], [])]))
def ct_x091 : zCt := [(8, [(0, .inr (.inl (some 3))), (1, .inl (6, 6)), (2, .inl (0, 1)), (3, .inl (0, 30))], [], [.inl 1, .inr (true, 3), .inl 0], ([], [], [], []))]
def tb_x091 : zTb := ([sm_adv, sm_x090], zdec, zprs)
def cm_x091 : List (Nat × List Nat) := [(264, [1]), (280, [0])]
theorem rn_x091 : zgood tb_x091 cm_x091 2 sm_x091 ct_x091 20000 = true := by decide +kernel
theorem so_x091 {D : va_G} {l : Launch} : zSO zD0 D l pT sm_x091 := zfl1 rn_x091 (zHc so_adv (zHc so_x090 zHn)) hp_T
-- X5_sum
def sm_x092 : zSm := (262, (16, 630), [.inr (.inl (some 3)), .inl (6, 6)], some (.inl (0, 1)), [65, 66, 67, 68, 70, 192, 193, 2944, 2945, 3008], [(3, 5, 45)], (([], []), [([], [], [])]))
def ct_x092 : zCt := [(8, [(0, .inr (.inl (some 3))), (1, .inl (6, 6)), (2, .inl (0, 1)), (3, .inl (0, 30))], [], [.inl 1, .inr (true, 3), .inl 0], ([], [], [], []))]
def tb_x092 : zTb := ([sm_adv, sm_x091], zdec, zprs)
def cm_x092 : List (Nat × List Nat) := [(263, [1]), (280, [0])]
theorem rn_x092 : zgood tb_x092 cm_x092 2 sm_x092 ct_x092 20000 = true := by decide +kernel
theorem so_x092 {D : va_G} {l : Launch} : zSO zD0 D l pT sm_x092 := zfl1 rn_x092 (zHc so_adv (zHc so_x091 zHn)) hp_T
-- X5_one
def sm_x093 : zSm := (259, (17, 654), [.inr (.inl (some 3)), .inl (6, 6)], some (.inl (0, 1)), [65, 66, 67, 68, 70, 192, 193, 2944, 2945, 3008], [(3, 5, 45)], (([], []), [([], [], [])]))
def ct_x093 : zCt := []
def tb_x093 : zTb := ([sm_adv, sm_x086, sm_x092], zdec, zprs)
def cm_x093 : List (Nat × List Nat) := [(256, [1]), (262, [2]), (280, [0])]
theorem rn_x093 : zgood tb_x093 cm_x093 3 sm_x093 ct_x093 20000 = true := by decide +kernel
theorem so_x093 {D : va_G} {l : Launch} : zSO zD0 D l pT sm_x093 := zfl1 rn_x093 (zHc so_adv (zHc so_x086 (zHc so_x092 zHn))) hp_T
-- X5_negation
def sm_x094 : zSm := (256, (18, 677), [.inr (.inl (some 3)), .inl (5, 5)], some (.inl (0, 1)), [65, 66, 67, 68, 70, 192, 193, 2944, 2945, 3008], [(3, 5, 45)], (([], []), [([], [], [])]))
def ct_x094 : zCt := []
def tb_x094 : zTb := ([sm_adv, sm_x093], zdec, zprs)
def cm_x094 : List (Nat × List Nat) := [(259, [1]), (280, [0])]
theorem rn_x094 : zgood tb_x094 cm_x094 2 sm_x094 ct_x094 20000 = true := by decide +kernel
theorem so_x094 {D : va_G} {l : Launch} : zSO zD0 D l pT sm_x094 := zfl1 rn_x094 (zHc so_adv (zHc so_x093 zHn)) hp_T
-- X5_both
def sm_x095 : zSm := (243, (18, 677), [.inr (.inl (some 3)), .inl (6, 6)], some (.inl (0, 1)), [65, 66, 67, 68, 70, 192, 193, 2944, 2945, 3008], [(3, 5, 45)], (([], []), [([], [], [])]))
def ct_x095 : zCt := [(8, [(0, .inr (.inl (some 3))), (1, .inl (6, 6)), (2, .inl (0, 1)), (3, .inl (0, 30))], [], [.inl 1, .inr (true, 3), .inl 0], ([], [], [], []))]
def tb_x095 : zTb := ([sm_adv, sm_x093], zdec, zprs)
def cm_x095 : List (Nat × List Nat) := [(259, [1]), (280, [0])]
theorem rn_x095 : zgood tb_x095 cm_x095 2 sm_x095 ct_x095 20000 = true := by decide +kernel
theorem so_x095 {D : va_G} {l : Launch} : zSO zD0 D l pT sm_x095 := zfl1 rn_x095 (zHc so_adv (zHc so_x093 zHn)) hp_T
