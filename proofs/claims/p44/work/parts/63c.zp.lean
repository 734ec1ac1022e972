-- X5_either
def sm_x096 : zSm := (246, (19, 700), [.inr (.inl (some 3)), .inl (6, 6)], some (.inl (0, 1)), [65, 66, 67, 68, 70, 192, 193, 2944, 2945, 3008], [(3, 5, 45)], (([], []), [([], [], [])]))
def ct_x096 : zCt := [(8, [(0, .inr (.inl (some 3))), (1, .inl (6, 6)), (2, .inl (0, 1)), (3, .inl (0, 30))], [], [.inl 1, .inr (true, 3), .inl 0], ([], [], [], []))]
def tb_x096 : zTb := ([sm_adv, sm_x095], zdec, zprs)
def cm_x096 : List (Nat × List Nat) := [(243, [1]), (280, [0])]
theorem rn_x096 : zgood tb_x096 cm_x096 2 sm_x096 ct_x096 20000 = true := by decide +kernel
theorem so_x096 {D : va_G} {l : Launch} : zSO zD0 D l pT sm_x096 := zfl1 rn_x096 (zHc so_adv (zHc so_x095 zHn)) hp_T
-- X5_inParentheses
def sm_x097 : zSm := (250, (20, 723), [.inr (.inl (some 3)), .inl (5, 5)], some (.inl (0, 1)), [65, 66, 67, 68, 70, 192, 193, 2944, 2945, 3008], [(3, 5, 45)], (([], []), [([], [], [])]))
def ct_x097 : zCt := []
def tb_x097 : zTb := ([sm_adv, sm_x096], zdec, zprs)
def cm_x097 : List (Nat × List Nat) := [(246, [1]), (280, [0])]
theorem rn_x097 : zgood tb_x097 cm_x097 2 sm_x097 ct_x097 20000 = true := by decide +kernel
theorem so_x097 {D : va_G} {l : Launch} : zSO zD0 D l pT sm_x097 := zfl1 rn_x097 (zHc so_adv (zHc so_x096 zHn)) hp_T
-- X5_unit
def sm_x098 : zSm := (264, (21, 744), [.inr (.inl (some 3)), .inl (5, 5)], some (.inl (0, 1)), [65, 66, 67, 68, 70, 192, 193, 2944, 2945, 3008], [(3, 5, 45)], (([], []), [([], [], [])]))
def ct_x098 : zCt := []
def tb_x098 : zTb := ([sm_adv, sm_x097], zdec, zprs)
def cm_x098 : List (Nat × List Nat) := [(250, [1]), (280, [0])]
theorem rn_x098 : zgood tb_x098 cm_x098 2 sm_x098 ct_x098 20000 = true := by decide +kernel
theorem so_x098 {D : va_G} {l : Launch} : zSO zD0 D l pT sm_x098 := zfl1 rn_x098 (zHc so_adv (zHc so_x097 zHn)) hp_T
-- X5_term
def sm_x099 : zSm := (263, (22, 767), [.inr (.inl (some 3)), .inl (5, 5)], some (.inl (0, 1)), [65, 66, 67, 68, 70, 192, 193, 2944, 2945, 3008], [(3, 5, 45)], (([], []), [([], [], [])]))
def ct_x099 : zCt := [(8, [(0, .inr (.inl (some 3))), (1, .inl (5, 5)), (2, .inl (0, 1)), (3, .inl (0, 30))], [], [.inl 1, .inr (true, 3), .inl 0], ([], [], [], []))]
def tb_x099 : zTb := ([sm_adv, sm_x098], zdec, zprs)
def cm_x099 : List (Nat × List Nat) := [(264, [1]), (280, [0])]
theorem rn_x099 : zgood tb_x099 cm_x099 2 sm_x099 ct_x099 20000 = true := by decide +kernel
theorem so_x099 {D : va_G} {l : Launch} : zSO zD0 D l pT sm_x099 := zfl1 rn_x099 (zHc so_adv (zHc so_x098 zHn)) hp_T
-- X5_sum
def sm_x100 : zSm := (262, (23, 791), [.inr (.inl (some 3)), .inl (5, 5)], some (.inl (0, 1)), [65, 66, 67, 68, 70, 192, 193, 2944, 2945, 3008], [(3, 5, 45)], (([], []), [([], [], [])]))
def ct_x100 : zCt := [(8, [(0, .inr (.inl (some 3))), (1, .inl (5, 5)), (2, .inl (0, 1)), (3, .inl (0, 30))], [], [.inl 1, .inr (true, 3), .inl 0], ([], [], [], []))]
def tb_x100 : zTb := ([sm_adv, sm_x099], zdec, zprs)
def cm_x100 : List (Nat × List Nat) := [(263, [1]), (280, [0])]
theorem rn_x100 : zgood tb_x100 cm_x100 2 sm_x100 ct_x100 20000 = true := by decide +kernel
theorem so_x100 {D : va_G} {l : Launch} : zSO zD0 D l pT sm_x100 := zfl1 rn_x100 (zHc so_adv (zHc so_x099 zHn)) hp_T
-- X5_one
def sm_x101 : zSm := (259, (24, 815), [.inr (.inl (some 3)), .inl (5, 5)], some (.inl (0, 1)), [65, 66, 67, 68, 70, 192, 193, 2944, 2945, 3008], [(3, 5, 45)], (([], []), [([], [], [])]))
def ct_x101 : zCt := []
def tb_x101 : zTb := ([sm_adv, sm_x094, sm_x100], zdec, zprs)
def cm_x101 : List (Nat × List Nat) := [(256, [1]), (262, [2]), (280, [0])]
theorem rn_x101 : zgood tb_x101 cm_x101 3 sm_x101 ct_x101 20000 = true := by decide +kernel
theorem so_x101 {D : va_G} {l : Launch} : zSO zD0 D l pT sm_x101 := zfl1 rn_x101 (zHc so_adv (zHc so_x094 (zHc so_x100 zHn))) hp_T
-- X5_negation
def sm_x102 : zSm := (256, (25, 838), [.inr (.inl (some 3)), .inl (4, 4)], some (.inl (0, 1)), [65, 66, 67, 68, 70, 192, 193, 2944, 2945, 3008], [(3, 5, 45)], (([], []), [([], [], [])]))
def ct_x102 : zCt := []
def tb_x102 : zTb := ([sm_adv, sm_x101], zdec, zprs)
def cm_x102 : List (Nat × List Nat) := [(259, [1]), (280, [0])]
theorem rn_x102 : zgood tb_x102 cm_x102 2 sm_x102 ct_x102 20000 = true := by decide +kernel
theorem so_x102 {D : va_G} {l : Launch} : zSO zD0 D l pT sm_x102 := zfl1 rn_x102 (zHc so_adv (zHc so_x101 zHn)) hp_T
-- X5_both
def sm_x103 : zSm := (243, (25, 838), [.inr (.inl (some 3)), .inl (5, 5)], some (.inl (0, 1)), [65, 66, 67, 68, 70, 192, 193, 2944, 2945, 3008], [(3, 5, 45)], (([], []), [([], [], [])]))
def ct_x103 : zCt := [(8, [(0, .inr (.inl (some 3))), (1, .inl (5, 5)), (2, .inl (0, 1)), (3, .inl (0, 30))], [], [.inl 1, .inr (true, 3), .inl 0], ([], [], [], []))]
def tb_x103 : zTb := ([sm_adv, sm_x101], zdec, zprs)
def cm_x103 : List (Nat × List Nat) := [(259, [1]), (280, [0])]
theorem rn_x103 : zgood tb_x103 cm_x103 2 sm_x103 ct_x103 20000 = true := by decide +kernel
theorem so_x103 {D : va_G} {l : Launch} : zSO zD0 D l pT sm_x103 := zfl1 rn_x103 (zHc so_adv (zHc so_x101 zHn)) hp_T
-- X5_either
def sm_x104 : zSm := (246, (26, 861), [.inr (.inl (some 3)), .inl (5, 5)], some (.inl (0, 1)), [65, 66, 67, 68, 70, 192, 193, 2944, 2945, 3008], [(3, 5, 45)], (([], []), [([], [], [])]))
def ct_x104 : zCt := [(8, [(0, .inr (.inl (some 3))), (1, .inl (5, 5)), (2, .inl (0, 1)), (3, .inl (0, 30))], [], [.inl 1, .inr (true, 3), .inl 0], ([], [], [], []))]
def tb_x104 : zTb := ([sm_adv, sm_x103], zdec, zprs)
def cm_x104 : List (Nat × List Nat) := [(243, [1]), (280, [0])]
theorem rn_x104 : zgood tb_x104 cm_x104 2 sm_x104 ct_x104 20000 = true := by decide +kernel
theorem so_x104 {D : va_G} {l : Launch} : zSO zD0 D l pT sm_x104 := zfl1 rn_x104 (zHc so_adv (zHc so_x103 zHn)) hp_T
-- X5_inParentheses
def sm_x105 : zSm := (250, (27, 884), [.inr (.inl (some 3)), .inl (4, 4)], some (.inl (0, 1)), [65, 66, 67, 68, 70, 192, 193, 2944, 2945, 3008], [(3, 5, 45)], (([], []), [([], [], [])]))
def ct_x105 : zCt := []
def tb_x105 : zTb := ([sm_adv, sm_x104], zdec, zprs)
def cm_x105 : List (Nat × List Nat) := [(246, [1]), (280, [0])]
theorem rn_x105 : zgood tb_x105 cm_x105 2 sm_x105 ct_x105 20000 = true := by decide +kernel
theorem so_x105 {D : va_G} {l : Launch} : zSO zD0 D l pT sm_x105 := zfl1 rn_x105 (zHc so_adv (zHc so_x104 zHn)) hp_T
-- X5_unit
def sm_x106 : zSm := (264, (28, 905), [.inr (.inl (some 3)), .inl (4, 4)], some (.inl (0, 1)), [65, 66, 67, 68, 70, 192, 193, 2944, 2945, 3008], [(3, 5, 45)], (([], []), [([], [], [])]))
def ct_x106 : zCt := []
def tb_x106 : zTb := ([sm_adv, sm_x105], zdec, zprs)
def cm_x106 : List (Nat × List Nat) := [(250, [1]), (280, [0])]
theorem rn_x106 : zgood tb_x106 cm_x106 2 sm_x106 ct_x106 20000 = true := by decide +kernel
theorem so_x106 {D : va_G} {l : Launch} : zSO zD0 D l pT sm_x106 := zfl1 rn_x106 (zHc so_adv (zHc so_x105 zHn)) hp_T
-- X5_term
def sm_x107 : zSm := (263, (29, 928), [.inr (.inl (some 3)), .inl (4, 4)], some (.inl (0, 1)), [65, 66, 67, 68, 70, 192, 193, 2944, 2945, 3008], [(3, 5, 45)], (([], []), [([], [], [])]))
def ct_x107 : zCt := [(8, [(0, .inr (.inl (some 3))), (1, .inl (4, 4)), (2, .inl (0, 1)), (3, .inl (0, 30))], [], [.inl 1, .inr (true, 3), .inl 0], ([], [], [], []))]
def tb_x107 : zTb := ([sm_adv, sm_x106], zdec, zprs)
def cm_x107 : List (Nat × List Nat) := [(264, [1]), (280, [0])]
theorem rn_x107 : zgood tb_x107 cm_x107 2 sm_x107 ct_x107 20000 = true := by decide +kernel
theorem so_x107 {D : va_G} {l : Launch} : zSO zD0 D l pT sm_x107 := zfl1 rn_x107 (zHc so_adv (zHc so_x106 zHn)) hp_T
-- X5_sum
def sm_x108 : zSm := (262, (30, 952), [.inr (.inl (some 3)), .inl (4, 4)], some (.inl (0, 1)), [65, 66, 67, 68, 70, 192, 193, 2944, 2945, 3008], [(3, 5, 45)], (([], []), [([], [], [])]))
def ct_x108 : zCt := [(8, [(0, .inr (.inl (some 3))), (1, .inl (4, 4)), (2, .inl (0, 1)), (3, .inl (0, 30))], [], [.inl 1, .inr (true, 3), .inl 0], ([], [], [], []))]
def tb_x108 : zTb := ([sm_adv, sm_x107], zdec, zprs)
def cm_x108 : List (Nat × List Nat) := [(263, [1]), (280, [0])]
theorem rn_x108 : zgood tb_x108 cm_x108 2 sm_x108 ct_x108 20000 = true := by decide +kernel
theorem so_x108 {D : va_G} {l : Launch} : zSO zD0 D l pT sm_x108 := zfl1 rn_x108 (zHc so_adv (zHc so_x107 zHn)) hp_T
-- X5_one
def sm_x109 : zSm := (259, (31, 976), [.inr (.inl (some 3)), .inl (4, 4)], some (.inl (0, 1)), [65, 66, 67, 68, 70, 192, 193, 2944, 2945, 3008], [(3, 5, 45)], (([], []), [([], [], [])]))
def ct_x109 : zCt := []
def tb_x109 : zTb := ([sm_adv, sm_x102, sm_x108], zdec, zprs)
def cm_x109 : List (Nat × List Nat) := [(256, [1]), (262, [2]), (280, [0])]
theorem rn_x109 : zgood tb_x109 cm_x109 3 sm_x109 ct_x109 20000 = true := by decide +kernel
theorem so_x109 {D : va_G} {l : Launch} : zSO zD0 D l pT sm_x109 := zfl1 rn_x109 (zHc so_adv (zHc so_x102 (zHc so_x108 zHn))) hp_T
-- X5_negation
def sm_x110 : zSm := (256, (32, 999), [.inr (.inl (some 3)), .inl (3, 3)], some (.inl (0, 1)), [65, 66, 67, 68, 70, 192, 193, 2944, 2945, 3008], [(3, 5, 45)], (([], []), [([], [], [])]))
def ct_x110 : zCt := []
def tb_x110 : zTb := ([sm_adv, sm_x109], zdec, zprs)
def cm_x110 : List (Nat × List Nat) := [(259, [1]), (280, [0])]
theorem rn_x110 : zgood tb_x110 cm_x110 2 sm_x110 ct_x110 20000 = true := by decide +kernel
theorem so_x110 {D : va_G} {l : Launch} : zSO zD0 D l pT sm_x110 := zfl1 rn_x110 (zHc so_adv (zHc so_x109 zHn)) hp_T
-- X5_both
def sm_x111 : zSm := (243, (32, 999), [.inr (.inl (some 3)), .inl (4, 4)], some (.inl (0, 1)), [65, 66, 67, 68, 70, 192, 193, 2944, 2945, 3008], [(3, 5, 45)], (([], []), [([], [], [])]))
def ct_x111 : zCt := [(8, [(0, .inr (.inl (some 3))), (1, .inl (4, 4)), (2, .inl (0, 1)), (3, .inl (0, 30))], [], [.inl 1, .inr (true, 3), .inl 0], ([], [], [], []))]
def tb_x111 : zTb := ([sm_adv, sm_x109], zdec, zprs)
def cm_x111 : List (Nat × List Nat) := [(259, [1]), (280, [0])]
theorem rn_x111 : zgood tb_x111 cm_x111 2 sm_x111 ct_x111 20000 = true := by decide +kernel
theorem so_x111 {D : va_G} {l : Launch} : zSO zD0 D l pT sm_x111 := zfl1 rn_x111 (zHc so_adv (zHc so_x109 zHn)) hp_T
-- X5_either
def sm_x112 : zSm := (246, (33, 1022), [.inr (.inl (some 3)), .inl (4, 4)], some (.inl (0, 1)), [65, 66, 67, 68, 70, 192, 193, 2944, 2945, 3008], [(3, 5, 45)], (([], []), [([], [], [])]))
def ct_x112 : zCt := [(8, [(0, .inr (.inl (some 3))), (1, .inl (4, 4)), (2, .inl (0, 1)), (3, .inl (0, 30))], [], [.inl 1, .inr (true, 3), .inl 0], ([], [], [], []))]
def tb_x112 : zTb := ([sm_adv, sm_x111], zdec, zprs)
def cm_x112 : List (Nat × List Nat) := [(243, [1]), (280, [0])]
theorem rn_x112 : zgood tb_x112 cm_x112 2 sm_x112 ct_x112 20000 = true := by decide +kernel
theorem so_x112 {D : va_G} {l : Launch} : zSO zD0 D l pT sm_x112 := zfl1 rn_x112 (zHc so_adv (zHc so_x111 zHn)) hp_T
-- X5_inParentheses
def sm_x113 : zSm := (250, (34, 1045), [.inr (.inl (some 3)), .inl (3, 3)], some (.inl (0, 1)), [65, 66, 67, 68, 70, 192, 193, 2944, 2945, 3008], [(3, 5, 45)], (([], []), [([], [], [])]))
def ct_x113 : zCt := []
def tb_x113 : zTb := ([sm_adv, sm_x112], zdec, zprs)
def cm_x113 : List (Nat × List Nat) := [(246, [1]), (280, [0])]
theorem rn_x113 : zgood tb_x113 cm_x113 2 sm_x113 ct_x113 20000 = true := by decide +kernel
theorem so_x113 {D : va_G} {l : Launch} : zSO zD0 D l pT sm_x113 := zfl1 rn_x113 (zHc so_adv (zHc so_x112 zHn)) hp_T
-- X5_unit
def sm_x114 : zSm := (264, (35, 1066), [.inr (.inl (some 3)), .inl (3, 3)], some (.inl (0, 1)), [65, 66, 67, 68, 70, 192, 193, 2944, 2945, 3008], [(3, 5, 45)], (([], []), [([], [], [])]))
def ct_x114 : zCt := []
def tb_x114 : zTb := ([sm_adv, sm_x113], zdec, zprs)
def cm_x114 : List (Nat × List Nat) := [(250, [1]), (280, [0])]
theorem rn_x114 : zgood tb_x114 cm_x114 2 sm_x114 ct_x114 20000 = true := by decide +kernel
theorem so_x114 {D : va_G} {l : Launch} : zSO zD0 D l pT sm_x114 := zfl1 rn_x114 (zHc so_adv (zHc so_x113 zHn)) hp_T
-- X5_term
def sm_x115 : zSm := (263, (36, 1089), [.inr (.inl (some 3)), .inl (3, 3)], some (.inl (0, 1)), [65, 66, 67, 68, 70, 192, 193, 2944, 2945, 3008], [(3, 5, 45)], (([], []), [([], [], [])]))
def ct_x115 : zCt := [(8, [(0, .inr (.inl (some 3))), (1, .inl (3, 3)), (2, .inl (0, 1)), (3, .inl (0, 30))], [], [.inl 1, .inr (true, 3), .inl 0], ([], [], [], []))]
def tb_x115 : zTb := ([sm_adv, sm_x114], zdec, zprs)
def cm_x115 : List (Nat × List Nat) := [(264, [1]), (280, [0])]
theorem rn_x115 : zgood tb_x115 cm_x115 2 sm_x115 ct_x115 20000 = true := by decide +kernel
theorem so_x115 {D : va_G} {l : Launch} : zSO zD0 D l pT sm_x115 := zfl1 rn_x115 (zHc so_adv (zHc so_x114 zHn)) hp_T
-- X5_sum
def sm_x116 : zSm := (262, (37, 1113), [.inr (.inl (some 3)), .inl (3, 3)], some (.inl (0, 1)), [65, 66, 67, 68, 70, 192, 193, 2944, 2945, 3008], [(3, 5, 45)], (([], []), [([], [], [])]))
def ct_x116 : zCt := [(8, [(0, .inr (.inl (some 3))), (1, .inl (3, 3)), (2, .inl (0, 1)), (3, .inl (0, 30))], [], [.inl 1, .inr (true, 3), .inl 0], ([], [], [], []))]
def tb_x116 : zTb := ([sm_adv, sm_x115], zdec, zprs)
def cm_x116 : List (Nat × List Nat) := [(263, [1]), (280, [0])]
theorem rn_x116 : zgood tb_x116 cm_x116 2 sm_x116 ct_x116 20000 = true := by decide +kernel
theorem so_x116 {D : va_G} {l : Launch} : zSO zD0 D l pT sm_x116 := zfl1 rn_x116 (zHc so_adv (zHc so_x115 zHn)) hp_T
-- X5_one
def sm_x117 : zSm := (259, (38, 1137), [.inr (.inl (some 3)), .inl (3, 3)], some (.inl (0, 1)), [65, 66, 67, 68, 70, 192, 193, 2944, 2945, 3008], [(3, 5, 45)], (([], []), [([], [], [])]))
def ct_x117 : zCt := []
def tb_x117 : zTb := ([sm_adv, sm_x110, sm_x116], zdec, zprs)
def cm_x117 : List (Nat × List Nat) := [(256, [1]), (262, [2]), (280, [0])]
theorem rn_x117 : zgood tb_x117 cm_x117 3 sm_x117 ct_x117 20000 = true := by decide +kernel
theorem so_x117 {D : va_G} {l : Launch} : zSO zD0 D l pT sm_x117 := zfl1 rn_x117 (zHc so_adv (zHc so_x110 (zHc so_x116 zHn))) hp_T
-- X5_negation
def sm_x118 : zSm := (256, (39, 1160), [.inr (.inl (some 3)), .inl (2, 2)], some (.inl (0, 1)), [65, 66, 67, 68, 70, 192, 193, 2944, 2945, 3008], [(3, 5, 45)], (([], []), [([], [], [])]))
def ct_x118 : zCt := []
def tb_x118 : zTb := ([sm_adv, sm_x117], zdec, zprs)
def cm_x118 : List (Nat × List Nat) := [(259, [1]), (280, [0])]
theorem rn_x118 : zgood tb_x118 cm_x118 2 sm_x118 ct_x118 20000 = true := by decide +kernel
theorem so_x118 {D : va_G} {l : Launch} : zSO zD0 D l pT sm_x118 := zfl1 rn_x118 (zHc so_adv (zHc so_x117 zHn)) hp_T
-- X5_both
def sm_x119 : zSm := (243, (39, 1160), [.inr (.inl (some 3)), .inl (3, 3)], some (.inl (0, 1)), [65, 66, 67, 68, 70, 192, 193, 2944, 2945, 3008], [(3, 5, 45)], (([], []), [([], [], [])]))
def ct_x119 : zCt := [(8, [(0, .inr (.inl (some 3))), (1, .inl (3, 3)), (2, .inl (0, 1)), (3, .inl (0, 30))], [], [.inl 1, .inr (true, 3), .inl 0], ([], [], [], []))]
def tb_x119 : zTb := ([sm_adv, sm_x117], zdec, zprs)
def cm_x119 : List (Nat × List Nat) := [(259, [1]), (280, [0])]
theorem rn_x119 : zgood tb_x119 cm_x119 2 sm_x119 ct_x119 20000 = true := by decide +kernel
theorem so_x119 {D : va_G} {l : Launch} : zSO zD0 D l pT sm_x119 := zfl1 rn_x119 (zHc so_adv (zHc so_x117 zHn)) hp_T
-- X5_either
def sm_x120 : zSm := (246, (40, 1183), [.inr (.inl (some 3)), .inl (3, 3)], some (.inl (0, 1)), [65, 66, 67, 68, 70, 192, 193, 2944, 2945, 3008], [(3, 5, 45)], (([], []), [([], [], [])]))
def ct_x120 : zCt := [(8, [(0, .inr (.inl (some 3))), (1, .inl (3, 3)), (2, .inl (0, 1)), (3, .inl (0, 30))], [], [.inl 1, .inr (true, 3), .inl 0], ([], [], [], []))]
def tb_x120 : zTb := ([sm_adv, sm_x119], zdec, zprs)
def cm_x120 : List (Nat × List Nat) := [(243, [1]), (280, [0])]
theorem rn_x120 : zgood tb_x120 cm_x120 2 sm_x120 ct_x120 20000 = true := by decide +kernel
theorem so_x120 {D : va_G} {l : Launch} : zSO zD0 D l pT sm_x120 := zfl1 rn_x120 (zHc so_adv (zHc so_x119 zHn)) hp_T
-- X5_inParentheses
def sm_x121 : zSm := (250, (41, 1206), [.inr (.inl (some 3)), .inl (2, 2)], some (.inl (0, 1)), [65, 66, 67, 68, 70, 192, 193, 2944, 2945, 3008], [(3, 5, 45)], (([], []), [([], [], [])]))
def ct_x121 : zCt := []
def tb_x121 : zTb := ([sm_adv, sm_x120], zdec, zprs)
def cm_x121 : List (Nat × List Nat) := [(246, [1]), (280, [0])]
theorem rn_x121 : zgood tb_x121 cm_x121 2 sm_x121 ct_x121 20000 = true := by decide +kernel
theorem so_x121 {D : va_G} {l : Launch} : zSO zD0 D l pT sm_x121 := zfl1 rn_x121 (zHc so_adv (zHc so_x120 zHn)) hp_T
-- X5_unit
def sm_x122 : zSm := (264, (42, 1227), [.inr (.inl (some 3)), .inl (2, 2)], some (.inl (0, 1)), [65, 66, 67, 68, 70, 192, 193, 2944, 2945, 3008], [(3, 5, 45)], (([], []), [([], [], [])]))
def ct_x122 : zCt := []
def tb_x122 : zTb := ([sm_adv, sm_x121], zdec, zprs)
def cm_x122 : List (Nat × List Nat) := [(250, [1]), (280, [0])]
theorem rn_x122 : zgood tb_x122 cm_x122 2 sm_x122 ct_x122 20000 = true := by decide +kernel
theorem so_x122 {D : va_G} {l : Launch} : zSO zD0 D l pT sm_x122 := zfl1 rn_x122 (zHc so_adv (zHc so_x121 zHn)) hp_T
-- X5_term
def sm_x123 : zSm := (263, (43, 1250), [.inr (.inl (some 3)), .inl (2, 2)], some (.inl (0, 1)), [65, 66, 67, 68, 70, 192, 193, 2944, 2945, 3008], [(3, 5, 45)], (([], []), [([], [], [])]))
def ct_x123 : zCt := [(8, [(0, .inr (.inl (some 3))), (1, .inl (2, 2)), (2, .inl (0, 1)), (3, .inl (0, 30))], [], [.inl 1, .inr (true, 3), .inl 0], ([], [], [], []))]
def tb_x123 : zTb := ([sm_adv, sm_x122], zdec, zprs)
def cm_x123 : List (Nat × List Nat) := [(264, [1]), (280, [0])]
theorem rn_x123 : zgood tb_x123 cm_x123 2 sm_x123 ct_x123 20000 = true := by decide +kernel
theorem so_x123 {D : va_G} {l : Launch} : zSO zD0 D l pT sm_x123 := zfl1 rn_x123 (zHc so_adv (zHc so_x122 zHn)) hp_T
-- X5_sum
def sm_x124 : zSm := (262, (44, 1274), [.inr (.inl (some 3)), .inl (2, 2)], some (.inl (0, 1)), [65, 66, 67, 68, 70, 192, 193, 2944, 2945, 3008], [(3, 5, 45)], (([], []), [([], [], [])]))
def ct_x124 : zCt := [(8, [(0, .inr (.inl (some 3))), (1, .inl (2, 2)), (2, .inl (0, 1)), (3, .inl (0, 30))], [], [.inl 1, .inr (true, 3), .inl 0], ([], [], [], []))]
def tb_x124 : zTb := ([sm_adv, sm_x123], zdec, zprs)
def cm_x124 : List (Nat × List Nat) := [(263, [1]), (280, [0])]
theorem rn_x124 : zgood tb_x124 cm_x124 2 sm_x124 ct_x124 20000 = true := by decide +kernel
theorem so_x124 {D : va_G} {l : Launch} : zSO zD0 D l pT sm_x124 := zfl1 rn_x124 (zHc so_adv (zHc so_x123 zHn)) hp_T
-- X5_one
def sm_x125 : zSm := (259, (45, 1298), [.inr (.inl (some 3)), .inl (2, 2)], some (.inl (0, 1)), [65, 66, 67, 68, 70, 192, 193, 2944, 2945, 3008], [(3, 5, 45)], (([], []), [([], [], [])]))
def ct_x125 : zCt := []
def tb_x125 : zTb := ([sm_adv, sm_x118, sm_x124], zdec, zprs)
def cm_x125 : List (Nat × List Nat) := [(256, [1]), (262, [2]), (280, [0])]
theorem rn_x125 : zgood tb_x125 cm_x125 3 sm_x125 ct_x125 20000 = true := by decide +kernel
theorem so_x125 {D : va_G} {l : Launch} : zSO zD0 D l pT sm_x125 := zfl1 rn_x125 (zHc so_adv (zHc so_x118 (zHc so_x124 zHn))) hp_T
-- X5_negation
def sm_x126 : zSm := (256, (46, 1321), [.inr (.inl (some 3)), .inl (1, 1)], some (.inl (0, 1)), [65, 66, 67, 68, 70, 192, 193, 2944, 2945, 3008], [(3, 5, 45)], (([], []), [([], [], [])]))
def ct_x126 : zCt := []
def tb_x126 : zTb := ([sm_adv, sm_x125], zdec, zprs)
def cm_x126 : List (Nat × List Nat) := [(259, [1]), (280, [0])]
theorem rn_x126 : zgood tb_x126 cm_x126 2 sm_x126 ct_x126 20000 = true := by decide +kernel
theorem so_x126 {D : va_G} {l : Launch} : zSO zD0 D l pT sm_x126 := zfl1 rn_x126 (zHc so_adv (zHc so_x125 zHn)) hp_T
-- X5_both
def sm_x127 : zSm := (243, (46, 1321), [.inr (.inl (some 3)), .inl (2, 2)], some (.inl (0, 1)), [65, 66, 67, 68, 70, 192, 193, 2944, 2945, 3008], [(3, 5, 45)], (([], []), [([], [], [])]))
def ct_x127 : zCt := [(8, [(0, .inr (.inl (some 3))), (1, .inl (2, 2)), (2, .inl (0, 1)), (3, .inl (0, 30))], [], [.inl 1, .inr (true, 3), .inl 0], ([], [], [], []))]
def tb_x127 : zTb := ([sm_adv, sm_x125], zdec, zprs)
def cm_x127 : List (Nat × List Nat) := [(259, [1]), (280, [0])]
theorem rn_x127 : zgood tb_x127 cm_x127 2 sm_x127 ct_x127 20000 = true := by decide +kernel
theorem so_x127 {D : va_G} {l : Launch} : zSO zD0 D l pT sm_x127 := zfl1 rn_x127 (zHc so_adv (zHc so_x125 zHn)) hp_T
-- X5_either
def sm_x128 : zSm := (246, (47, 1344), [.inr (.inl (some 3)), .inl (2, 2)], some (.inl (0, 1)), [65, 66, 67, 68, 70, 192, 193, 2944, 2945, 3008], [(3, 5, 45)], (([], []), [([], [], [])]))
def ct_x128 : zCt := [(8, [(0, .inr (.inl (some 3))), (1, .inl (2, 2)), (2, .inl (0, 1)), (3, .inl (0, 30))], [], [.inl 1, .inr (true, 3), .inl 0], ([], [], [], []))]
def tb_x128 : zTb := ([sm_adv, sm_x127], zdec, zprs)
def cm_x128 : List (Nat × List Nat) := [(243, [1]), (280, [0])]
theorem rn_x128 : zgood tb_x128 cm_x128 2 sm_x128 ct_x128 20000 = true := by decide +kernel
theorem so_x128 {D : va_G} {l : Launch} : zSO zD0 D l pT sm_x128 := zfl1 rn_x128 (zHc so_adv (zHc so_x127 zHn)) hp_T
-- X5_inParentheses
def sm_x129 : zSm := (250, (48, 1367), [.inr (.inl (some 3)), .inl (1, 1)], some (.inl (0, 1)), [65, 66, 67, 68, 70, 192, 193, 2944, 2945, 3008], [(3, 5, 45)], (([], []), [([], [], [])]))
def ct_x129 : zCt := []
def tb_x129 : zTb := ([sm_adv, sm_x128], zdec, zprs)
def cm_x129 : List (Nat × List Nat) := [(246, [1]), (280, [0])]
theorem rn_x129 : zgood tb_x129 cm_x129 2 sm_x129 ct_x129 20000 = true := by decide +kernel
theorem so_x129 {D : va_G} {l : Launch} : zSO zD0 D l pT sm_x129 := zfl1 rn_x129 (zHc so_adv (zHc so_x128 zHn)) hp_T
-- X5_unit
def sm_x130 : zSm := (264, (49, 1388), [.inr (.inl (some 3)), .inl (1, 1)], some (.inl (0, 1)), [65, 66, 67, 68, 70, 192, 193, 2944, 2945, 3008], [(3, 5, 45)], (([], []), [([], [], [])]))
def ct_x130 : zCt := []
def tb_x130 : zTb := ([sm_adv, sm_x129], zdec, zprs)
def cm_x130 : List (Nat × List Nat) := [(250, [1]), (280, [0])]
theorem rn_x130 : zgood tb_x130 cm_x130 2 sm_x130 ct_x130 20000 = true := by decide +kernel
theorem so_x130 {D : va_G} {l : Launch} : zSO zD0 D l pT sm_x130 := zfl1 rn_x130 (zHc so_adv (zHc so_x129 zHn)) hp_T
-- X5_term
def sm_x131 : zSm := (263, (50, 1411), [.inr (.inl (some 3)), .inl (1, 1)], some (.inl (0, 1)), [65, 66, 67, 68, 70, 192, 193, 2944, 2945, 3008], [(3, 5, 45)], (([], []), [([], [], [])]))
def ct_x131 : zCt := [(8, [(0, .inr (.inl (some 3))), (1, .inl (1, 1)), (2, .inl (0, 1)), (3, .inl (0, 30))], [], [.inl 1, .inr (true, 3), .inl 0], ([], [], [], []))]
def tb_x131 : zTb := ([sm_adv, sm_x130], zdec, zprs)
def cm_x131 : List (Nat × List Nat) := [(264, [1]), (280, [0])]
theorem rn_x131 : zgood tb_x131 cm_x131 2 sm_x131 ct_x131 20000 = true := by decide +kernel
theorem so_x131 {D : va_G} {l : Launch} : zSO zD0 D l pT sm_x131 := zfl1 rn_x131 (zHc so_adv (zHc so_x130 zHn)) hp_T
-- X5_sum
def sm_x132 : zSm := (262, (51, 1435), [.inr (.inl (some 3)), .inl (1, 1)], some (.inl (0, 1)), [65, 66, 67, 68, 70, 192, 193, 2944, 2945, 3008], [(3, 5, 45)], (([], []), [([], [], [])]))
def ct_x132 : zCt := [(8, [(0, .inr (.inl (some 3))), (1, .inl (1, 1)), (2, .inl (0, 1)), (3, .inl (0, 30))], [], [.inl 1, .inr (true, 3), .inl 0], ([], [], [], []))]
def tb_x132 : zTb := ([sm_adv, sm_x131], zdec, zprs)
def cm_x132 : List (Nat × List Nat) := [(263, [1]), (280, [0])]
theorem rn_x132 : zgood tb_x132 cm_x132 2 sm_x132 ct_x132 20000 = true := by decide +kernel
theorem so_x132 {D : va_G} {l : Launch} : zSO zD0 D l pT sm_x132 := zfl1 rn_x132 (zHc so_adv (zHc so_x131 zHn)) hp_T
-- X5_one
def sm_x133 : zSm := (259, (52, 1459), [.inr (.inl (some 3)), .inl (1, 1)], some (.inl (0, 1)), [65, 66, 67, 68, 70, 192, 193, 2944, 2945, 3008], [(3, 5, 45)], (([], []), [([], [], [])]))
def ct_x133 : zCt := []
def tb_x133 : zTb := ([sm_adv, sm_x126, sm_x132], zdec, zprs)
def cm_x133 : List (Nat × List Nat) := [(256, [1]), (262, [2]), (280, [0])]
theorem rn_x133 : zgood tb_x133 cm_x133 3 sm_x133 ct_x133 20000 = true := by decide +kernel
theorem so_x133 {D : va_G} {l : Launch} : zSO zD0 D l pT sm_x133 := zfl1 rn_x133 (zHc so_adv (zHc so_x126 (zHc so_x132 zHn))) hp_T
-- X5_negation
def sm_x134 : zSm := (256, (53, 1482), [.inr (.inl (some 3)), .inl (0, 0)], some (.inl (0, 1)), [65, 66, 67, 68, 70, 192, 193, 2944, 2945, 3008], [(3, 5, 45)], (([], []), [([], [], [])]))
def ct_x134 : zCt := []
def tb_x134 : zTb := ([sm_adv, sm_x133], zdec, zprs)
def cm_x134 : List (Nat × List Nat) := [(259, [1]), (280, [0])]
theorem rn_x134 : zgood tb_x134 cm_x134 2 sm_x134 ct_x134 20000 = true := by decide +kernel
theorem so_x134 {D : va_G} {l : Launch} : zSO zD0 D l pT sm_x134 := zfl1 rn_x134 (zHc so_adv (zHc so_x133 zHn)) hp_T
-- X5_both
def sm_x135 : zSm := (243, (53, 1482), [.inr (.inl (some 3)), .inl (1, 1)], some (.inl (0, 1)), [65, 66, 67, 68, 70, 192, 193, 2944, 2945, 3008], [(3, 5, 45)], (([], []), [([], [], [])]))
def ct_x135 : zCt := [(8, [(0, .inr (.inl (some 3))), (1, .inl (1, 1)), (2, .inl (0, 1)), (3, .inl (0, 30))], [], [.inl 1, .inr (true, 3), .inl 0], ([], [], [], []))]
def tb_x135 : zTb := ([sm_adv, sm_x133], zdec, zprs)
def cm_x135 : List (Nat × List Nat) := [(259, [1]), (280, [0])]
theorem rn_x135 : zgood tb_x135 cm_x135 2 sm_x135 ct_x135 20000 = true := by decide +kernel
theorem so_x135 {D : va_G} {l : Launch} : zSO zD0 D l pT sm_x135 := zfl1 rn_x135 (zHc so_adv (zHc so_x133 zHn)) hp_T
-- X5_either
def sm_x136 : zSm := (246, (54, 1505), [.inr (.inl (some 3)), .inl (1, 1)], some (.inl (0, 1)), [65, 66, 67, 68, 70, 192, 193, 2944, 2945, 3008], [(3, 5, 45)], (([], []), [([], [], [])]))
def ct_x136 : zCt := [(8, [(0, .inr (.inl (some 3))), (1, .inl (1, 1)), (2, .inl (0, 1)), (3, .inl (0, 30))], [], [.inl 1, .inr (true, 3), .inl 0], ([], [], [], []))]
def tb_x136 : zTb := ([sm_adv, sm_x135], zdec, zprs)
def cm_x136 : List (Nat × List Nat) := [(243, [1]), (280, [0])]
theorem rn_x136 : zgood tb_x136 cm_x136 2 sm_x136 ct_x136 20000 = true := by decide +kernel
theorem so_x136 {D : va_G} {l : Launch} : zSO zD0 D l pT sm_x136 := zfl1 rn_x136 (zHc so_adv (zHc so_x135 zHn)) hp_T
-- X5_inParentheses
def sm_x137 : zSm := (250, (55, 1528), [.inr (.inl (some 3)), .inl (0, 0)], some (.inl (0, 1)), [65, 66, 67, 68, 70, 192, 193, 2944, 2945, 3008], [(3, 5, 45)], (([], []), [([], [], [])]))
def ct_x137 : zCt := []
def tb_x137 : zTb := ([sm_adv, sm_x136], zdec, zprs)
def cm_x137 : List (Nat × List Nat) := [(246, [1]), (280, [0])]
theorem rn_x137 : zgood tb_x137 cm_x137 2 sm_x137 ct_x137 20000 = true := by decide +kernel
theorem so_x137 {D : va_G} {l : Launch} : zSO zD0 D l pT sm_x137 := zfl1 rn_x137 (zHc so_adv (zHc so_x136 zHn)) hp_T
-- X5_unit
def sm_x138 : zSm := (264, (56, 1549), [.inr (.inl (some 3)), .inl (0, 0)], some (.inl (0, 1)), [65, 66, 67, 68, 70, 192, 193, 2944, 2945, 3008], [(3, 5, 45)], (([], []), [([], [], [])]))
def ct_x138 : zCt := []
def tb_x138 : zTb := ([sm_adv, sm_x137], zdec, zprs)
def cm_x138 : List (Nat × List Nat) := [(250, [1]), (280, [0])]
theorem rn_x138 : zgood tb_x138 cm_x138 2 sm_x138 ct_x138 20000 = true := by decide +kernel
theorem so_x138 {D : va_G} {l : Launch} : zSO zD0 D l pT sm_x138 := zfl1 rn_x138 (zHc so_adv (zHc so_x137 zHn)) hp_T
-- X5_term
def sm_x139 : zSm := (263, (57, 1572), [.inr (.inl (some 3)), .inl (0, 0)], some (.inl (0, 1)), [65, 66, 67, 68, 70, 192, 193, 2944, 2945, 3008], [(3, 5, 45)], (([], []), [([], [], [])]))
def ct_x139 : zCt := [(8, [(0, .inr (.inl (some 3))), (1, .inl (0, 0)), (2, .inl (0, 1)), (3, .inl (0, 30))], [], [.inl 1, .inr (true, 3), .inl 0], ([], [], [], []))]
def tb_x139 : zTb := ([sm_adv, sm_x138], zdec, zprs)
def cm_x139 : List (Nat × List Nat) := [(264, [1]), (280, [0])]
theorem rn_x139 : zgood tb_x139 cm_x139 2 sm_x139 ct_x139 20000 = true := by decide +kernel
theorem so_x139 {D : va_G} {l : Launch} : zSO zD0 D l pT sm_x139 := zfl1 rn_x139 (zHc so_adv (zHc so_x138 zHn)) hp_T
-- X5_sum
def sm_x140 : zSm := (262, (58, 1596), [.inr (.inl (some 3)), .inl (0, 0)], some (.inl (0, 1)), [65, 66, 67, 68, 70, 192, 193, 2944, 2945, 3008], [(3, 5, 45)], (([], []), [([], [], [])]))
def ct_x140 : zCt := [(8, [(0, .inr (.inl (some 3))), (1, .inl (0, 0)), (2, .inl (0, 1)), (3, .inl (0, 30))], [], [.inl 1, .inr (true, 3), .inl 0], ([], [], [], []))]
def tb_x140 : zTb := ([sm_adv, sm_x139], zdec, zprs)
def cm_x140 : List (Nat × List Nat) := [(263, [1]), (280, [0])]
theorem rn_x140 : zgood tb_x140 cm_x140 2 sm_x140 ct_x140 20000 = true := by decide +kernel
theorem so_x140 {D : va_G} {l : Launch} : zSO zD0 D l pT sm_x140 := zfl1 rn_x140 (zHc so_adv (zHc so_x139 zHn)) hp_T
