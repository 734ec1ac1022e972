-- X5_closing
def sm_x004 : zSm := (245, (7, 422), [.inr (.inl (some 3))], some (.inl (0, 1)), [65, 66, 67, 68, 70, 192, 193], [(3, 5, 34)], (([], []), [([], [], [])]))
def ct_x004 : zCt := []
def tb_x004 : zTb := ([sm_adv], zdec, zprs)
def cm_x004 : List (Nat × List Nat) := [(280, [0])]
theorem rn_x004 : zgood tb_x004 cm_x004 1 sm_x004 ct_x004 20000 = true := by decide +kernel
theorem so_x004 {D : va_G} {l : Launch} : zSO zD0 D l pT sm_x004 := zfl1 rn_x004 (zHc so_adv zHn) hp_T
-- X5_field
def sm_x005 : zSm := (248, (7, 422), [.inr (.inl (some 3)), .inl (200, 217), .inl (20, 999)], some (.inl ((-2147483648), 999)), [65, 66, 67, 68, 70, 192, 193], [(3, 5, 34)], (([], []), [([], [], [])]))
def ct_x005 : zCt := []
def tb_x005 : zTb := ([sm_adv], zdec, zprs)
def cm_x005 : List (Nat × List Nat) := [(280, [0])]
theorem rn_x005 : zgood tb_x005 cm_x005 1 sm_x005 ct_x005 20000 = true := by decide +kernel
theorem so_x005 {D : va_G} {l : Launch} : zSO zD0 D l pT sm_x005 := zfl1 rn_x005 (zHc so_adv zHn) hp_T
-- X5_name
def sm_x006 : zSm := (255, (7, 422), [.inr (.inl (some 3)), .inr (.inl (some 5)), .inl (0, 3)], some (.inl (0, 1)), [65, 66, 67, 68, 70, 192, 193, 320], [(3, 5, 34)], (([], []), [([], [], [])]))
def ct_x006 : zCt := [(24, [(0, .inr (.inl (some 3))), (1, .inr (.inl (some 5))), (2, .inl (0, 3)), (3, .inl (0, 3))], [], [.inl 1, .inr (true, 3), .inl 0], ([], [], [], []))]
def tb_x006 : zTb := ([sm_adv], zdec, zprs)
def cm_x006 : List (Nat × List Nat) := [(280, [0])]
theorem rn_x006 : zgood tb_x006 cm_x006 1 sm_x006 ct_x006 20000 = true := by decide +kernel
theorem so_x006 {D : va_G} {l : Launch} : zSO zD0 D l pT sm_x006 := zfl1 rn_x006 (zHc so_adv zHn) hp_T
-- X5_boyLine
def sm_x007 : zSm := (244, (8, 445), [.inr (.inl (some 3))], some (.inl (0, 1)), [65, 66, 67, 68, 70, 192, 193, 320, 2177, 2624, 2688], [(3, 5, 34)], (([], []), [([], [], [])]))
def ct_x007 : zCt := []
def tb_x007 : zTb := ([sm_adv, sm_x004, sm_x005, sm_x006], zdec, zprs)
def cm_x007 : List (Nat × List Nat) := [(245, [1]), (248, [2]), (255, [3]), (280, [0])]
theorem rn_x007 : zgood tb_x007 cm_x007 4 sm_x007 ct_x007 20000 = true := by decide +kernel
theorem so_x007 {D : va_G} {l : Launch} : zSO zD0 D l pT sm_x007 := zfl1 rn_x007 (zHc so_adv (zHc so_x004 (zHc so_x005 (zHc so_x006 zHn)))) hp_T
-- X5_unit
def sm_x009 : zSm := (264, (7, 422), [.inr (.inl (some 3)), .inl (7, 7)], some (.inl (0, 1)), [65, 66, 67, 68, 70, 192, 193, 2240, 2241, 2304], [(3, 5, 34)], (([], []), [([], [], [])]))
def ct_x009 : zCt := []
def tb_x009 : zTb := ([sm_adv], zdec, zprs)
def cm_x009 : List (Nat × List Nat) := [(280, [0])]
theorem rn_x009 : zgood tb_x009 cm_x009 1 sm_x009 ct_x009 20000 = true := by decide +kernel
theorem so_x009 {D : va_G} {l : Launch} : zSO zD0 D l pT sm_x009 := zfl1 rn_x009 (zHc so_adv zHn) hp_T
-- X5_term
def sm_x010 : zSm := (263, (8, 445), [.inr (.inl (some 3)), .inl (7, 7)], some (.inl (0, 1)), [65, 66, 67, 68, 70, 192, 193, 2240, 2241, 2304], [(3, 5, 34)], (([], []), [([], [], [])]))
def ct_x010 : zCt := [(8, [(0, .inr (.inl (some 3))), (1, .inl (7, 7)), (2, .inl (0, 1)), (3, .inl (0, 30))], [], [.inl 1, .inr (true, 3), .inl 0], ([], [], [], []))]
def tb_x010 : zTb := ([sm_adv, sm_x009], zdec, zprs)
def cm_x010 : List (Nat × List Nat) := [(264, [1]), (280, [0])]
theorem rn_x010 : zgood tb_x010 cm_x010 2 sm_x010 ct_x010 20000 = true := by decide +kernel
theorem so_x010 {D : va_G} {l : Launch} : zSO zD0 D l pT sm_x010 := zfl1 rn_x010 (zHc so_adv (zHc so_x009 zHn)) hp_T
-- X5_sum
def sm_x011 : zSm := (262, (9, 469), [.inr (.inl (some 3)), .inl (7, 7)], some (.inl (0, 1)), [65, 66, 67, 68, 70, 192, 193, 2240, 2241, 2304], [(3, 5, 34)], (([], []), [([], [], [])]))
def ct_x011 : zCt := [(8, [(0, .inr (.inl (some 3))), (1, .inl (7, 7)), (2, .inl (0, 1)), (3, .inl (0, 30))], [], [.inl 1, .inr (true, 3), .inl 0], ([], [], [], []))]
def tb_x011 : zTb := ([sm_adv, sm_x010], zdec, zprs)
def cm_x011 : List (Nat × List Nat) := [(263, [1]), (280, [0])]
theorem rn_x011 : zgood tb_x011 cm_x011 2 sm_x011 ct_x011 20000 = true := by decide +kernel
theorem so_x011 {D : va_G} {l : Launch} : zSO zD0 D l pT sm_x011 := zfl1 rn_x011 (zHc so_adv (zHc so_x010 zHn)) hp_T
-- X5_one
def sm_x012 : zSm := (259, (10, 493), [.inr (.inl (some 3)), .inl (7, 7)], some (.inl (0, 1)), [65, 66, 67, 68, 70, 192, 193, 2240, 2241, 2304], [(3, 5, 34)], (([], []), [([], [], [])]))
def ct_x012 : zCt := []
def tb_x012 : zTb := ([sm_adv, sm_x008, sm_x011], zdec, zprs)
def cm_x012 : List (Nat × List Nat) := [(256, [1]), (262, [2]), (280, [0])]
theorem rn_x012 : zgood tb_x012 cm_x012 3 sm_x012 ct_x012 20000 = true := by decide +kernel
theorem so_x012 {D : va_G} {l : Launch} : zSO zD0 D l pT sm_x012 := zfl1 rn_x012 (zHc so_adv (zHc so_x008 (zHc so_x011 zHn))) hp_T
-- X5_negation
def sm_x013 : zSm := (256, (11, 516), [.inr (.inl (some 3)), .inl (6, 6)], some (.inl (0, 1)), [65, 66, 67, 68, 70, 192, 193, 2240, 2241, 2304], [(3, 5, 34)], (([], []), [([], [], [])]))
def ct_x013 : zCt := []
def tb_x013 : zTb := ([sm_adv, sm_x012], zdec, zprs)
def cm_x013 : List (Nat × List Nat) := [(259, [1]), (280, [0])]
theorem rn_x013 : zgood tb_x013 cm_x013 2 sm_x013 ct_x013 20000 = true := by decide +kernel
theorem so_x013 {D : va_G} {l : Launch} : zSO zD0 D l pT sm_x013 := zfl1 rn_x013 (zHc so_adv (zHc so_x012 zHn)) hp_T
-- X5_both
def sm_x014 : zSm := (243, (11, 516), [.inr (.inl (some 3)), .inl (7, 7)], some (.inl (0, 1)), [65, 66, 67, 68, 70, 192, 193, 2240, 2241, 2304], [(3, 5, 34)], (([], []), [([], [], [])]))
def ct_x014 : zCt := [(8, [(0, .inr (.inl (some 3))), (1, .inl (7, 7)), (2, .inl (0, 1)), (3, .inl (0, 30))], [], [.inl 1, .inr (true, 3), .inl 0], ([], [], [], []))]
def tb_x014 : zTb := ([sm_adv, sm_x012], zdec, zprs)
def cm_x014 : List (Nat × List Nat) := [(259, [1]), (280, [0])]
theorem rn_x014 : zgood tb_x014 cm_x014 2 sm_x014 ct_x014 20000 = true := by decide +kernel
theorem so_x014 {D : va_G} {l : Launch} : zSO zD0 D l pT sm_x014 := zfl1 rn_x014 (zHc so_adv (zHc so_x012 zHn)) hp_T
-- X5_either
def sm_x015 : zSm := (246, (12, 539), [.inr (.inl (some 3)), .inl (7, 7)], some (.inl (0, 1)), [65, 66, 67, 68, 70, 192, 193, 2240, 2241, 2304], [(3, 5, 34)], (([], []), [([], [], [])]))
def ct_x015 : zCt := [(8, [(0, .inr (.inl (some 3))), (1, .inl (7, 7)), (2, .inl (0, 1)), (3, .inl (0, 30))], [], [.inl 1, .inr (true, 3), .inl 0], ([], [], [], []))]
def tb_x015 : zTb := ([sm_adv, sm_x014], zdec, zprs)
def cm_x015 : List (Nat × List Nat) := [(243, [1]), (280, [0])]
theorem rn_x015 : zgood tb_x015 cm_x015 2 sm_x015 ct_x015 20000 = true := by decide +kernel
theorem so_x015 {D : va_G} {l : Launch} : zSO zD0 D l pT sm_x015 := zfl1 rn_x015 (zHc so_adv (zHc so_x014 zHn)) hp_T
-- X5_inParentheses
def sm_x016 : zSm := (250, (13, 562), [.inr (.inl (some 3)), .inl (6, 6)], some (.inl (0, 1)), [65, 66, 67, 68, 70, 192, 193, 2240, 2241, 2304], [(3, 5, 34)], (([], []), [([], [], [])]))
def ct_x016 : zCt := []
def tb_x016 : zTb := ([sm_adv, sm_x015], zdec, zprs)
def cm_x016 : List (Nat × List Nat) := [(246, [1]), (280, [0])]
theorem rn_x016 : zgood tb_x016 cm_x016 2 sm_x016 ct_x016 20000 = true := by decide +kernel
theorem so_x016 {D : va_G} {l : Launch} : zSO zD0 D l pT sm_x016 := zfl1 rn_x016 (zHc so_adv (zHc so_x015 zHn)) hp_T
-- X5_unit
def sm_x017 : zSm := (264, (14, 583), [.inr (.inl (some 3)), .inl (6, 6)], some (.inl (0, 1)), [65, 66, 67, 68, 70, 192, 193, 2240, 2241, 2304], [(3, 5, 34)], (([], []), [([], [], [])]))
def ct_x017 : zCt := []
def tb_x017 : zTb := ([sm_adv, sm_x016], zdec, zprs)
def cm_x017 : List (Nat × List Nat) := [(250, [1]), (280, [0])]
theorem rn_x017 : zgood tb_x017 cm_x017 2 sm_x017 ct_x017 20000 = true := by decide +kernel
theorem so_x017 {D : va_G} {l : Launch} : zSO zD0 D l pT sm_x017 := zfl1 rn_x017 (zHc so_adv (zHc so_x016 zHn)) hp_T
-- X5_term
def sm_x018 : zSm := (263, (15, 606), [.inr (.inl (some 3)), .inl (6, 6)], some (.inl (0, 1)), [65, 66, 67, 68, 70, 192, 193, 2240, 2241, 2304], [(3, 5, 34)], (([], []), [([], [], [])]))
def ct_x018 : zCt := [(8, [(0, .inr (.inl (some 3))), (1, .inl (6, 6)), (2, .inl (0, 1)), (3, .inl (0, 30))], [], [.inl 1, .inr (true, 3), .inl 0], ([], [], [], []))]
def tb_x018 : zTb := ([sm_adv, sm_x017], zdec, zprs)
def cm_x018 : List (Nat × List Nat) := [(264, [1]), (280, [0])]
theorem rn_x018 : zgood tb_x018 cm_x018 2 sm_x018 ct_x018 20000 = true := by decide +kernel
theorem so_x018 {D : va_G} {l : Launch} : zSO zD0 D l pT sm_x018 := zfl1 rn_x018 (zHc so_adv (zHc so_x017 zHn)) hp_T
-- X5_sum
def sm_x019 : zSm := (262, (16, 630), [.inr (.inl (some 3)), .inl (6, 6)], some (.inl (0, 1)), [65, 66, 67, 68, 70, 192, 193, 2240, 2241, 2304], [(3, 5, 34)], (([], []), [([], [], [])]))
def ct_x019 : zCt := [(8, [(0, .inr (.inl (some 3))), (1, .inl (6, 6)), (2, .inl (0, 1)), (3, .inl (0, 30))], [], [.inl 1, .inr (true, 3), .inl 0], ([], [], [], []))]
def tb_x019 : zTb := ([sm_adv, sm_x018], zdec, zprs)
def cm_x019 : List (Nat × List Nat) := [(263, [1]), (280, [0])]
theorem rn_x019 : zgood tb_x019 cm_x019 2 sm_x019 ct_x019 20000 = true := by decide +kernel
theorem so_x019 {D : va_G} {l : Launch} : zSO zD0 D l pT sm_x019 := zfl1 rn_x019 (zHc so_adv (zHc so_x018 zHn)) hp_T
-- X5_one
def sm_x020 : zSm := (259, (17, 654), [.inr (.inl (some 3)), .inl (6, 6)], some (.inl (0, 1)), [65, 66, 67, 68, 70, 192, 193, 2240, 2241, 2304], [(3, 5, 34)], (([], []), [([], [], [])]))
def ct_x020 : zCt := []
def tb_x020 : zTb := ([sm_adv, sm_x013, sm_x019], zdec, zprs)
def cm_x020 : List (Nat × List Nat) := [(256, [1]), (262, [2]), (280, [0])]
theorem rn_x020 : zgood tb_x020 cm_x020 3 sm_x020 ct_x020 20000 = true := by decide +kernel
theorem so_x020 {D : va_G} {l : Launch} : zSO zD0 D l pT sm_x020 := zfl1 rn_x020 (zHc so_adv (zHc so_x013 (zHc so_x019 zHn))) hp_T
-- X5_negation
def sm_x021 : zSm := (256, (18, 677), [.inr (.inl (some 3)), .inl (5, 5)], some (.inl (0, 1)), [65, 66, 67, 68, 70, 192, 193, 2240, 2241, 2304], [(3, 5, 34)], (([], []), [([], [], [])]))
def ct_x021 : zCt := []
def tb_x021 : zTb := ([sm_adv, sm_x020], zdec, zprs)
def cm_x021 : List (Nat × List Nat) := [(259, [1]), (280, [0])]
theorem rn_x021 : zgood tb_x021 cm_x021 2 sm_x021 ct_x021 20000 = true := by decide +kernel
theorem so_x021 {D : va_G} {l : Launch} : zSO zD0 D l pT sm_x021 := zfl1 rn_x021 (zHc so_adv (zHc so_x020 zHn)) hp_T
-- X5_both
def sm_x022 : zSm := (243, (18, 677), [.inr (.inl (some 3)), .inl (6, 6)], some (.inl (0, 1)), [65, 66, 67, 68, 70, 192, 193, 2240, 2241, 2304], [(3, 5, 34)], (([], []), [([], [], [])]))
def ct_x022 : zCt := [(8, [(0, .inr (.inl (some 3))), (1, .inl (6, 6)), (2, .inl (0, 1)), (3, .inl (0, 30))], [], [.inl 1, .inr (true, 3), .inl 0], ([], [], [], []))]
def tb_x022 : zTb := ([sm_adv, sm_x020], zdec, zprs)
def cm_x022 : List (Nat × List Nat) := [(259, [1]), (280, [0])]
theorem rn_x022 : zgood tb_x022 cm_x022 2 sm_x022 ct_x022 20000 = true := by decide +kernel
theorem so_x022 {D : va_G} {l : Launch} : zSO zD0 D l pT sm_x022 := zfl1 rn_x022 (zHc so_adv (zHc so_x020 zHn)) hp_T
-- X5_either
def sm_x023 : zSm := (246, (19, 700), [.inr (.inl (some 3)), .inl (6, 6)], some (.inl (0, 1)), [65, 66, 67, 68, 70, 192, 193, 2240, 2241, 2304], [(3, 5, 34)], (([], []), [([], [], [])]))
def ct_x023 : zCt := [(8, [(0, .inr (.inl (some 3))), (1, .inl (6, 6)), (2, .inl (0, 1)), (3, .inl (0, 30))], [], [.inl 1, .inr (true, 3), .inl 0], ([], [], [], []))]
def tb_x023 : zTb := ([sm_adv, sm_x022], zdec, zprs)
def cm_x023 : List (Nat × List Nat) := [(243, [1]), (280, [0])]
theorem rn_x023 : zgood tb_x023 cm_x023 2 sm_x023 ct_x023 20000 = true := by decide +kernel
theorem so_x023 {D : va_G} {l : Launch} : zSO zD0 D l pT sm_x023 := zfl1 rn_x023 (zHc so_adv (zHc so_x022 zHn)) hp_T
-- X5_inParentheses
def sm_x024 : zSm := (250, (20, 723), [.inr (.inl (some 3)), .inl (5, 5)], some (.inl (0, 1)), [65, 66, 67, 68, 70, 192, 193, 2240, 2241, 2304], [(3, 5, 34)], (([], []), [([], [], [])]))
def ct_x024 : zCt := []
def tb_x024 : zTb := ([sm_adv, sm_x023], zdec, zprs)
def cm_x024 : List (Nat × List Nat) := [(246, [1]), (280, [0])]
theorem rn_x024 : zgood tb_x024 cm_x024 2 sm_x024 ct_x024 20000 = true := by decide +kernel
theorem so_x024 {D : va_G} {l : Launch} : zSO zD0 D l pT sm_x024 := zfl1 rn_x024 (zHc so_adv (zHc so_x023 zHn)) hp_T
-- X5_unit
def sm_x025 : zSm := (264, (21, 744), [.inr (.inl (some 3)), .inl (5, 5)], some (.inl (0, 1)), [65, 66, 67, 68, 70, 192, 193, 2240, 2241, 2304], [(3, 5, 34)], (([], []), [([], [], [])]))
def ct_x025 : zCt := []
def tb_x025 : zTb := ([sm_adv, sm_x024], zdec, zprs)
def cm_x025 : List (Nat × List Nat) := [(250, [1]), (280, [0])]
theorem rn_x025 : zgood tb_x025 cm_x025 2 sm_x025 ct_x025 20000 = true := by decide +kernel
theorem so_x025 {D : va_G} {l : Launch} : zSO zD0 D l pT sm_x025 := zfl1 rn_x025 (zHc so_adv (zHc so_x024 zHn)) hp_T
-- X5_term
def sm_x026 : zSm := (263, (22, 767), [.inr (.inl (some 3)), .inl (5, 5)], some (.inl (0, 1)), [65, 66, 67, 68, 70, 192, 193, 2240, 2241, 2304], [(3, 5, 34)], (([], []), [([], [], [])]))
def ct_x026 : zCt := [(8, [(0, .inr (.inl (some 3))), (1, .inl (5, 5)), (2, .inl (0, 1)), (3, .inl (0, 30))], [], [.inl 1, .inr (true, 3), .inl 0], ([], [], [], []))]
def tb_x026 : zTb := ([sm_adv, sm_x025], zdec, zprs)
def cm_x026 : List (Nat × List Nat) := [(264, [1]), (280, [0])]
theorem rn_x026 : zgood tb_x026 cm_x026 2 sm_x026 ct_x026 20000 = true := by decide +kernel
theorem so_x026 {D : va_G} {l : Launch} : zSO zD0 D l pT sm_x026 := zfl1 rn_x026 (zHc so_adv (zHc so_x025 zHn)) hp_T
-- X5_sum
def sm_x027 : zSm := (262, (23, 791), [.inr (.inl (some 3)), .inl (5, 5)], some (.inl (0, 1)), [65, 66, 67, 68, 70, 192, 193, 2240, 2241, 2304], [(3, 5, 34)], (([], []), [([], [], [])]))
def ct_x027 : zCt := [(8, [(0, .inr (.inl (some 3))), (1, .inl (5, 5)), (2, .inl (0, 1)), (3, .inl (0, 30))], [], [.inl 1, .inr (true, 3), .inl 0], ([], [], [], []))]
def tb_x027 : zTb := ([sm_adv, sm_x026], zdec, zprs)
def cm_x027 : List (Nat × List Nat) := [(263, [1]), (280, [0])]
theorem rn_x027 : zgood tb_x027 cm_x027 2 sm_x027 ct_x027 20000 = true := by decide +kernel
theorem so_x027 {D : va_G} {l : Launch} : zSO zD0 D l pT sm_x027 := zfl1 rn_x027 (zHc so_adv (zHc so_x026 zHn)) hp_T
-- X5_one
def sm_x028 : zSm := (259, (24, 815), [.inr (.inl (some 3)), .inl (5, 5)], some (.inl (0, 1)), [65, 66, 67, 68, 70, 192, 193, 2240, 2241, 2304], [(3, 5, 34)], (([], []), [([], [], [])]))
def ct_x028 : zCt := []
def tb_x028 : zTb := ([sm_adv, sm_x021, sm_x027], zdec, zprs)
def cm_x028 : List (Nat × List Nat) := [(256, [1]), (262, [2]), (280, [0])]
theorem rn_x028 : zgood tb_x028 cm_x028 3 sm_x028 ct_x028 20000 = true := by decide +kernel
theorem so_x028 {D : va_G} {l : Launch} : zSO zD0 D l pT sm_x028 := zfl1 rn_x028 (zHc so_adv (zHc so_x021 (zHc so_x027 zHn))) hp_T
-- X5_negation
def sm_x029 : zSm := (256, (25, 838), [.inr (.inl (some 3)), .inl (4, 4)], some (.inl (0, 1)), [65, 66, 67, 68, 70, 192, 193, 2240, 2241, 2304], [(3, 5, 34)], (([], []), [([], [], [])]))
def ct_x029 : zCt := []
def tb_x029 : zTb := ([sm_adv, sm_x028], zdec, zprs)
def cm_x029 : List (Nat × List Nat) := [(259, [1]), (280, [0])]
theorem rn_x029 : zgood tb_x029 cm_x029 2 sm_x029 ct_x029 20000 = true := by decide +kernel
theorem so_x029 {D : va_G} {l : Launch} : zSO zD0 D l pT sm_x029 := zfl1 rn_x029 (zHc so_adv (zHc so_x028 zHn)) hp_T
-- X5_both
def sm_x030 : zSm := (243, (25, 838), [.inr (.inl (some 3)), .inl (5, 5)], some (.inl (0, 1)), [65, 66, 67, 68, 70, 192, 193, 2240, 2241, 2304], [(3, 5, 34)], (([], []), [([], [], [])]))
def ct_x030 : zCt := [(8, [(0, .inr (.inl (some 3))), (1, .inl (5, 5)), (2, .inl (0, 1)), (3, .inl (0, 30))], [], [.inl 1, .inr (true, 3), .inl 0], ([], [], [], []))]
def tb_x030 : zTb := ([sm_adv, sm_x028], zdec, zprs)
def cm_x030 : List (Nat × List Nat) := [(259, [1]), (280, [0])]
theorem rn_x030 : zgood tb_x030 cm_x030 2 sm_x030 ct_x030 20000 = true := by decide +kernel
theorem so_x030 {D : va_G} {l : Launch} : zSO zD0 D l pT sm_x030 := zfl1 rn_x030 (zHc so_adv (zHc so_x028 zHn)) hp_T
-- X5_either
def sm_x031 : zSm := (246, (26, 861), [.inr (.inl (some 3)), .inl (5, 5)], some (.inl (0, 1)), [65, 66, 67, 68, 70, 192, 193, 2240, 2241, 2304], [(3, 5, 34)], (([], []), [([], [], [])]))
def ct_x031 : zCt := [(8, [(0, .inr (.inl (some 3))), (1, .inl (5, 5)), (2, .inl (0, 1)), (3, .inl (0, 30))], [], [.inl 1, .inr (true, 3), .inl 0], ([], [], [], []))]
def tb_x031 : zTb := ([sm_adv, sm_x030], zdec, zprs)
def cm_x031 : List (Nat × List Nat) := [(243, [1]), (280, [0])]
theorem rn_x031 : zgood tb_x031 cm_x031 2 sm_x031 ct_x031 20000 = true := by decide +kernel
theorem so_x031 {D : va_G} {l : Launch} : zSO zD0 D l pT sm_x031 := zfl1 rn_x031 (zHc so_adv (zHc so_x030 zHn)) hp_T
-- X5_inParentheses
def sm_x032 : zSm := (250, (27, 884), [.inr (.inl (some 3)), .inl (4, 4)], some (.inl (0, 1)), [65, 66, 67, 68, 70, 192, 193, 2240, 2241, 2304], [(3, 5, 34)], (([], []), [([], [], [])]))
def ct_x032 : zCt := []
def tb_x032 : zTb := ([sm_adv, sm_x031], zdec, zprs)
def cm_x032 : List (Nat × List Nat) := [(246, [1]), (280, [0])]
theorem rn_x032 : zgood tb_x032 cm_x032 2 sm_x032 ct_x032 20000 = true := by decide +kernel
theorem so_x032 {D : va_G} {l : Launch} : zSO zD0 D l pT sm_x032 := zfl1 rn_x032 (zHc so_adv (zHc so_x031 zHn)) hp_T
-- X5_unit
def sm_x033 : zSm := (264, (28, 905), [.inr (.inl (some 3)), .inl (4, 4)], some (.inl (0, 1)), [65, 66, 67, 68, 70, 192, 193, 2240, 2241, 2304], [(3, 5, 34)], (([], []), [([], [], [])]))
def ct_x033 : zCt := []
def tb_x033 : zTb := ([sm_adv, sm_x032], zdec, zprs)
def cm_x033 : List (Nat × List Nat) := [(250, [1]), (280, [0])]
theorem rn_x033 : zgood tb_x033 cm_x033 2 sm_x033 ct_x033 20000 = true := by decide +kernel
theorem so_x033 {D : va_G} {l : Launch} : zSO zD0 D l pT sm_x033 := zfl1 rn_x033 (zHc so_adv (zHc so_x032 zHn)) hp_T
-- X5_term
def sm_x034 : zSm := (263, (29, 928), [.inr (.inl (some 3)), .inl (4, 4)], some (.inl (0, 1)), [65, 66, 67, 68, 70, 192, 193, 2240, 2241, 2304], [(3, 5, 34)], (([], []), [([], [], [])]))
def ct_x034 : zCt := [(8, [(0, .inr (.inl (some 3))), (1, .inl (4, 4)), (2, .inl (0, 1)), (3, .inl (0, 30))], [], [.inl 1, .inr (true, 3), .inl 0], ([], [], [], []))]
def tb_x034 : zTb := ([sm_adv, sm_x033], zdec, zprs)
def cm_x034 : List (Nat × List Nat) := [(264, [1]), (280, [0])]
theorem rn_x034 : zgood tb_x034 cm_x034 2 sm_x034 ct_x034 20000 = true := by decide +kernel
theorem so_x034 {D : va_G} {l : Launch} : zSO zD0 D l pT sm_x034 := zfl1 rn_x034 (zHc so_adv (zHc so_x033 zHn)) hp_T
-- X5_sum
def sm_x035 : zSm := (262, (30, 952), [.inr (.inl (some 3)), .inl (4, 4)], some (.inl (0, 1)), [65, 66, 67, 68, 70, 192, 193, 2240, 2241, 2304], [(3, 5, 34)], (([], []), [([], [], [])]))
def ct_x035 : zCt := [(8, [(0, .inr (.inl (some 3))), (1, .inl (4, 4)), (2, .inl (0, 1)), (3, .inl (0, 30))], [], [.inl 1, .inr (true, 3), .inl 0], ([], [], [], []))]
def tb_x035 : zTb := ([sm_adv, sm_x034], zdec, zprs)
def cm_x035 : List (Nat × List Nat) := [(263, [1]), (280, [0])]
theorem rn_x035 : zgood tb_x035 cm_x035 2 sm_x035 ct_x035 20000 = true := by decide +kernel
theorem so_x035 {D : va_G} {l : Launch} : zSO zD0 D l pT sm_x035 := zfl1 rn_x035 (zHc so_adv (zHc so_x034 zHn)) hp_T
-- X5_one
def sm_x036 : zSm := (259, (31, 976), [.inr (.inl (some 3)), .inl (4, 4)], some (.inl (0, 1)), [65, 66, 67, 68, 70, 192, 193, 2240, 2241, 2304], [(3, 5, 34)], (([], []), [([], [], [])]))
def ct_x036 : zCt := []
def tb_x036 : zTb := ([sm_adv, sm_x029, sm_x035], zdec, zprs)
def cm_x036 : List (Nat × List Nat) := [(256, [1]), (262, [2]), (280, [0])]
theorem rn_x036 : zgood tb_x036 cm_x036 3 sm_x036 ct_x036 20000 = true := by decide +kernel
theorem so_x036 {D : va_G} {l : Launch} : zSO zD0 D l pT sm_x036 := zfl1 rn_x036 (zHc so_adv (zHc so_x029 (zHc so_x035 zHn))) hp_T
-- X5_negation
def sm_x037 : zSm := (256, (32, 999), [.inr (.inl (some 3)), .inl (3, 3)], some (.inl (0, 1)), [65, 66, 67, 68, 70, 192, 193, 2240, 2241, 2304], [(3, 5, 34)], (([], []), [([], [], [])]))
def ct_x037 : zCt := []
def tb_x037 : zTb := ([sm_adv, sm_x036], zdec, zprs)
def cm_x037 : List (Nat × List Nat) := [(259, [1]), (280, [0])]
theorem rn_x037 : zgood tb_x037 cm_x037 2 sm_x037 ct_x037 20000 = true := by decide +kernel
theorem so_x037 {D : va_G} {l : Launch} : zSO zD0 D l pT sm_x037 := zfl1 rn_x037 (zHc so_adv (zHc so_x036 zHn)) hp_T
-- X5_both
def sm_x038 : zSm := (243, (32, 999), [.inr (.inl (some 3)), .inl (4, 4)], some (.inl (0, 1)), [65, 66, 67, 68, 70, 192, 193, 2240, 2241, 2304], [(3, 5, 34)], (([], []), [([], [], [])]))
def ct_x038 : zCt := [(8, [(0, .inr (.inl (some 3))), (1, .inl (4, 4)), (2, .inl (0, 1)), (3, .inl (0, 30))], [], [.inl 1, .inr (true, 3), .inl 0], ([], [], [], []))]
def tb_x038 : zTb := ([sm_adv, sm_x036], zdec, zprs)
def cm_x038 : List (Nat × List Nat) := [(259, [1]), (280, [0])]
theorem rn_x038 : zgood tb_x038 cm_x038 2 sm_x038 ct_x038 20000 = true := by decide +kernel
theorem so_x038 {D : va_G} {l : Launch} : zSO zD0 D l pT sm_x038 := zfl1 rn_x038 (zHc so_adv (zHc so_x036 zHn)) hp_T
-- X5_either
def sm_x039 : zSm := (246, (33, 1022), [.inr (.inl (some 3)), .inl (4, 4)], some (.inl (0, 1)), [65, 66, 67, 68, 70, 192, 193, 2240, 2241, 2304], [(3, 5, 34)], (([], []), [([], [], [])]))
def ct_x039 : zCt := [(8, [(0, .inr (.inl (some 3))), (1, .inl (4, 4)), (2, .inl (0, 1)), (3, .inl (0, 30))], [], [.inl 1, .inr (true, 3), .inl 0], ([], [], [], []))]
def tb_x039 : zTb := ([sm_adv, sm_x038], zdec, zprs)
def cm_x039 : List (Nat × List Nat) := [(243, [1]), (280, [0])]
theorem rn_x039 : zgood tb_x039 cm_x039 2 sm_x039 ct_x039 20000 = true := by decide +kernel
theorem so_x039 {D : va_G} {l : Launch} : zSO zD0 D l pT sm_x039 := zfl1 rn_x039 (zHc so_adv (zHc so_x038 zHn)) hp_T
-- X5_inParentheses
def sm_x040 : zSm := (250, (34, 1045), [.inr (.inl (some 3)), .inl (3, 3)], some (.inl (0, 1)), [65, 66, 67, 68, 70, 192, 193, 2240, 2241, 2304], [(3, 5, 34)], (([], []), [([], [], [])]))
def ct_x040 : zCt := []
def tb_x040 : zTb := ([sm_adv, sm_x039], zdec, zprs)
def cm_x040 : List (Nat × List Nat) := [(246, [1]), (280, [0])]
theorem rn_x040 : zgood tb_x040 cm_x040 2 sm_x040 ct_x040 20000 = true := by decide +kernel
theorem so_x040 {D : va_G} {l : Launch} : zSO zD0 D l pT sm_x040 := zfl1 rn_x040 (zHc so_adv (zHc so_x039 zHn)) hp_T
-- X5_unit
def sm_x041 : zSm := (264, (35, 1066), [.inr (.inl (some 3)), .inl (3, 3)], some (.inl (0, 1)), [65, 66, 67, 68, 70, 192, 193, 2240, 2241, 2304], [(3, 5, 34)], (([], []), [([], [], [])]))
def ct_x041 : zCt := []
def tb_x041 : zTb := ([sm_adv, sm_x040], zdec, zprs)
def cm_x041 : List (Nat × List Nat) := [(250, [1]), (280, [0])]
theorem rn_x041 : zgood tb_x041 cm_x041 2 sm_x041 ct_x041 20000 = true := by decide +kernel
theorem so_x041 {D : va_G} {l : Launch} : zSO zD0 D l pT sm_x041 := zfl1 rn_x041 (zHc so_adv (zHc so_x040 zHn)) hp_T
-- X5_term
def sm_x042 : zSm := (263, (36, 1089), [.inr (.inl (some 3)), .inl (3, 3)], some (.inl (0, 1)), [65, 66, 67, 68, 70, 192, 193, 2240, 2241, 2304], [(3, 5, 34)], (([], []), [([], [], [])]))
def ct_x042 : zCt := [(8, [(0, .inr (.inl (some 3))), (1, .inl (3, 3)), (2, .inl (0, 1)), (3, .inl (0, 30))], [], [.inl 1, .inr (true, 3), .inl 0], ([], [], [], []))]
def tb_x042 : zTb := ([sm_adv, sm_x041], zdec, zprs)
def cm_x042 : List (Nat × List Nat) := [(264, [1]), (280, [0])]
theorem rn_x042 : zgood tb_x042 cm_x042 2 sm_x042 ct_x042 20000 = true := by decide +kernel
theorem so_x042 {D : va_G} {l : Launch} : zSO zD0 D l pT sm_x042 := zfl1 rn_x042 (zHc so_adv (zHc so_x041 zHn)) hp_T
-- X5_sum
def sm_x043 : zSm := (262, (37, 1113), [.inr (.inl (some 3)), .inl (3, 3)], some (.inl (0, 1)), [65, 66, 67, 68, 70, 192, 193, 2240, 2241, 2304], [(3, 5, 34)], (([], []), [([], [], [])]))
def ct_x043 : zCt := [(8, [(0, .inr (.inl (some 3))), (1, .inl (3, 3)), (2, .inl (0, 1)), (3, .inl (0, 30))], [], [.inl 1, .inr (true, 3), .inl 0], ([], [], [], []))]
def tb_x043 : zTb := ([sm_adv, sm_x042], zdec, zprs)
def cm_x043 : List (Nat × List Nat) := [(263, [1]), (280, [0])]
theorem rn_x043 : zgood tb_x043 cm_x043 2 sm_x043 ct_x043 20000 = true := by decide +kernel
theorem so_x043 {D : va_G} {l : Launch} : zSO zD0 D l pT sm_x043 := zfl1 rn_x043 (zHc so_adv (zHc so_x042 zHn)) hp_T
-- X5_one
def sm_x044 : zSm := (259, (38, 1137), [.inr (.inl (some 3)), .inl (3, 3)], some (.inl (0, 1)), [65, 66, 67, 68, 70, 192, 193, 2240, 2241, 2304], [(3, 5, 34)], (([], []), [([], [], [])]))
def ct_x044 : zCt := []
def tb_x044 : zTb := ([sm_adv, sm_x037, sm_x043], zdec, zprs)
def cm_x044 : List (Nat × List Nat) := [(256, [1]), (262, [2]), (280, [0])]
theorem rn_x044 : zgood tb_x044 cm_x044 3 sm_x044 ct_x044 20000 = true := by decide +kernel
theorem so_x044 {D : va_G} {l : Launch} : zSO zD0 D l pT sm_x044 := zfl1 rn_x044 (zHc so_adv (zHc so_x037 (zHc so_x043 zHn))) hp_T
-- X5_negation
def sm_x045 : zSm := (256, (39, 1160), [.inr (.inl (some 3)), .inl (2, 2)], some (.inl (0, 1)), [65, 66, 67, 68, 70, 192, 193, 2240, 2241, 2304], [(3, 5, 34)], (([], []), [([], [], [])]))
def ct_x045 : zCt := []
def tb_x045 : zTb := ([sm_adv, sm_x044], zdec, zprs)
def cm_x045 : List (Nat × List Nat) := [(259, [1]), (280, [0])]
theorem rn_x045 : zgood tb_x045 cm_x045 2 sm_x045 ct_x045 20000 = true := by decide +kernel
theorem so_x045 {D : va_G} {l : Launch} : zSO zD0 D l pT sm_x045 := zfl1 rn_x045 (zHc so_adv (zHc so_x044 zHn)) hp_T
-- X5_both
def sm_x046 : zSm := (243, (39, 1160), [.inr (.inl (some 3)), .inl (3, 3)], some (.inl (0, 1)), [65, 66, 67, 68, 70, 192, 193, 2240, 2241, 2304], [(3, 5, 34)], (([], []), [([], [], [])]))
def ct_x046 : zCt := [(8, [(0, .inr (.inl (some 3))), (1, .inl (3, 3)), (2, .inl (0, 1)), (3, .inl (0, 30))], [], [.inl 1, .inr (true, 3), .inl 0], ([], [], [], []))]
def tb_x046 : zTb := ([sm_adv, sm_x044], zdec, zprs)
def cm_x046 : List (Nat × List Nat) := [(259, [1]), (280, [0])]
theorem rn_x046 : zgood tb_x046 cm_x046 2 sm_x046 ct_x046 20000 = true := by decide +kernel
theorem so_x046 {D : va_G} {l : Launch} : zSO zD0 D l pT sm_x046 := zfl1 rn_x046 (zHc so_adv (zHc so_x044 zHn)) hp_T
-- X5_either
def sm_x047 : zSm := (246, (40, 1183), [.inr (.inl (some 3)), .inl (3, 3)], some (.inl (0, 1)), [65, 66, 67, 68, 70, 192, 193, 2240, 2241, 2304], [(3, 5, 34)], (([], []), [([], [], [])]))
def ct_x047 : zCt := [(8, [(0, .inr (.inl (some 3))), (1, .inl (3, 3)), (2, .inl (0, 1)), (3, .inl (0, 30))], [], [.inl 1, .inr (true, 3), .inl 0], ([], [], [], []))]
def tb_x047 : zTb := ([sm_adv, sm_x046], zdec, zprs)
def cm_x047 : List (Nat × List Nat) := [(243, [1]), (280, [0])]
theorem rn_x047 : zgood tb_x047 cm_x047 2 sm_x047 ct_x047 20000 = true := by decide +kernel
theorem so_x047 {D : va_G} {l : Launch} : zSO zD0 D l pT sm_x047 := zfl1 rn_x047 (zHc so_adv (zHc so_x046 zHn)) hp_T
-- X5_inParentheses
def sm_x048 : zSm := (250, (41, 1206), [.inr (.inl (some 3)), .inl (2, 2)], some (.inl (0, 1)), [65, 66, 67, 68, 70, 192, 193, 2240, 2241, 2304], [(3, 5, 34)], (([], []), [([], [], [])]))
def ct_x048 : zCt := []
def tb_x048 : zTb := ([sm_adv, sm_x047], zdec, zprs)
def cm_x048 : List (Nat × List Nat) := [(246, [1]), (280, [0])]
theorem rn_x048 : zgood tb_x048 cm_x048 2 sm_x048 ct_x048 20000 = true := by decide +kernel
theorem so_x048 {D : va_G} {l : Launch} : zSO zD0 D l pT sm_x048 := zfl1 rn_x048 (zHc so_adv (zHc so_x047 zHn)) hp_T
-- X5_unit
def sm_x049 : zSm := (264, (42, 1227), [.inr (.inl (some 3)), .inl (2, 2)], some (.inl (0, 1)), [65, 66, 67, 68, 70, 192, 193, 2240, 2241, 2304], [(3, 5, 34)], (([], []), [([], [], [])]))
def ct_x049 : zCt := []
def tb_x049 : zTb := ([sm_adv, sm_x048], zdec, zprs)
def cm_x049 : List (Nat × List Nat) := [(250, [1]), (280, [0])]
theorem rn_x049 : zgood tb_x049 cm_x049 2 sm_x049 ct_x049 20000 = true := by decide +kernel
theorem so_x049 {D : va_G} {l : Launch} : zSO zD0 D l pT sm_x049 := zfl1 rn_x049 (zHc so_adv (zHc so_x048 zHn)) hp_T
