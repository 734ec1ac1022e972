def sm_isKept : zSm := (132, (1, 64), [.inr (.inr ())], some (.inl (0, 1)), [], [], (([], []), [([], [], [])]))
def ct_isKept : zCt := []
def tb_isKept : zTb := ([], zdec, zprs)
def cm_isKept : List (Nat × List Nat) := []
theorem rn_isKept : zgood tb_isKept cm_isKept 0 sm_isKept ct_isKept 20000 = true := by decide +kernel
theorem so_isKept {D : va_G} {l : Launch} : zSO zD0 D l pT sm_isKept := zfl1 rn_isKept zHn hp_T
def sm_goOn : zSm := (111, (2, 86), [.inr (.inl (some 56))], none, [3590, 3591, 3592, 3593, 3594], [], (([(40, 56, .inl 6), (41, 56, .inl 7)], []), [([(62, 56, 8)], [(62, 0, 0)], []), ([(60, 56, 6), (61, 56, 7), (62, 56, 8)], [(62, 1, 5)], [(false, 41, 60, 0), (false, 60, 61, (-1))])]))
def ct_goOn : zCt := [(8, [(0, .inr (.inl (some 56)))], [(60, 56, 6)], [.inl 4, .inr (true, 60)], ([], [], [(false, 41, 60, 0)], [])),
  (119, [(0, .inr (.inl (some 56))), (1, .inl (97, 122))], [(60, 56, 6), (61, 56, 7)], [.inl 3, .inr (true, 61)], ([], [], [(false, 41, 60, 0), (false, 60, 61, (-1))], [])),
  (156, [(0, .inr (.inl (some 56))), (1, .inl (97, 122)), (2, .inl (0, 1600))], [(60, 56, 6), (61, 56, 7)], [.inl 2, .inr (true, 2)], ([], [], [(false, 41, 60, 0), (false, 60, 61, (-1))], [])),
  (319, [(0, .inr (.inl (some 56))), (1, .inl (48, 57))], [(60, 56, 6), (61, 56, 7)], [.inl 1, .inr (true, 61)], ([], [], [(false, 41, 60, 0), (false, 60, 61, (-1))], []))]
def tb_goOn : zTb := ([sm_isKept], zdec, zprs)
def cm_goOn : List (Nat × List Nat) := [(132, [0])]
theorem rn_goOn : zgood tb_goOn cm_goOn 1 sm_goOn ct_goOn 20000 = true := by decide +kernel
theorem so_goOn {D : va_G} {l : Launch} : zSO zD0 D l pT sm_goOn := zfl1 rn_goOn (zHc so_isKept zHn) hp_T
