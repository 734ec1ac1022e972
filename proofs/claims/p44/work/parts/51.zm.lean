-- X11_layTold
def sm_m010 : zSm := (148, (2, 84), [.inr (.inl (some 56))], none, [5248], [], (([], []), [([], [], [])]))
def ct_m010 : zCt := [(2, [(0, .inr (.inl (some 56))), (1, .inl (0, 25))], [], [.inl 3, .inr (true, 1), .inl 0], ([], [], [], [])),
  (23, [(0, .inr (.inl (some 56))), (1, .inl (0, 6))], [], [.inl 2, .inr (true, 1), .inl 0], ([], [], [], [])),
  (107, [(0, .inr (.inl (some 56))), (1, .inl (0, 4))], [], [.inl 1, .inr (true, 1), .inl 0], ([], [], [], []))]
def tb_m010 : zTb := ([], zdec, zprs)
def cm_m010 : List (Nat × List Nat) := []
theorem rn_m010 : zgood tb_m010 cm_m010 0 sm_m010 ct_m010 20000 = true := by decide +kernel
theorem so_m010 {D : va_G} {l : Launch} : zSO zD0 D l pT sm_m010 := zfl1 rn_m010 zHn hp_T
-- X11_startAnew
def sm_m011 : zSm := (185, (3, 105), [.inr (.inl (some 56))], none, [3630, 3631, 3633, 3641, 5248, 6016], [], (([], []), [([], [], [])]))
def ct_m011 : zCt := [(26, [(0, .inr (.inl (some 56))), (1, .inl (0, 3))], [], [.inl 1, .inr (true, 1), .inl 0], ([], [], [], []))]
def tb_m011 : zTb := ([sm_m010], zdec, zprs)
def cm_m011 : List (Nat × List Nat) := [(148, [0])]
theorem rn_m011 : zgood tb_m011 cm_m011 1 sm_m011 ct_m011 20000 = true := by decide +kernel
theorem so_m011 {D : va_G} {l : Launch} : zSO zD0 D l pT sm_m011 := zfl1 rn_m011 (zHc so_m010 zHn) hp_T
-- X11_fault
def sm_m013 : zSm := (103, (1, 64), [.inr (.inl (some 56)), .inl ((-2147483648), 2147483647)], some (.inl ((-2147483648), 2147483647)), [], [], (([], []), [([], [], [])]))
def ct_m013 : zCt := []
def tb_m013 : zTb := ([], zdec, zprs)
def cm_m013 : List (Nat × List Nat) := []
theorem rn_m013 : zgood tb_m013 cm_m013 0 sm_m013 ct_m013 20000 = true := by decide +kernel
theorem so_m013 {D : va_G} {l : Launch} : zSO zD0 D l pT sm_m013 := zfl1 rn_m013 zHn hp_T
-- X11_boyOf
def sm_m014 : zSm := (85, (2, 84), [.inr (.inl (some 56)), .inl (0, 5)], some (.inl ((-1), 3)), [], [], (([], []), [([], [], [])]))
def ct_m014 : zCt := [(2, [(0, .inr (.inl (some 56))), (1, .inl (0, 5)), (2, .inl (0, 4))], [], [.inl 1, .inr (true, 2), .inl 0], ([], [], [], []))]
def tb_m014 : zTb := ([], zdec, zprs)
def cm_m014 : List (Nat × List Nat) := []
theorem rn_m014 : zgood tb_m014 cm_m014 0 sm_m014 ct_m014 20000 = true := by decide +kernel
theorem so_m014 {D : va_G} {l : Launch} : zSO zD0 D l pT sm_m014 := zfl1 rn_m014 zHn hp_T
-- X11_boy
def sm_m020 : zSm := (84, (3, 107), [.inr (.inl (some 56)), .inl ((-2147483648), 2147483647), .inl ((-2147483648), 2147483647)], some (.inl ((-2147483648), 2147483647)), [], [], (([], []), [([], [], [])]))
def ct_m020 : zCt := []
def tb_m020 : zTb := ([], zdec, zprs)
def cm_m020 : List (Nat × List Nat) := []
theorem rn_m020 : zgood tb_m020 cm_m020 0 sm_m020 ct_m020 20000 = true := by decide +kernel
theorem so_m020 {D : va_G} {l : Launch} : zSO zD0 D l pT sm_m020 := zfl1 rn_m020 zHn hp_T
-- X11_keepAct
def sm_m027 : zSm := (142, (1, 64), [.inr (.inl (some 56))], none, [3630, 3631, 5376], [], (([], []), [([], [], [])]))
def ct_m027 : zCt := []
def tb_m027 : zTb := ([], zdec, zprs)
def cm_m027 : List (Nat × List Nat) := [(99999, [])]
theorem rn_m027 : zgood tb_m027 cm_m027 0 sm_m027 ct_m027 20000 = true := by decide +kernel
theorem so_m027 {D : va_G} {l : Launch} : zSO zD0 D l pT sm_m027 := zfl1 rn_m027 zHn hp_T
