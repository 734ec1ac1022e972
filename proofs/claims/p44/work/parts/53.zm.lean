-- X11_litNow
def sm_m081 : zSm := (152, (2, 84), [.inr (.inl (some 56))], some (.inl ((-2147483648), 2147483647)), [], [], (([], []), [([], [], [])]))
def ct_m081 : zCt := [(4, [(0, .inr (.inl (some 56))), (1, .inl ((-2147483648), 2147483647)), (2, .inl (0, 6))], [], [.inl 1, .inr (true, 2), .inl 0], ([], [], [], []))]
def tb_m081 : zTb := ([], zdec, zprs)
def cm_m081 : List (Nat × List Nat) := []
theorem rn_m081 : zgood tb_m081 cm_m081 0 sm_m081 ct_m081 20000 = true := by decide +kernel
theorem so_m081 {D : va_G} {l : Launch} : zSO zD0 D l pT sm_m081 := zfl1 rn_m081 zHn hp_T
-- X11_about
def sm_m082 : zSm := (70, (3, 106), [.inr (.inl (some 56)), .inl ((-2147483648), 2147483647)], some (.inl ((-2147483648), 2147483647)), [], [], (([], []), [([], [], [])]))
def ct_m082 : zCt := []
def tb_m082 : zTb := ([sm_m081], zdec, zprs)
def cm_m082 : List (Nat × List Nat) := [(152, [0])]
theorem rn_m082 : zgood tb_m082 cm_m082 1 sm_m082 ct_m082 20000 = true := by decide +kernel
theorem so_m082 {D : va_G} {l : Launch} : zSO zD0 D l pT sm_m082 := zfl1 rn_m082 (zHc so_m081 zHn) hp_T
