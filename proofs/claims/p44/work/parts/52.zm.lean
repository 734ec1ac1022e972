-- X11_litNow
def sm_m065 : zSm := (152, (2, 84), [.inr (.inl (some 56))], some (.inl ((-2147483648), 2147483647)), [], [], (([], []), [([], [], [])]))
def ct_m065 : zCt := [(4, [(0, .inr (.inl (some 56))), (1, .inl ((-2147483648), 2147483647)), (2, .inl (0, 6))], [], [.inl 1, .inr (true, 2), .inl 0], ([], [], [], []))]
def tb_m065 : zTb := ([], zdec, zprs)
def cm_m065 : List (Nat × List Nat) := []
theorem rn_m065 : zgood tb_m065 cm_m065 0 sm_m065 ct_m065 20000 = true := by decide +kernel
theorem so_m065 {D : va_G} {l : Launch} : zSO zD0 D l pT sm_m065 := zfl1 rn_m065 zHn hp_T
-- X11_about
def sm_m066 : zSm := (70, (3, 106), [.inr (.inl (some 56)), .inl ((-2147483648), 2147483647)], some (.inl ((-2147483648), 2147483647)), [], [], (([], []), [([], [], [])]))
def ct_m066 : zCt := []
def tb_m066 : zTb := ([sm_m065], zdec, zprs)
def cm_m066 : List (Nat × List Nat) := [(152, [0])]
theorem rn_m066 : zgood tb_m066 cm_m066 1 sm_m066 ct_m066 20000 = true := by decide +kernel
theorem so_m066 {D : va_G} {l : Launch} : zSO zD0 D l pT sm_m066 := zfl1 rn_m066 (zHc so_m065 zHn) hp_T
