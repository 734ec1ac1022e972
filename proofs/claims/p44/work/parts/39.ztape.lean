-- X8_takeWord
def sm_tw : zSm := (288, (2, 85), [.inr (.inl (some 1))], none, [68, 70], [], (([], []), [([], [], [])]))
def ct_tw : zCt := [(5, [(0, .inr (.inl (some 1)))], [(60, 1, 6)], [.inl 1, .inr (true, 60), .inl 0], ([], [], [], []))]
def tb_tw : zTb := ([], zdec, zprs)
def cm_tw : List (Nat × List Nat) := []
theorem rn_tw : zgood tb_tw cm_tw 0 sm_tw ct_tw 20000 = true := by decide +kernel
theorem so_tw {D : va_G} {l : Launch} : zSO zD0 D l pT sm_tw := zfl1 rn_tw zHn hp_T
-- X8_takeNumber
def sm_tn : zSm := (287, (2, 85), [.inr (.inl (some 1))], none, [67, 70], [], (([], []), [([], [], [])]))
def ct_tn : zCt := [(5, [(0, .inr (.inl (some 1)))], [(60, 1, 6)], [.inl 1, .inr (true, 60), .inl 0], ([], [], [], []))]
def tb_tn : zTb := ([], zdec, zprs)
def cm_tn : List (Nat × List Nat) := []
theorem rn_tn : zgood tb_tn cm_tn 0 sm_tn ct_tn 20000 = true := by decide +kernel
theorem so_tn {D : va_G} {l : Launch} : zSO zD0 D l pT sm_tn := zfl1 rn_tn zHn hp_T
