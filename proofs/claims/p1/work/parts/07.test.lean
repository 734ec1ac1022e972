theorem tst_c48 : xex 6 6000 xlaw 0 [(0, .inr (.inl (some xz_SC)))] [] [] 0 0 ([(50, (48, 48, []))], []) xfin0 = true := by decide +kernel
