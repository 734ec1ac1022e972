def lwWr : List Nat := [11, 12, 13, 14, 15, 16, 17, 64, 65, 66, 67, 68, 70, 128, 192, 193, 197, 198, 256, 320, 387, 388, 389, 390, 448, 512, 576, 643, 644, 645, 646, 704, 768, 832, 897, 898, 960, 1024, 1088, 1094, 1152, 1216, 1280, 1344, 1408, 1473, 1474, 1475, 1476, 1536, 1600, 1664, 1728, 1792, 1858, 1920, 1984, 2048, 2049, 2050, 2051, 2052, 2053, 2112, 2176, 2177, 2178, 2179, 2180, 2188, 2240, 2241, 2304, 2368, 2432, 2496, 2560, 2624, 2688, 2752, 2816, 2880, 2881, 2882, 2883, 2884, 2892, 2944, 2945, 3008, 3072, 3136, 3200, 3264, 3328, 3392, 3456, 3520, 3586, 3587, 3588, 3589, 3590, 3591, 3592, 3593, 3594, 3618, 3619, 3620, 3621, 3622, 3623, 3624, 3625, 3626, 3630, 3631, 3633, 3641, 3642, 3648, 3712, 3776, 3840, 3904, 3968, 4032, 4096, 4160, 4224, 4288, 4352, 4416, 4480, 4544, 4608, 4672, 4736, 4800, 4864, 4928, 4992, 5056, 5120, 5184, 5248, 5312, 5376, 5440, 5504, 5568, 5632, 5696, 5760, 5824, 5888, 5952, 6016]
def lwTg : List Nat := [244, 307, 330, 343, 366, 399, 432, 465, 478, 491, 524, 547, 570, 593, 626, 639, 652, 695, 718, 731, 754, 777, 820, 833, 856, 899, 922, 955, 988, 1021, 1044, 1057, 1070, 1083, 1096, 1109, 1132, 1165, 1188, 1221, 1244, 1293, 1316, 1339, 1362, 1395, 1428, 1451, 1474, 1497]
def lwL (i : zI) (lo : zL) : Bool := hRf (zll lo 0) xz_SC && (hRf (zll lo 1) 0 && (hRf (zll lo 2) 56 && hI (zll lo 3) i))
def lwH3 : zCk := fun pc lo sk ca fa _ => Nat.beq pc 18 && (zfl zD0 fa ca && (skN sk && (lwL (.inr (3, 1, 6)) lo && (zleB fa (.inr (3, 1, 6)) (zsym 0) && hSm (zcF 0 15 ca) (zcF 56 58 ca)))))
def lwF : zK := fun _ _ v _ => hI v (.inl 1)
def lwU (cm : List (Nat × List Nat)) (ns : Nat) (hk : zCk) : zRn := (hk, cm, ns, lwWr)
def lwR (pl : List (Nat × Instr × Nat)) : xR := (x, code, 4, some .boolean, 12, (2048, 84000, 600000, 7302250), 1, pl)
def lwGo (us : List zSm) (cm : List (Nat × List Nat)) (pl : List (Nat × Instr × Nat)) (pcs : List Nat) (hk : zCk) (pc : Nat) (lo : zL) (sk : List zV) (ca : zCa) (fa : zFa) (nf : Nat) : Bool := match xfi pl pc with
  | some i => zsi (us, zdec, zprs) (lwU cm us.length hk) (zex (us, zdec, zprs) (lwU cm us.length hk) 3000) (lwR pl, pcs) pc lo sk ca fa nf lwF i.2 i.1
  | none => false
def lwRd (us : List zSm) (cm : List (Nat × List Nat)) (pl : List (Nat × Instr × Nat)) (pc : Nat) (hk : zCk) : zCk := fun pc2 lo sk ca fa nf => Nat.beq pc2 pc && (match sk with
  | .inl ix :: .inr (.inl (some o)) :: rest => Nat.beq o xz_SC && (zeB ix (.inr (3, 1, 1)) && (zlB fa (.inr (3, 1, 1)) (zsym 0) && lwGo us cm pl [18, 1321, 1330] hk (pc + 1) lo (.inl (zsym 4) :: rest) ca fa nf))
  | _ => false)
def lwH2 (us : List zSm) (cm : List (Nat × List Nat)) (pl : List (Nat × Instr × Nat)) : zCk := lwRd us cm pl 1330 lwH3
def lwH1 (us : List zSm) (cm : List (Nat × List Nat)) (pl : List (Nat × Instr × Nat)) : zCk := fun pc lo sk ca fa nf => lwH3 pc lo sk ca fa nf || lwRd us cm pl 1321 (lwH2 us cm pl) pc lo sk ca fa nf
def lwLo : zL := [(3, .inl (zsym 3)), (2, .inr (.inl (some 56))), (1, .inr (.inl (some 0))), (0, .inr (.inl (some xz_SC)))]
def lwCa : zCa := [((0, .inl 15), .inl (zsym 5)), ((56, .inl 58), .inl (zsym 5))]
def lwFs : List (Nat × zG) := [(0, (0, 3072, [])), (3, (0, 3072, [])), (4, (-2147483648, 2147483647, [])), (5, (0, 100000, []))]
def lwHd : zCk := fun pc lo sk ca fa _ => zfl zD0 fa ca && (xmN lwTg pc && (skN sk && (lwL (zsym 3) lo && (zleB fa (.inr (3, 1, 6)) (zsym 0) && (hI (zcF 0 15 ca) (zsym 5) && hI (zcF 56 58 ca) (zsym 5))))))
def plH : List (Nat × Instr × Nat) := [(18, .iload_n 3, 1), (19, .aload_n 0, 1), (20, .arraylength, 1), (21, .bipush 6, 2), (23, .isub, 1), (24, .if_icmp .gt 1479, 3), (27, .aload_n 0, 1), (28, .iload_n 3, 1), (29, .iaload, 1), (30, .bipush 63, 2), (32, .iand, 1), (33, .tableswitch 1464 0 48 #[211, 274, 297, 310, 333, 366, 399, 432, 445, 458, 491, 514, 537, 560, 593, 606, 619, 662, 685, 698, 721, 744, 787, 800, 823, 866, 889, 922, 955, 988, 1011, 1024, 1037, 1050, 1063, 1076, 1099, 1132, 1155, 1188, 1211, 1260, 1283, 1306, 1329, 1362, 1395, 1418, 1441], 211), (1503, .iconst 1, 1), (1504, .ireturn, 1)]
theorem plH_ok : xpg code plH = true := by decide +kernel
theorem lw_head : lwGo [] [] plH lwTg lwHd 18 lwLo [] lwCa (lwFs, [], []) 100 = true := by decide +kernel
def lwCase (pc : Nat) : Prop := ∃ (us : List zSm) (cm : List (Nat × List Nat)) (pl : List (Nat × Instr × Nat)), (∀ (D : va_G) (l : Launch), zHS D l pN us) ∧ xpg code pl = true ∧ lwGo us cm pl [18, 1321, 1330] (lwH1 us cm pl) pc lwLo [] lwCa (lwFs, [(false, 3, 0, -6)], []) 100 = true
