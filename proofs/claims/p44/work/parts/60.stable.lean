/-! stable(): first all are nobody's, then asked until none is asked. -/
def stFs (a : Int) : List (Nat × zG) := [(1, (0, a, [])), (2, (0, a, [])), (3, (0, 4, [])), (67, (0, 1, [])), (68, (0, 4, [])), (69, (0, 6, []))]
def stRun (hk : zCk) (fin : zK) (wr : List Nat) (pcs : List Nat) (pc : Nat) (lo : zL) (sk : List zV) (ca : zCa) (fs : List (Nat × zG)) : Bool := match ((gt xmt 184).bind xrow).map (fun r => zhR r (8, 240)) with
  | some r => zgo1 zD0 (hk, [], 0, wr) 20000 (r, pcs) pc lo sk ca (fs, [], []) fin
  | none => false
def stS13 (sk : List zV) (i : zI) : Bool := match sk with
  | [.inl v, .inl ix, .inr (.inl (some o))] => Nat.beq o 86 && (zeB v (.inl (-1)) && zeB ix i)
  | _ => false
def stH0 : zCk := fun _ lo sk ca fa _ => zfl zD0 fa ca && (hRf (zll lo 0) 56 && (hI (zll lo 1) (.inl 0) && stS13 sk (.inl 0)))
theorem st_0 : stRun stH0 beNo [] [13] 0 [(0, .inr (.inl (some 56)))] [] [] [] = true := by decide +kernel
def stH14 : zCk := fun pc lo sk ca fa _ => zfl zD0 fa ca && (hRf (zll lo 0) 56 && ((Nat.beq pc 13 && (hI (zll lo 1) (.inr (1, 1, 1)) && (stS13 sk (.inr (1, 1, 1)) && hIn fa (some (.inl (zsym 1))) 0 2))) || (Nat.beq pc 43 && (skN sk && (hI (zll lo 1) (.inl 1) && hIn fa (some (.inl (zsym 1))) 3 3)))))
theorem st_14 : stRun stH14 beNo [5568] [13, 43] 14 asL1 [] [] [(1, (0, 3, []))] = true := by decide +kernel
def stS48 (sk : List zV) : Bool := match sk with
  | [.inr (.inl (some o))] => Nat.beq o 56
  | _ => false
def stH43 : zCk := fun pc lo sk ca fa _ => zfl zD0 fa ca && (hRf (zll lo 0) 56 && ((Nat.beq pc 48 && (stS48 sk && hIn fa (some (.inl (zsym 1))) 1 1)) || (Nat.beq pc 59 && (skN sk && (hI (zll lo 2) (.inl 0) && hI (zll lo 3) (.inl 0))))))
theorem st_43 : stRun stH43 beNo [] [48, 59] 43 asL1 [] [] [(1, (0, 1, []))] = true := by decide +kernel
def stH51 : zCk := fun _ lo sk ca fa _ => zfl zD0 fa ca && (hRf (zll lo 0) 56 && (skN sk && hI (zll lo 1) (zsym 1)))
theorem st_51 : stRun stH51 beNo [] [43] 51 [(0, .inr (.inl (some 56)))] [.inl (zsym 1)] [] [(1, (0, 1, []))] = true := by decide +kernel
def stL2 : zL := [(0, .inr (.inl (some 56))), (2, .inl (zsym 2)), (3, .inl (zsym 1))]
def stL3 : zL := [(0, .inr (.inl (some 56))), (2, .inl (zsym 2)), (3, .inl (zsym 1)), (4, .inl (zsym 3))]
def stSt (lo : zL) (c i : zI) : Bool := hRf (zll lo 0) 56 && (hI (zll lo 2) c && hI (zll lo 3) i)
def stH59 : zCk := fun _ lo sk ca fa _ => zfl zD0 fa ca && (skN sk && (stSt lo (zsym 2) (zsym 1) && (hI (zll lo 4) (.inl 0) && zlB fa (zsym 1) (zsym 69))))
def stF59 : zK := fun fa _ v ca => zfl zD0 fa ca && hI v (zsym 2)
theorem st_59 : stRun stH59 stF59 [3633, 5440] [77] 59 stL2 [] asCa (stFs 6) = true := by decide +kernel
def stH77 : zCk := fun pc lo sk ca fa _ => zfl zD0 fa ca && (skN sk && ((Nat.beq pc 77 && (stSt lo (zsym 2) (zsym 1) && (hI (zll lo 4) (.inr (3, 1, 1)) && zlB fa (zsym 3) (zsym 68)))) || (Nat.beq pc 59 && (stSt lo (zsym 2) (.inr (1, 1, 1)) || stSt lo (.inr (2, 1, 1)) (.inr (1, 1, 1))))))
theorem st_77 : stRun stH77 beNo [5440] [77, 59] 77 stL3 [] asCa (stFs 5) = true := by decide +kernel
theorem stS13_ok {sk : List zV} {i : zI} (h : stS13 sk i = true) : ∃ v ix : zI, sk = [.inl v, .inl ix, .inr (.inl (some 86))] ∧ zeB v (.inl (-1)) = true ∧ zeB ix i = true := by
  unfold stS13 at h
  split at h
  · rename_i v ix o
    simp only [Bool.and_eq_true] at h
    obtain ⟨h1, h2, h3⟩ := h
    have h1 := Nat.eq_of_beq_eq_true h1
    subst h1
    exact ⟨v, ix, rfl, h2, h3⟩
  · cases h
theorem stS48_ok {sk : List zV} (h : stS48 sk = true) : sk = [.inr (.inl (some 56))] := by
  unfold stS48 at h
  split at h
  · rw [Nat.eq_of_beq_eq_true h]
  · cases h
theorem aE_bd2 {i c j k n w : Int} (i1 : 0 ≤ i) (i2 : i ≤ 6) (f1 : 0 ≤ c) (f2 : c ≤ 6) (j1 : 0 ≤ j) (j2 : j ≤ 4) (k1 : 0 ≤ k) (k2 : k ≤ 1) (n1 : 0 ≤ n) (n2 : n ≤ 4) (w1 : 0 ≤ w) (w2 : w ≤ 6) : ∀ s, zbd (aE i c j 0 k n w s) := by
  intro s
  unfold aE
  split
  · exact zbd_of (by omega) (by omega)
  split
  · exact zbd_of (by omega) (by omega)
  split
  · exact zbd_of (by omega) (by omega)
  split
  · exact zbd_of (by omega) (by omega)
  split
  · exact zbd_of (by omega) (by omega)
  split
  · exact zbd_of (by omega) (by omega)
  split
  · exact zbd_of (by omega) (by omega)
  exact ⟨by decide, by decide⟩
theorem stE_sat {i c j k n w a : Int} (ha : a ≤ 6) (i1 : 0 ≤ i) (i2 : i ≤ a) (f1 : 0 ≤ c) (f2 : c ≤ a) (j1 : 0 ≤ j) (j2 : j ≤ 4) (k1 : 0 ≤ k) (k2 : k ≤ 1) (n1 : 0 ≤ n) (n2 : n ≤ 4) (w1 : 0 ≤ w) (w2 : w ≤ 6) : zsat (aE i c j 0 k n w) (stFs a, [], []) := by
  refine ⟨aE_bd2 i1 (by omega) f1 (by omega) j1 j2 k1 k2 n1 n2 w1 w2, fun q hq => ?_, fun q hq => (by cases hq), fun q hq => (by cases hq)⟩
  rcases List.mem_cons.mp hq with h | h
  · rw [h]; exact ⟨i1, i2, fun _ z => by cases z⟩
  rcases List.mem_cons.mp h with h | h
  · rw [h]; exact ⟨f1, f2, fun _ z => by cases z⟩
  rcases List.mem_cons.mp h with h | h
  · rw [h]; exact ⟨j1, j2, fun _ z => by cases z⟩
  rcases List.mem_cons.mp h with h | h
  · rw [h]; exact ⟨k1, k2, fun _ z => by cases z⟩
  rcases List.mem_cons.mp h with h | h
  · rw [h]; exact ⟨n1, n2, fun _ z => by cases z⟩
  rcases List.mem_singleton.mp h with rfl
  exact ⟨w1, w2, fun _ z => by cases z⟩
theorem st1_sat {i a : Int} (ha : a ≤ 6) (i1 : 0 ≤ i) (i2 : i ≤ a) : zsat (aE i 0 0 0 0 0 0) ([(1, (0, a, []))], [], []) := by
  refine ⟨aE_bd2 i1 (by omega) (by decide) (by decide) (by decide) (by decide) (by decide) (by decide) (by decide) (by decide) (by decide) (by decide), fun q hq => ?_, fun q hq => (by cases hq), fun q hq => (by cases hq)⟩
  rcases List.mem_singleton.mp hq with rfl
  exact ⟨i1, i2, fun _ z => by cases z⟩
theorem xpc_184_13 : ∀ r : xR, (gt xmt 184).bind xrow = some r → xfi r.2.2.2.2.2.2.2 13 = some (.iastore, 1) := xpcE (by decide +kernel)
theorem xpc_184_48 : ∀ r : xR, (gt xmt 184).bind xrow = some r → xfi r.2.2.2.2.2.2.2 48 = some (.invokevirtual 456, 3) := xpcE (by decide +kernel)
theorem lk_ask : ∃ g1 g2 g3, xfi (xml 11) 456 = some (0, 125, g1, g2, g3) := ⟨_, _, _, rfl⟩
theorem shp_125 : shp 125 0 4 = true := by decide +kernel
def stWr : List Nat := [3624, 3625, 3626, 3633, 5184, 5440, 5504, 5568]
def sm_stable : zSm := (184, (8, 240), [.inr (.inl (some 56))], some (.inl (0, 6)), stWr, [], (([], []), [([], [], [])]))
