/-! fits() and sure(): by hand around their runs. -/
def dAll (es : va_W) (i : Nat) (k : Int) : Prop := ∀ j : Nat, (j : Int) < zfd es 56 57 → dOne es i k j
theorem dAll_kept {es es2 : va_W} {i : Nat} {k : Int} (hf : zfrm [] es es2) (h : dAll es i k) : dAll es2 i k := by
  intro j hj
  rw [zfd_kept hf (by decide) (by decide)] at hj
  have := h j hj
  unfold dOne at this ⊢
  rw [zar_kept hf (by decide), zar_kept hf (by decide), zar_kept hf (by decide), zar_kept hf (by decide), zar_kept hf (by decide)]
  exact this
theorem dFit_1 {es : va_W} {n i : Nat} {k : Int} {x : Int32} (hn : zfd es 56 57 = n) (h : dFit es n i k x) : (x.toInt = 1 ∧ dAll es i k) ∨ (x.toInt = 0 ∧ ¬ dAll es i k) := by
  rcases h with ⟨h1, h2⟩ | ⟨h1, j, h2, h3⟩
  · exact Or.inl ⟨h1, fun j hj => h2 j (by omega)⟩
  · exact Or.inr ⟨h1, fun h => h3 (h j (by omega))⟩
def fsWr : List Nat := [3624, 3625, 3626, 5184, 5248, 5312, 5632]
def tF : zTb := ([sm_m075], zdec, zprs)
def cmF : List (Nat × List Nat) := [(147, [0])]
def fsFs (a b d : Int) : List (Nat × zG) := [(1, (-2147483648, 2147483647, [])), (2, (0, a, [])), (3, (0, b, [])), (4, (0, d, []))]
def fsRun (hk : zCk) (fin : zK) (pcs wr : List Nat) (pc : Nat) (lo : zL) (sk : List zV) (a b d : Int) (cm : List (Nat × List Nat)) (ns : Nat) : Bool := match ((gt xmt 105).bind xrow).map (fun r => zhR r (10, 264)) with
  | some r => zgo1 tF (hk, cm, ns, wr) 20000 (r, pcs) pc lo sk [] (fsFs a b d, [], []) fin
  | none => false
def fsSt (lo : zL) (c i : zI) : Bool := hRf (zll lo 0) 56 && (hI (zll lo 1) (zsym 1) && (hI (zll lo 2) c && hI (zll lo 3) i))
def fsH0 : zCk := fun _ lo sk ca fa _ => zfl tF fa ca && (skN sk && fsSt lo (.inl 0) (.inl 0))
def fsF0 : zK := fun fa _ v ca => zfl tF fa ca && hI v (.inl 0)
theorem fs_0 : fsRun fsH0 fsF0 [17] fsWr 0 [(0, .inr (.inl (some 56))), (1, .inl (zsym 1))] [] 41 41 1 cmF 1 = true := by decide +kernel
def fsS27 (sk : List zV) : Bool := match sk with
  | [.inl k, .inl i, .inr (.inl (some o)), .inl c] => Nat.beq o 56 && (zeB k (zsym 1) && (zeB i (zsym 3) && zeB c (zsym 2)))
  | _ => false
def fsH17 : zCk := fun _ lo sk ca fa _ => zfl tF fa ca && (fsS27 sk && (fsSt lo (zsym 2) (zsym 3) && hIn fa (some (.inl (zsym 3))) 0 40))
def fsF17 : zK := fun fa _ v ca => zfl tF fa ca && hI v (zsym 2)
theorem fs_17 : fsRun fsH17 fsF17 [27] [] 17 fiL [] 41 41 1 [] 0 = true := by decide +kernel
def fsH30 : zCk := fun _ lo sk ca fa _ => zfl tF fa ca && (skN sk && ((hIn fa (some (.inl (zsym 4))) 0 0 && fsSt lo (zsym 2) (.inr (3, 1, 1))) || (hIn fa (some (.inl (zsym 4))) 1 1 && fsSt lo (.inr (2, 1, 1)) (.inr (3, 1, 1)))))
theorem fs_30 : fsRun fsH30 beNo [17] [] 30 fiL [.inl (zsym 4), .inl (zsym 2)] 40 40 1 [] 0 = true := by decide +kernel
def suFs (a d : Int) : List (Nat × zG) := [(1, (0, a, [])), (2, (-2147483648, 2147483647, [])), (3, (0, 40, [])), (4, (0, d, []))]
def suFw : List (Nat × zG) := [(1, (-2147483648, 2147483647, [])), (2, (-2147483648, 2147483647, []))]
def suRun (hk : zCk) (fin : zK) (pcs : List Nat) (pc : Nat) (lo : zL) (sk : List zV) (fs : List (Nat × zG)) : Bool := match ((gt xmt 186).bind xrow).map (fun r => zhR r (11, 300)) with
  | some r => zgo1 tF (hk, [], 0, []) 20000 (r, pcs) pc lo sk [] (fs, [], []) fin
  | none => false
def suL2 : zL := [(0, .inr (.inl (some 56))), (1, .inl (zsym 1)), (2, .inl (zsym 2))]
def suS11 (sk : List zV) : Bool := match sk with
  | [.inl k, .inr (.inl (some o))] => Nat.beq o 56 && zeB k (zsym 2)
  | _ => false
def suSt (lo : zL) : Bool := hRf (zll lo 0) 56 && (hI (zll lo 1) (zsym 1) && hI (zll lo 2) (zsym 2))
def suH0 : zCk := fun _ lo sk ca fa _ => zfl tF fa ca && (suS11 sk && (suSt lo && hIn fa (some (.inl (zsym 1))) 0 1))
def suF0 : zK := fun fa _ v ca => zfl tF fa ca && hI v (.inl (-1))
theorem su_0 : suRun suH0 suF0 [11] 0 suL2 [] suFw = true := by decide +kernel
def suH14 : zCk := fun _ lo sk ca fa _ => zfl tF fa ca && (skN sk && (suSt lo && (hIn fa (some (.inl (zsym 4))) 1 41 && ((hIn fa (some (.inl (zsym 1))) 0 0 && hI (zll lo 3) (.inl 0)) || (hIn fa (some (.inl (zsym 1))) 1 1 && hI (zll lo 3) (.inl 40))))))
theorem su_14 : suRun suH14 suF0 [30] 14 suL2 [.inl (zsym 4)] (suFs 1 41) = true := by decide +kernel
def suS33 (sk : List zV) : Bool := match sk with
  | [.inl k, .inl i, .inr (.inl (some o))] => Nat.beq o 56 && (zeB k (zsym 2) && zeB i (zsym 3))
  | _ => false
def suH30 : zCk := fun _ lo sk ca fa _ => zfl tF fa ca && (suS33 sk && (suSt lo && hI (zll lo 3) (zsym 3)))
theorem su_30 : suRun suH30 beNo [33] 30 fiL [] (suFs 1 41) = true := by decide +kernel
def suH36 : zCk := fun _ lo sk ca fa _ => zfl tF fa ca && (skN sk && (suSt lo && (hIn fa (some (.inl (zsym 4))) 0 0 && ((hIn fa (some (.inl (zsym 1))) 0 0 && hI (zll lo 3) (.inr (3, 1, 1))) || (hIn fa (some (.inl (zsym 1))) 1 1 && hI (zll lo 3) (.inr (3, 1, -1)))))))
def suF36 : zK := fun fa _ v ca => zfl tF fa ca && (hI v (zsym 3) && hIn fa (some (.inl (zsym 4))) 1 1)
theorem su_36 : suRun suH36 suF36 [30] 36 fiL [.inl (zsym 4)] (suFs 1 1) = true := by decide +kernel
