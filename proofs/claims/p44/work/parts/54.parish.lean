/-! parish(): by hand around its runs. -/
def paWr : List Nat := [3586, 3587, 3588, 3589, 3590, 3591, 3592, 3593, 3594, 3618, 3619, 3620, 3621, 3622, 3623, 3630, 3631, 3633, 3641, 3712, 3776, 3840, 3904, 3968, 4032, 4096, 4160, 4224, 4288, 4352, 4416, 4480, 4544, 4608, 4672, 4736, 4800, 4864, 4928, 4992, 5056, 5120, 5248, 6016]
def sm_parish : zSm := (163, (12, 442), [.inr (.inl (some 56))], some (.inl ((-1), 6)), paWr, [], (([], []), [([], [], [])]))
def tP : zTb := ([sm_goOn, sm_m009, sm_m011], zdec, zprs)
def cmP : List (Nat × List Nat) := [(111, [0]), (170, [1]), (185, [2])]
def paRun (hk : zCk) (fin : zK) (pcs wr : List Nat) (pc : Nat) (lo : zL) (sk : List zV) (ca : zCa) (fs : List (Nat × zG)) (cm : List (Nat × List Nat)) (ns : Nat) : Bool := match ((gt xmt 163).bind xrow).map (fun r => zhR r (12, 442)) with
  | some r => zgo1 tP (hk, cm, ns, wr) 20000 (r, pcs) pc lo sk ca (fs, [], []) fin
  | none => false
def paL0 : zL := [(0, .inr (.inl (some 56)))]
def paL1 : zL := [(0, .inr (.inl (some 56))), (1, .inl (zsym 1))]
def skN (sk : List zV) : Bool := match sk with
  | [] => true
  | _ => false
theorem skN_ok {sk : List zV} (h : skN sk = true) : sk = [] := by
  cases sk with
  | nil => rfl
  | cons a t => cases h
def paH0 : zCk := fun _ lo sk ca fa _ => zfl tP fa ca && (hRf (zll lo 0) 56 && (skN sk && (hI (zll lo 1) (.inl 0) && hI (zcF 56 4 ca) (.inl 0))))
theorem pa_0 : paRun paH0 beNo [20] [3587, 3588, 3589, 4677] 0 paL0 [] [] [] [] 0 = true := by decide +kernel
def paC20 : zCa := [((56, .inl 4), .inl (.inl 0)), ((56, .inl 34), .inl (zsym 70))]
def paF20 : List (Nat × zG) := [(1, (0, 1600, [])), (70, (0, 1, []))]
def paH20 : zCk := fun pc lo sk ca fa _ => zfl tP fa ca && (hRf (zll lo 0) 56 && (hI (zcF 56 4 ca) (.inl 0) && ((Nat.beq pc 20 && (skN sk && (hI (zll lo 1) (.inr (1, 1, 1)) && hIn fa (zll lo 1) 0 1600))) || (Nat.beq pc 71 && (eHs sk && (hI (zcF 56 36 ca) (.inr (70, -560, 560)) && (hI (zcF 56 35 ca) (.inr (70, -1, 1)) && hI (zcA 61 (.inr (70, -1, 1)) ca) (.inl 0))))))))
def paW20 : List Nat := [3586, 3587, 3588, 3589, 3591, 3619, 3620, 3712, 3776, 3840, 3904, 3968, 4032, 4096, 4160, 4677]
theorem pa_20 : paRun paH20 beNo [20, 71] paW20 20 paL1 [] paC20 paF20 [] 0 = true := by decide +kernel
def paH71 : zCk := fun _ lo sk ca fa _ => zfl tP fa ca && (hRf (zll lo 0) 56 && skN sk)
theorem pa_71 : paRun paH71 beNo [74] paWr 71 paL0 [.inr (.inl (some 56))] [] [] cmP 3 = true := by decide +kernel
def paC74 : zCa := [((56, .inl 6), .inl (zsym 60)), ((56, .inl 7), .inl (zsym 61)), ((56, .inl 8), .inl (zsym 62)), ((56, .inl 4), .inl (zsym 63))]
def paF74 : List (Nat × zG) := [(60, (0, 1600, [])), (61, (0, 1600, [])), (62, (-2147483648, 2147483647, [])), (63, (0, 4, []))]
def paH74 : zCk := fun _ lo sk ca fa _ => zfl tP fa ca && (hRf (zll lo 0) 56 && (skN sk && (hIn fa (some (.inl (zsym 63))) 0 0 && (hNe fa (some (.inl (zsym 62))) 0 && (hIn fa (zcF 56 4 ca) 1 4 || (hIn fa (zcF 56 4 ca) 0 0 && hGo fa ca))))))
def paF9 : zK := fun fa _ v ca => zfl tP fa ca && hIn fa v (-1) 6
theorem pa_74 : paRun paH74 paF9 [74] paWr 74 paL0 [] paC74 paF74 cmP 3 = true := by decide +kernel
theorem hsP {D : va_G} {l : Launch} (es1 : va_W) (hp : pN es1) : ∀ (es2 : va_W), zfrm paWr es1 es2 → ∀ (j : Nat) (sm : zSm), j < 3 → tP.1[j]? = some sm → zSOe tP D l sm es2 := fun es2 hf j sm hj h => by
  have hp2 := hf.2 (by decide) hp
  rcases (show j = 0 ∨ j = 1 ∨ j = 2 by omega) with e | e | e
  · subst e; cases h; exact so_goOn (D := D) (l := l) es2 trivial
  · subst e; cases h; exact so_m009 (D := D) (l := l) es2 hp2
  · subst e; cases h; exact so_m011 (D := D) (l := l) es2 hp2
def bkE (i b : Int) : zE := fun s => if s = 1 then i else if s = 70 then b else 0
theorem bkE_sat {i b : Int} (i1 : 0 ≤ i) (i2 : i ≤ 1600) (b1 : 0 ≤ b) (b2 : b ≤ 1) : zsat (bkE i b) (paF20, [], []) := by
  refine ⟨fun s => ?_, fun q hq => ?_, fun q hq => (by cases hq), fun q hq => (by cases hq)⟩
  · unfold bkE
    split
    · exact zbd_of (by omega) (by omega)
    split
    · exact zbd_of (by omega) (by omega)
    exact ⟨by decide, by decide⟩
  rcases List.mem_cons.mp hq with h | h
  · rw [h]; exact ⟨i1, i2, fun _ z => by cases z⟩
  rcases List.mem_singleton.mp h with rfl
  exact ⟨b1, b2, fun _ z => by cases z⟩
theorem bkE_co {ρ : Nat → Nat} {γ : Nat → ClassId} {es : va_W} (hco : zCo zD0 ρ γ (fun _ => 0) [] es) (hf : zfd es 56 4 = 0) (i : Int) : zCo tP ρ γ (bkE i (zfd es 56 34)) paC20 es := by
  obtain ⟨v34, -, -⟩ := fvx hco (k := 34) (a := 0) (b := 1) (by decide +kernel) rfl
  obtain ⟨v4, -, -⟩ := fvx hco (k := 4) (a := 0) (b := 4) (by decide +kernel) hf
  have h0 : zCo tP ρ γ (bkE i (zfd es 56 34)) [] es := zCo.env (show zCo tP ρ γ (fun _ => 0) [] es from hco)
  have nf : ∀ (k2 : Nat) (ix : zI), (Sum.inl k2 : zKy) = .inr ix → 0 ≤ zd (bkE i (zfd es 56 34)) ix := fun _ _ z => by cases z
  exact zCo.add (zCo.add h0 ⟨fvi v34 rfl, nf _⟩) ⟨v4, nf _⟩
def adE (a e t f : Int) : zE := fun s => if s = 60 then a else if s = 61 then e else if s = 62 then t else if s = 63 then f else 0
theorem adE_sat {a e t f : Int} (a1 : 0 ≤ a) (a2 : a ≤ 1600) (e1 : 0 ≤ e) (e2 : e ≤ 1600) (t1 : -2147483648 ≤ t) (t2 : t ≤ 2147483647) (f1 : 0 ≤ f) (f2 : f ≤ 4) : zsat (adE a e t f) (paF74, [], []) := by
  refine ⟨fun s => ?_, fun q hq => ?_, fun q hq => (by cases hq), fun q hq => (by cases hq)⟩
  · unfold adE
    split
    · exact zbd_of (by omega) (by omega)
    split
    · exact zbd_of (by omega) (by omega)
    split
    · exact zbd_of (by omega) (by omega)
    split
    · exact zbd_of (by omega) (by omega)
    exact ⟨by decide, by decide⟩
  rcases List.mem_cons.mp hq with h | h
  · rw [h]; exact ⟨a1, a2, fun _ z => by cases z⟩
  rcases List.mem_cons.mp h with h | h
  · rw [h]; exact ⟨e1, e2, fun _ z => by cases z⟩
  rcases List.mem_cons.mp h with h | h
  · rw [h]; exact ⟨t1, t2, fun _ z => by cases z⟩
  rcases List.mem_singleton.mp h with rfl
  exact ⟨f1, f2, fun _ z => by cases z⟩
theorem adE_co {ρ : Nat → Nat} {γ : Nat → ClassId} {es : va_W} (hco : zCo zD0 ρ γ (fun _ => 0) [] es) : zCo tP ρ γ (adE (zfd es 56 6) (zfd es 56 7) (zfd es 56 8) (zfd es 56 4)) paC74 es := by
  obtain ⟨v6, -, -⟩ := fvx hco (k := 6) (a := 0) (b := 1600) (by decide +kernel) rfl
  obtain ⟨v7, -, -⟩ := fvx hco (k := 7) (a := 0) (b := 1600) (by decide +kernel) rfl
  obtain ⟨v8, -, -⟩ := fvx hco (k := 8) (a := -2147483648) (b := 2147483647) (by decide +kernel) rfl
  obtain ⟨v4, -, -⟩ := fvx hco (k := 4) (a := 0) (b := 4) (by decide +kernel) rfl
  have h0 : zCo tP ρ γ (adE (zfd es 56 6) (zfd es 56 7) (zfd es 56 8) (zfd es 56 4)) [] es := zCo.env (show zCo tP ρ γ (fun _ => 0) [] es from hco)
  have nf : ∀ (k2 : Nat) (ix : zI), (Sum.inl k2 : zKy) = .inr ix → 0 ≤ zd (adE (zfd es 56 6) (zfd es 56 7) (zfd es 56 8) (zfd es 56 4)) ix := fun _ _ z => by cases z
  exact zCo.add (zCo.add (zCo.add (zCo.add h0 ⟨fvi v4 rfl, nf _⟩) ⟨fvi v8 rfl, nf _⟩) ⟨fvi v7 rfl, nf _⟩) ⟨fvi v6 rfl, nf _⟩
def aM (es : va_W) : Nat := if zfd es 56 4 = 0 ∧ zfd es 56 8 ≠ 0 then (if zfd es 56 6 < zfd es 56 7 then (1601 - zfd es 56 6).toNat else 1602) else 0
