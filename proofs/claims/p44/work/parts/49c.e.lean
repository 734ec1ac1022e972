/-! e(): by hand around its runs. -/
def eCa : zCa := [((56, .inl 4), .inl (zsym 63)), ((56, .inl 38), .inl (zsym 64))]
def eFs : List (Nat × zG) := [(63, (0, 4, [])), (64, (0, 89, [])), (1, (0, 1, []))]
def eLo : zL := [(0, .inr (.inl (some 56))), (1, .inl (zsym 1))]
def eRun (hk : zCk) (fin : zK) (pcs wr : List Nat) (pc : Nat) (lo : zL) (sk : List zV) : Bool := match ((gt xmt 97).bind xrow).map (fun r => zhR r (5, 150)) with
  | some r => zgo1 tU (hk, cmU, 1, wr) 20000 (r, pcs) pc lo sk eCa (eFs, [], []) fin
  | none => false
def eH0 : zCk := fun _ lo sk ca fa _ => zfl tU fa ca && (hRf (zll lo 0) 56 && (hI (zcF 56 38 ca) (.inl 0) && (hI (zcF 56 37 ca) (.inl 0) && (match sk with
  | [.inl x, .inl y, .inr (.inl (some i))] => Nat.beq i 56 && (zeB x (.inl 0) && zeB y (.inl 8))
  | _ => false))))
theorem e_0 : eRun eH0 beNo [14] [3621, 3622, 4677] 0 [(0, .inr (.inl (some 56)))] [] = true := by decide +kernel
def eH17 (v : zI) : zCk := fun _ lo sk ca fa _ => (match sk with
  | [] => true
  | _ => false) && (zfl tU fa ca && (hRf (zll lo 0) 56 && hI (zll lo 1) v))
theorem e_17 : eRun (eH17 (.inl 1)) beNo [19] [4677] 17 [(0, .inr (.inl (some 56)))] [] = true := by decide +kernel
def eHs : List zV → Bool := fun sk => match sk with
  | [.inr (.inl (some i))] => Nat.beq i 56
  | _ => false
def eH19 : zCk := fun pc lo sk ca fa _ => zfl tU fa ca && (hRf (zll lo 0) 56 && (eHs sk && (hIn fa (some (.inl (zsym 63))) 0 0 && (hIn fa (some (.inl (zsym 64))) 1 89 && ((Nat.beq pc 38 && hIn fa (some (.inl (zsym 1))) 1 1) || (Nat.beq pc 45 && hIn fa (some (.inl (zsym 1))) 0 0))))))
def eF19 : zK := fun fa _ v ca => zfl tU fa ca && ((match v with
  | none => true
  | some _ => false) && (hIn fa (some (.inl (zsym 63))) 1 4 || (hIn fa (some (.inl (zsym 63))) 0 0 && hIn fa (some (.inl (zsym 64))) 0 0)))
theorem e_19 : eRun eH19 eF19 [38, 45] [4677] 19 eLo [] = true := by decide +kernel
theorem e_41 : eRun (eH17 (zsym 1)) beNo [19] [4677] 41 [(0, .inr (.inl (some 56)))] [.inl (zsym 1)] = true := by decide +kernel
theorem e_48 : eRun (eH17 (zsym 1)) beNo [19] [4677] 48 [(0, .inr (.inl (some 56)))] [.inl (zsym 1)] = true := by decide +kernel
def gE (f p x : Int) : zE := fun i => if i = 63 then f else if i = 64 then p else if i = 1 then x else 0
theorem gE_sat {f p x : Int} (f1 : 0 ≤ f) (f2 : f ≤ 4) (p1 : 0 ≤ p) (p2 : p ≤ 89) (x1 : 0 ≤ x) (x2 : x ≤ 1) : zsat (gE f p x) (eFs, [], []) := by
  refine ⟨fun i => ?_, fun q hq => ?_, fun q hq => (by cases hq), fun q hq => (by cases hq)⟩
  · unfold gE
    split
    · exact zbd_of (by omega) (by omega)
    split
    · exact zbd_of (by omega) (by omega)
    split
    · exact zbd_of (by omega) (by omega)
    exact ⟨by decide, by decide⟩
  rcases List.mem_cons.mp hq with h | h
  · rw [h]; exact ⟨f1, f2, fun _ z => by cases z⟩
  rcases List.mem_cons.mp h with h | h
  · rw [h]; exact ⟨p1, p2, fun _ z => by cases z⟩
  rcases List.mem_singleton.mp h with rfl
  exact ⟨x1, x2, fun _ z => by cases z⟩
theorem gE_co {ρ : Nat → Nat} {γ : Nat → ClassId} {es : va_W} (hco : zCo zD0 ρ γ (fun _ => 0) [] es) (x : Int) : zCo tU ρ γ (gE (zfd es 56 4) (zfd es 56 38) x) eCa es := by
  obtain ⟨v4, -, -⟩ := fvx hco (k := 4) (a := 0) (b := 4) (by decide +kernel) rfl
  obtain ⟨v38, -, -⟩ := fvx hco (k := 38) (a := 0) (b := 89) (by decide +kernel) rfl
  have h0 : zCo tU ρ γ (gE (zfd es 56 4) (zfd es 56 38) x) [] es := zCo.env (show zCo tU ρ γ (fun _ => 0) [] es from hco)
  have nf : ∀ (k2 : Nat) (ix : zI), (Sum.inl k2 : zKy) = .inr ix → 0 ≤ zd (gE (zfd es 56 4) (zfd es 56 38) x) ix := fun _ _ z => by cases z
  exact zCo.add (zCo.add h0 ⟨fvi v38 rfl, nf _⟩) ⟨fvi v4 rfl, nf _⟩
/-- how far the text is, and how high the pile -/
def eM (es : va_W) : Nat := 100 * (if zfd es 56 8 = 0 then 0 else if zfd es 56 6 < zfd es 56 7 then (1601 - zfd es 56 6).toNat else 1602) + (zfd es 56 38).toNat
/-- where it stands against the start -/
def eP (es es2 : va_W) : Prop := 1 ≤ zfd es 56 8 ∧ (zfd es2 56 8 = 0 ∨ (1 ≤ zfd es2 56 8 ∧ zfd es 56 7 ≤ zfd es2 56 6 ∧ zfd es2 56 6 < zfd es2 56 7))
def eS (es es2 : va_W) : Prop := zfd es2 56 8 = zfd es 56 8 ∧ zfd es2 56 6 = zfd es 56 6 ∧ zfd es2 56 7 = zfd es 56 7
def eI (k0 : Nat) (es : va_W) (x : Int32) (es2 : va_W) : Prop := (zfd es 56 4 ≠ 0 ∧ zfd es2 56 4 ≠ 0 ∧ zfd es2 56 36 = k0 ∧ zar es2 77 = zar es 77) ∨ (zfd es 56 4 = 0 ∧ (∃ wn, kJ (zar es 77) k0 wn es2 ∧ (zfd es2 56 4 = 0 → wn = decide (x.toInt = 1))) ∧ (0 ≤ zfd es2 56 8 ∧ zfd es2 56 8 ≤ 5) ∧ (zfd es2 56 4 = 0 → (eS es es2 ∧ x.toInt = 1) ∨ eP es es2))
def eR (k0 b : Nat) (es : va_W) : Option Value → va_W → Prop := fun v es2 => v = none ∧ zfrm [3588, 3589, 3590, 3591, 3592, 3593, 3594, 3620, 3621, 3622, 3623, 3904, 4928, 4992, 5056, 5120, 4677] es es2 ∧ (∃ k d : Nat, zfd es2 56 36 = k ∧ k0 ≤ k ∧ kRn (zar es 77) (zar es2 77) (k - k0) k0 0 = some d ∧ (k0 < k → zfd es 56 4 = 0 ∧ k ≤ 560 * b + 560) ∧ (zfd es2 56 4 = 0 → ∃ u : Nat, (zar es2 61 b).toInt = u ∧ u ≤ 60 ∧ k ≤ 560 * b + 9 * u)) ∧ (zfd es2 56 4 = 0 → zfd es 56 4 = 0 ∧ eP es es2 ∧ zfd es2 56 8 ≤ 5)
theorem eM_go {es es2 : va_W} (hp : zfd es 56 38 ≤ 89) (hq : zfd es2 56 38 ≤ 89) (hp0 : 0 ≤ zfd es 56 38) (h6 : 0 ≤ zfd es 56 6 ∧ zfd es 56 6 ≤ 1600) (h6' : 0 ≤ zfd es2 56 6 ∧ zfd es2 56 6 ≤ 1600) (h : eP es es2) : eM es2 < eM es := by
  unfold eM
  obtain ⟨h1, h2⟩ := h
  rw [if_neg (show ¬ zfd es 56 8 = 0 by omega)]
  rcases h2 with h2 | ⟨h2, h3, h4⟩
  · rw [if_pos h2]
    split
    · omega
    · omega
  · rw [if_neg (show ¬ zfd es2 56 8 = 0 by omega), if_pos h4]
    split
    · omega
    · omega
theorem eM_up {es es2 : va_W} (hp0 : 0 ≤ zfd es2 56 38) (h : eS es es2) (hq : zfd es2 56 38 < zfd es 56 38) : eM es2 < eM es := by
  unfold eM
  obtain ⟨h1, h2, h3⟩ := h
  rw [h1, h2, h3]
  omega
theorem eP_step {es es2 es4 : va_W} (h : eP es es2) (h2 : eP es2 es4) : eP es es4 := by
  obtain ⟨a1, a2⟩ := h
  obtain ⟨b1, b2⟩ := h2
  refine ⟨a1, ?_⟩
  rcases b2 with b2 | ⟨b2, b3, b4⟩
  · exact Or.inl b2
  · refine Or.inr ⟨b2, ?_, b4⟩
    rcases a2 with a2 | ⟨a2, a3, a4⟩
    · omega
    · omega
theorem eP_first {es es2 es4 : va_W} (h : eS es es2) (h2 : eP es2 es4) : eP es es4 := by
  obtain ⟨a1, a2, a3⟩ := h
  unfold eP at h2
  rw [a1, a3] at h2
  exact h2
theorem eP_same {es es2 es4 : va_W} (h : eP es es2) (h2 : eS es2 es4) : eP es es4 := by
  obtain ⟨a1, a2, a3⟩ := h2
  unfold eP
  rw [a1, a2, a3]
  exact h
theorem xpc_97_14 : ∀ r : xR, (gt xmt 97).bind xrow = some r → xfi r.2.2.2.2.2.2.2 14 = some (.invokevirtual 299, 3) := xpcE (by decide +kernel)
theorem xpc_97_38 : ∀ r : xR, (gt xmt 97).bind xrow = some r → xfi r.2.2.2.2.2.2.2 38 = some (.invokevirtual 302, 3) := xpcE (by decide +kernel)
theorem xpc_97_45 : ∀ r : xR, (gt xmt 97).bind xrow = some r → xfi r.2.2.2.2.2.2.2 45 = some (.invokevirtual 305, 3) := xpcE (by decide +kernel)
theorem lk_unit : ∃ g1 g2 g3, xfi (xml 11) 302 = some (0, 194, g1, g2, g3) := ⟨_, _, _, rfl⟩
theorem lk_behind : ∃ g1 g2 g3, xfi (xml 11) 305 = some (0, 79, g1, g2, g3) := ⟨_, _, _, rfl⟩
theorem shp_194 : shp 194 0 7 = true := by decide +kernel
theorem shp_79 : shp 79 0 2 = true := by decide +kernel
theorem eHs_ok {sk : List zV} (h : eHs sk = true) : sk = [.inr (.inl (some 56))] := be_sk h
