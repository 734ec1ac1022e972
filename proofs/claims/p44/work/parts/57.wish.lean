/-! wishOf(): what it answers isn't refused yet. -/
def tW : zTb := ([sm_m017], zdec, zprs)
def cmW : List (Nat × List Nat) := [(117, [0])]
def wiWr : List Nat := [3624, 3625, 3626, 5184]
def wiCa : zCa := [((56, .inl 34), .inl (zsym 67)), ((60, .inr (zsym 67)), .inl (zsym 68))]
def wiFs : List (Nat × zG) := [(1, (0, 5, [])), (2, (-2147483648, 2147483647, [])), (3, (-1, 3, [])), (4, (0, 4, [])), (67, (0, 1, [])), (68, (0, 4, []))]
def wiL : zL := [(0, .inr (.inl (some 56))), (1, .inl (zsym 1)), (2, .inl (zsym 2)), (3, .inl (zsym 3)), (4, .inl (zsym 4))]
def wiRun (hk : zCk) (fin : zK) (pcs : List Nat) (pc : Nat) (lo : zL) : Bool := match ((gt xmt 199).bind xrow).map (fun r => zhR r (6, 175)) with
  | some r => zgo1 tW (hk, cmW, 1, wiWr) 20000 (r, pcs) pc lo [] wiCa (wiFs, [], []) fin
  | none => false
def wiSt (lo : zL) (b : zI) : Bool := hRf (zll lo 0) 56 && (hI (zll lo 1) (zsym 1) && (hI (zll lo 2) (zsym 2) && hI (zll lo 4) b))
def wiBit (fa : zFa) : Bool := match zmem fa.2.2 7 (zsym 2) (zsym 4) with
  | some q => match zmem fa.2.2 3 (zsym q) (.inl 1) with
    | some q2 => hIn fa (some (.inl (zsym q2))) 0 0
    | none => false
  | none => false
def wiH0 : zCk := fun _ lo sk ca fa _ => zfl tW fa ca && (skN sk && (wiSt lo (.inl 0) && hI (zll lo 3) (.inl (-1))))
theorem wi_0 : wiRun wiH0 beNo [5] 0 [(0, .inr (.inl (some 56))), (1, .inl (zsym 1)), (2, .inl (zsym 2))] = true := by decide +kernel
def wiH5 : zCk := fun _ lo sk ca fa _ => zfl tW fa ca && (skN sk && (wiSt lo (.inr (4, 1, 1)) && (zlB fa (zsym 4) (zsym 68) && (hI (zll lo 3) (zsym 3) || (hI (zll lo 3) (zsym 4) && wiBit fa)))))
def wiF5 : zK := fun fa _ v ca => zfl tW fa ca && hI v (zsym 3)
theorem wi_5 : wiRun wiH5 wiF5 [5] 5 wiL = true := by decide +kernel
/-- a mask's bit -/
def mBit (m x : Int32) : Int32 := zop 3 (zop 7 m x) 1
theorem wiBit_ok {η : zE} {fa : zFa} (hs : zsat η fa) (h : wiBit fa = true) : mBit (Int32.ofInt (η 2)) (Int32.ofInt (η 4)) = 0 := by
  unfold wiBit at h
  split at h
  rotate_left
  · cases h
  rename_i q eq
  split at h
  rotate_left
  · cases h
  rename_i q2 eq2
  have m1 := zmem_ok hs.2.2.2 eq
  have m2 := zmem_ok hs.2.2.2 eq2
  obtain ⟨w, w0, w1, w2, w3⟩ := hIn_ok hs h
  cases w0
  have w1 : 0 ≤ 1 * η q2 + 0 := w1
  have w2 : 1 * η q2 + 0 ≤ 0 := w2
  have e0 : η q2 = 0 := by omega
  have z1 : ∀ s, zi η (zsym s) = Int32.ofInt (η s) := fun s => by
    show Int32.ofInt (1 * η s + 0) = _
    rw [Int.one_mul, Int.add_zero]
  rw [z1] at m2
  rw [z1, z1] at m1
  rw [m1, e0] at m2
  exact m2.symm
def wE (a m x b k n : Int) : zE := fun s => if s = 1 then a else if s = 2 then m else if s = 3 then x else if s = 4 then b else if s = 67 then k else if s = 68 then n else 0
theorem wE_sat {a m x b k n : Int} (a1 : 0 ≤ a) (a2 : a ≤ 5) (m1 : -2147483648 ≤ m) (m2 : m ≤ 2147483647) (x1 : -1 ≤ x) (x2 : x ≤ 3) (b1 : 0 ≤ b) (b2 : b ≤ 4) (k1 : 0 ≤ k) (k2 : k ≤ 1) (n1 : 0 ≤ n) (n2 : n ≤ 4) : zsat (wE a m x b k n) (wiFs, [], []) := by
  refine ⟨fun s => ?_, fun q hq => ?_, fun q hq => (by cases hq), fun q hq => (by cases hq)⟩
  · unfold wE
    split
    · exact zbd_of (by omega) (by omega)
    split
    · exact zbd_of (by omega) (by omega)
    split
    · exact zbd_of (by omega) (by omega)
    split
    · exact zbd_of (by omega) (by omega)
    split
    · exact zbd_of (by omega) (by omega)
    split
    · exact zbd_of (by omega) (by omega)
    exact ⟨by decide, by decide⟩
  rcases List.mem_cons.mp hq with h | h
  · rw [h]; exact ⟨a1, a2, fun _ z => by cases z⟩
  rcases List.mem_cons.mp h with h | h
  · rw [h]; exact ⟨m1, m2, fun _ z => by cases z⟩
  rcases List.mem_cons.mp h with h | h
  · rw [h]; exact ⟨x1, x2, fun _ z => by cases z⟩
  rcases List.mem_cons.mp h with h | h
  · rw [h]; exact ⟨b1, b2, fun _ z => by cases z⟩
  rcases List.mem_cons.mp h with h | h
  · rw [h]; exact ⟨k1, k2, fun _ z => by cases z⟩
  rcases List.mem_singleton.mp h with rfl
  exact ⟨n1, n2, fun _ z => by cases z⟩
theorem hsW {D : va_G} {l : Launch} (es1 : va_W) (hp : pN es1) : ∀ (es2 : va_W), zfrm wiWr es1 es2 → ∀ (j : Nat) (sm : zSm), j < 1 → tW.1[j]? = some sm → zSOe tW D l sm es2 := fun es2 hf j sm hj h => by
  have e : j = 0 := by omega
  subst e
  cases h
  exact so_m017 (D := D) (l := l) es2 (hf.2 (by decide) hp)
