/-! behindUnit(): by hand around its runs. -/
def kB (es es2 : va_W) : Prop := (0 ≤ zfd es2 56 8 ∧ zfd es2 56 8 ≤ 5) ∧ (zfd es2 56 4 = 0 → (1 ≤ zfd es 56 8 ∧ (zfd es2 56 8 = 0 ∨ (1 ≤ zfd es2 56 8 ∧ zfd es 56 7 ≤ zfd es2 56 6 ∧ zfd es2 56 6 < zfd es2 56 7))) ∨ (zfd es2 56 8 = zfd es 56 8 ∧ zfd es2 56 6 = zfd es 56 6 ∧ zfd es2 56 7 = zfd es 56 7 ∧ zfd es2 56 38 < zfd es 56 38))
def beCa : zCa := [((56, .inl 6), .inl (zsym 60)), ((56, .inl 7), .inl (zsym 61)), ((56, .inl 8), .inl (zsym 62)), ((56, .inl 4), .inl (zsym 63)), ((56, .inl 38), .inl (zsym 64)), ((56, .inl 37), .inl (zsym 65))]
def beFs (p0 p1 n0 : Int) : List (Nat × zG) := [(60, (0, 1600, [])), (61, (0, 1600, [])), (62, (0, 5, [])), (63, (0, 0, [])), (64, (p0, p1, [])), (65, (n0, 7, [])), (1, (0, 6, [])), (69, (0, 1, []))]
def beLo : zL := [(0, .inr (.inl (some 56))), (1, .inl (zsym 1))]
def beRun (hk : zCk) (fin : zK) (pcs wr : List Nat) (pc : Nat) (lo : zL) (sk : List zV) (p0 p1 n0 : Int) : Bool := match ((gt xmt 79).bind xrow).map (fun r => zhR r (4, 129)) with
  | some r => zgo1 tU (hk, cmU, 1, wr) 20000 (r, pcs) pc lo sk beCa (beFs p0 p1 n0, [], []) fin
  | none => false
/-- the sign there is an operator's -/
def hOp (fa : zFa) (ca : zCa) : Bool := match zcA 58 (zsym 60) ca with
  | some (.inl t) => match zmem fa.2.2 3 t (.inl 255) with
    | some c => hIn fa (some (.inl (zsym c))) 0 96
    | none => false
  | _ => false
def hRk (fa : zFa) (ca : zCa) (lo : zL) : Bool := hI (zll lo 1) (.inl 0) || (hIn fa (zcF 56 8 ca) 1 5 && (hI (zll lo 1) (.inl 1) || (hI (zll lo 1) (.inl 2) || ((hI (zll lo 1) (.inl 4) || (hI (zll lo 1) (.inl 5) || hI (zll lo 1) (.inl 6))) && hOp fa ca))))
def beH0 : zCk := fun pc lo sk ca fa _ => zfl tU fa ca && (hRf (zll lo 0) 56 && (hRk fa ca lo && (match pc with
  | 11 => match sk with
    | [.inr (.inl (some i))] => Nat.beq i 56
    | _ => false
  | _ => match sk with
    | [] => true
    | _ => false)))
def beNo : zK := fun _ _ _ _ => false
theorem be_0 : beRun beH0 beNo [11, 23] [4677] 0 [(0, .inr (.inl (some 56)))] [] 1 89 0 = true := by decide +kernel
def beH14 : zCk := fun _ lo sk ca fa _ => (match sk with
  | [] => true
  | _ => false) && (zfl tU fa ca && (hRf (zll lo 0) 56 && (hI (zll lo 1) (zsym 1) && hI (zcF 56 4 ca) (zsym 63))))
def beF14 : zK := fun fa _ v ca => zfl tU fa ca && (hI v (.inl 1) && (hIn fa (zcF 56 4 ca) 1 4))
theorem be_14 : beRun beH14 beF14 [23] [3588, 3589, 4677] 14 beLo [.inl (zsym 69)] 1 89 0 = true := by decide +kernel
/-- from the loop's head -/
def beH1 : zCk := fun pc lo sk ca fa _ => zfl tU fa ca && (hRf (zll lo 0) 56 && (hI (zll lo 1) (zsym 1) && (match pc, sk with
  | 77, [] => hI (zcF 56 38 ca) (.inr (64, 1, -1)) && hIn fa (zcA 79 (.inr (64, 1, -1)) ca) 3 3
  | 98, [.inl x, .inl y, .inr (.inl (some i))] => Nat.beq i 56 && (zeB x (.inl 0) && (hI (zcF 56 38 ca) (.inr (64, 1, -1)) && (hIn fa (zcA 79 (.inr (64, 1, -1)) ca) (-2147483648) 6 && (hNe fa (zcA 79 (.inr (64, 1, -1)) ca) 3 && hSm (zcA 80 (.inr (64, 1, -1)) ca) (some (.inl y))))))
  | 138, [.inl x, .inl y, .inr (.inl (some i))] => (Nat.beq i 56 && hI (zcF 56 38 ca) (zsym 64)) && (zeB y (zsym 1) && (hIn fa (some (.inl (zsym 1))) 1 6 && ((match zcA 79 (.inr (64, 1, -1)) ca with
    | some (.inl t) => z32 fa t && (zlB fa (.inl 6) t || zlB fa t (zsym 1))
    | _ => false) && (zeB x (.inl 38) || (zeB x (.inl 124) || (zeB x (.inl 0) || (hIn fa (some (.inl (zsym 1))) 3 6 && (match zcA 58 (zsym 60) ca with
    | some (.inl t) => match zmem fa.2.2 3 t (.inl 255) with
      | some c => zeB x (zsym c)
      | none => false
    | _ => false))))))))
  | 171, [] => hI (zcF 56 38 ca) (.inr (64, 1, -1)) && (hIn fa (zcA 79 (.inr (64, 1, -1)) ca) 7 7 && hIn fa (some (.inl (zsym 1))) 0 0)
  | _, _ => false)))
def beF1 : zK := fun fa _ v ca => zfl tU fa ca && (hI v (.inl 0) && (hI (zcF 56 38 ca) (.inr (64, 1, -1)) && (hNe fa (zcA 79 (.inr (64, 1, -1)) ca) 7 || hIn fa (zcA 79 (.inr (64, 1, -1)) ca) (-2147483648) (-1)) && (match zcA 79 (.inr (64, 1, -1)) ca with
    | some (.inl t) => z32 fa t && (zlB fa (.inl 6) t || zlB fa t (.inl 0))
    | _ => false)))
theorem be_23 : beRun beH1 beF1 [77, 98, 138, 171] [3622, 4677] 23 beLo [] 1 89 0 = true := by decide +kernel
def beH77 : zCk := fun _ lo sk ca fa _ => zfl tU fa ca && (hRf (zll lo 0) 56 && (hI (zll lo 1) (zsym 1) && (match sk with
  | [.inl x, .inl y, .inr (.inl (some i))] => Nat.beq i 56 && (zeB x (.inl 0) && (hI (zcF 56 37 ca) (.inr (65, 1, -1)) && hSm (zcA 80 (zsym 64) ca) (some (.inl y))))
  | _ => false)))
theorem be_77 : beRun beH77 beNo [98] [3621, 4677] 77 beLo [] 0 88 1 = true := by decide +kernel
theorem be_101 : beRun beH14 beNo [23] [4677] 101 beLo [] 0 89 0 = true := by decide +kernel
def beF2 : zK := fun fa _ v ca => zfl tU fa ca && (hI v (.inl 0) && (hI (zcF 56 37 ca) (.inr (65, 1, -1)) && ((hIn fa (zcF 56 4 ca) 1 4 && hIn fa (zcF 56 8 ca) 0 5) || (hIn fa (some (.inl (zsym 62))) 1 5 && hGo fa ca))))
theorem be_171 : beRun (fun _ _ _ _ _ _ => false) beF2 [] [3588, 3589, 3590, 3591, 3592, 3593, 3594, 3621, 4677] 171 [(0, .inr (.inl (some 56)))] [] 0 88 1 = true := by decide +kernel
def beF3 : zK := fun fa _ v ca => zfl tU fa ca && (hI v (.inl 1) && hGo fa ca)
theorem be_141 : beRun (fun _ _ _ _ _ _ => false) beF3 [] [3590, 3591, 3592, 3593, 3594, 4677] 141 [(0, .inr (.inl (some 56)))] [] 0 89 0 = true := by decide +kernel
def bE (a e t p n k w : Int) : zE := fun i => if i = 60 then a else if i = 61 then e else if i = 62 then t else if i = 64 then p else if i = 65 then n else if i = 1 then k else if i = 69 then w else 0
theorem bE_bd {a e t p n k w : Int} (h1 : zbd a) (h2 : zbd e) (h3 : zbd t) (h4 : zbd p) (h5 : zbd n) (h6 : zbd k) (h7 : zbd w) : ∀ i, zbd (bE a e t p n k w i) := by
  intro i
  unfold bE
  split
  · exact h1
  split
  · exact h2
  split
  · exact h3
  split
  · exact h4
  split
  · exact h5
  split
  · exact h6
  split
  · exact h7
  exact ⟨by decide, by decide⟩
theorem bE_sat {a e t k w : Int} {p n : Nat} {p0 p1 n0 : Int} (a1 : 0 ≤ a) (a2 : a ≤ 1600) (e1 : 0 ≤ e) (e2 : e ≤ 1600) (t1 : 0 ≤ t) (t2 : t ≤ 5) (q1 : p0 ≤ p) (q2 : (p : Int) ≤ p1) (q3 : p1 ≤ 89) (n1 : n0 ≤ n) (n2 : n ≤ 7) (k1 : 0 ≤ k) (k2 : k ≤ 6) (w1 : 0 ≤ w) (w2 : w ≤ 1) : zsat (bE a e t p n k w) (beFs p0 p1 n0, [], []) := by
  refine ⟨bE_bd (zbd_of (by omega) (by omega)) (zbd_of (by omega) (by omega)) (zbd_of (by omega) (by omega)) (zbd_of (by omega) (by omega)) (zbd_of (by omega) (by omega)) (zbd_of (by omega) (by omega)) (zbd_of (by omega) (by omega)), fun q hq => ?_, fun q hq => (by cases hq), fun q hq => (by cases hq)⟩
  rcases List.mem_cons.mp hq with h | h
  · rw [h]; exact ⟨a1, a2, fun _ z => by cases z⟩
  rcases List.mem_cons.mp h with h | h
  · rw [h]; exact ⟨e1, e2, fun _ z => by cases z⟩
  rcases List.mem_cons.mp h with h | h
  · rw [h]; exact ⟨t1, t2, fun _ z => by cases z⟩
  rcases List.mem_cons.mp h with h | h
  · rw [h]; exact ⟨(show (0 : Int) ≤ 0 by decide), (show (0 : Int) ≤ 0 by decide), fun _ z => by cases z⟩
  rcases List.mem_cons.mp h with h | h
  · rw [h]; exact ⟨q1, q2, fun _ z => by cases z⟩
  rcases List.mem_cons.mp h with h | h
  · rw [h]; exact ⟨n1, by show (n : Int) ≤ 7; omega, fun _ z => by cases z⟩
  rcases List.mem_cons.mp h with h | h
  · rw [h]; exact ⟨k1, k2, fun _ z => by cases z⟩
  rcases List.mem_singleton.mp h with rfl
  exact ⟨w1, w2, fun _ z => by cases z⟩
set_option maxHeartbeats 2000000 in
theorem bE_co {ρ : Nat → Nat} {γ : Nat → ClassId} {es : va_W} (hco : zCo zD0 ρ γ (fun _ => 0) [] es) {p n : Nat} (k w : Int) (hf : zfd es 56 4 = 0) (hp : zfd es 56 38 = p) (hn : zfd es 56 37 = n) : zCo tU ρ γ (bE (zfd es 56 6) (zfd es 56 7) (zfd es 56 8) p n k w) beCa es := by
  obtain ⟨v6, -, -⟩ := fvx hco (k := 6) (a := 0) (b := 1600) (by decide +kernel) rfl
  obtain ⟨v7, -, -⟩ := fvx hco (k := 7) (a := 0) (b := 1600) (by decide +kernel) rfl
  obtain ⟨v8, -, -⟩ := fvx hco (k := 8) (a := -2147483648) (b := 2147483647) (by decide +kernel) rfl
  obtain ⟨v4, -, -⟩ := fvx hco (k := 4) (a := 0) (b := 4) (by decide +kernel) hf
  obtain ⟨v38, -, -⟩ := fvx hco (k := 38) (a := 0) (b := 89) (by decide +kernel) hp
  obtain ⟨v37, -, -⟩ := fvx hco (k := 37) (a := 0) (b := 7) (by decide +kernel) hn
  have h0 : zCo tU ρ γ (bE (zfd es 56 6) (zfd es 56 7) (zfd es 56 8) p n k w) [] es := zCo.env (show zCo tU ρ γ (fun _ => 0) [] es from hco)
  have nf : ∀ (k2 : Nat) (ix : zI), (Sum.inl k2 : zKy) = .inr ix → 0 ≤ zd (bE (zfd es 56 6) (zfd es 56 7) (zfd es 56 8) p n k w) ix := fun _ _ z => by cases z
  exact zCo.add (zCo.add (zCo.add (zCo.add (zCo.add (zCo.add h0 ⟨fvi v37 rfl, nf _⟩) ⟨fvi v38 rfl, nf _⟩) ⟨fvi v4 rfl, nf _⟩) ⟨fvi v8 rfl, nf _⟩) ⟨fvi v7 rfl, nf _⟩) ⟨fvi v6 rfl, nf _⟩
/-- an operator's sign at the place -/
def kOp (es : va_W) : Prop := ((zar es 58 (zfd es 56 6).toNat) &&& 255).toInt ≤ 96 ∧ 0 ≤ ((zar es 58 (zfd es 56 6).toNat) &&& 255).toInt
theorem mem_and {ρ : Nat → Nat} {η : zE} {fa : zFa} {ca : zCa} {es : va_W} (hs : zsat η fa) (hh : zcH ρ η ca es) {t : zI} {c : Nat} (h1 : zcA 58 (zsym 60) ca = some (.inl t)) (h2 : zmem fa.2.2 3 t (.inl 255) = some c) {n : Nat} (h60 : η 60 = (n : Int)) : Int32.ofInt (η c) = (zar es 58 n) &&& 255 := by
  have h3 := zmem_ok hs.2.2.2 h2
  obtain ⟨w, w1, w2⟩ := zcA_some (η := η) h1
  have h8 : zav es 58 (zd η w).toNat = some (.int (zi η t)) := (hh _ w1).1
  have e : zd η (zsym 60) = (n : Int) := by show 1 * η 60 + 0 = _; rw [h60]; omega
  rw [w2, e, Int.toNat_natCast] at h8
  rw [h3, zav_zar h8]
  rfl
