/-! isAsked(): its runs. -/
def asCa : zCa := [((56, .inl 34), .inl (zsym 67)), ((60, .inr (zsym 67)), .inl (zsym 68)), ((59, .inr (zsym 67)), .inl (zsym 69))]
def asFs (a : Int) : List (Nat × zG) := [(1, (0, a, [])), (2, (0, 1, [])), (3, (0, 4, [])), (67, (0, 1, [])), (68, (0, 4, [])), (69, (0, 6, []))]
def asRun (hk : zCk) (fin : zK) (pcs : List Nat) (pc : Nat) (lo : zL) (sk : List zV) (ca : zCa) (fs : List (Nat × zG)) : Bool := match ((gt xmt 125).bind xrow).map (fun r => zhR r (7, 210)) with
  | some r => zgo1 zD0 (hk, [], 0, []) 20000 (r, pcs) pc lo sk ca (fs, [], []) fin
  | none => false
def asL1 : zL := [(0, .inr (.inl (some 56))), (1, .inl (zsym 1))]
def asH0 : zCk := fun _ lo sk ca fa _ => zfl zD0 fa ca && (skN sk && (hRf (zll lo 0) 56 && hI (zll lo 1) (.inl 0)))
theorem as_0 : asRun asH0 beNo [2] 0 [(0, .inr (.inl (some 56)))] [] asCa (asFs 6) = true := by decide +kernel
def asSt (lo : zL) (fl j : zI) : Bool := hRf (zll lo 0) 56 && (hI (zll lo 1) (zsym 1) && (hI (zll lo 2) fl && hI (zll lo 3) j))
def asH2 : zCk := fun _ lo sk ca fa _ => zfl zD0 fa ca && (skN sk && (asSt lo (.inl 0) (.inl 0) && zlB fa (zsym 1) (zsym 69)))
def asF2 : zK := fun fa _ v ca => zfl zD0 fa ca && hI v (.inl 0)
theorem as_2 : asRun asH2 asF2 [14] 2 asL1 [] asCa (asFs 6) = true := by decide +kernel
def asS33 (ca : zCa) (sk : List zV) : Bool := match sk with
  | [.inl y, .inl x] => zeB y (zsym 1) && hSm (zcA 86 (zsym 3) ca) (some (.inl x))
  | _ => false
def asS64 (ca : zCa) (sk : List zV) : Bool := match sk with
  | [.inl m, .inl i, .inr (.inl (some o))] => Nat.beq o 56 && (zeB i (zsym 1) && hSm (zcA 87 (zsym 1) ca) (some (.inl m)))
  | _ => false
def asH14 : zCk := fun pc lo sk ca fa _ => zfl zD0 fa ca && (hRf (zll lo 0) 56 && ((Nat.beq pc 33 && (asS33 ca sk && (asSt lo (zsym 2) (zsym 3) && (hIn fa (some (.inl (zsym 2))) 0 0 && zlB fa (zsym 3) (zsym 68))))) || ((Nat.beq pc 14 && (skN sk && (asSt lo (.inl 1) (.inr (3, 1, 1)) && zlB fa (zsym 3) (zsym 68)))) || ((Nat.beq pc 64 && (asS64 ca sk && (hI (zll lo 1) (zsym 1) && (hIn fa (some (.inl (zsym 2))) 0 0 && zleB fa (zsym 68) (zsym 3))))) || (Nat.beq pc 2 && (skN sk && hI (zll lo 1) (.inr (1, 1, 1))))))))
theorem as_14 : asRun asH14 beNo [14, 33, 64, 2] 14 fiL [] asCa (asFs 5) = true := by decide +kernel
def asH36 (fl : zI) : zCk := fun _ lo sk ca fa _ => zfl zD0 fa ca && (skN sk && asSt lo fl (.inr (3, 1, 1)))
theorem as_36 : asRun (asH36 (.inl 1)) beNo [14] 36 fiL [] asCa (asFs 5) = true := by decide +kernel
theorem as_40 : asRun (asH36 (.inl 0)) beNo [14] 40 fiL [] asCa (asFs 5) = true := by decide +kernel
def asFe : List (Nat × zG) := [(1, (0, 5, [])), (4, (-1, 3, []))]
def asOr (fa : zFa) (ca : zCa) (ix v : zI) : Bool := match zcA 87 ix ca with
  | some (.inl old) => match zmem fa.2.2 6 (.inl 1) (zsym 4) with
    | some q => match zmem fa.2.2 4 old (zsym q) with
      | some q2 => zeB v (zsym q2)
      | none => false
    | none => false
  | _ => false
def asS115 (fa : zFa) (ca : zCa) (sk : List zV) : Bool := match sk with
  | [.inl v, .inl ix, .inr (.inl (some o))] => Nat.beq o 87 && (hSm (zcA 86 (zsym 4) ca) (some (.inl ix)) && (hIn fa (some (.inl ix)) 0 5 && asOr fa ca ix v))
  | _ => false
def asS122 (sk : List zV) : Bool := match sk with
  | [.inl v, .inl ix, .inr (.inl (some o))] => Nat.beq o 86 && (zeB v (zsym 1) && zeB ix (zsym 4))
  | _ => false
def asS137 (fa : zFa) (ca : zCa) (sk : List zV) : Bool := match sk with
  | [.inl v, .inl ix, .inr (.inl (some o))] => Nat.beq o 87 && (zeB ix (zsym 1) && asOr fa ca (zsym 1) v)
  | _ => false
def asH67 : zCk := fun pc lo sk ca fa _ => zfl zD0 fa ca && (hRf (zll lo 0) 56 && ((Nat.beq pc 2 && (skN sk && hI (zll lo 1) (.inr (1, 1, 1)))) || (hIn fa (some (.inl (zsym 4))) 0 3 && ((Nat.beq pc 115 && (asS115 fa ca sk && (hI (zll lo 1) (zsym 1) && hI (zll lo 3) (zsym 4)))) || ((Nat.beq pc 122 && (asS122 sk && hIn fa (zcA 86 (zsym 4) ca) (-1) (-1))) || (Nat.beq pc 137 && asS137 fa ca sk))))))
theorem as_67 : asRun asH67 beNo [2, 115, 122, 137] 67 asL1 [.inl (zsym 4)] [] asFe = true := by decide +kernel
def asL4 : zL := [(0, .inr (.inl (some 56))), (1, .inl (zsym 1)), (3, .inl (zsym 4))]
def asH116 : zCk := fun _ lo sk ca fa _ => zfl zD0 fa ca && (hRf (zll lo 0) 56 && asS122 sk)
theorem as_116 : asRun asH116 beNo [122] 116 asL4 [] [] asFe = true := by decide +kernel
def asF1 : zK := fun fa _ v ca => zfl zD0 fa ca && hI v (.inl 1)
theorem as_123 : asRun (fun _ _ _ _ _ _ => false) asF1 [] 123 [(0, .inr (.inl (some 56)))] [] [] [] = true := by decide +kernel
theorem as_138 : asRun (fun _ _ _ _ _ _ => false) asF1 [] 138 [(0, .inr (.inl (some 56)))] [] [] [] = true := by decide +kernel
/-- no lad refused him whose he is -/
def kG (n : Nat) (g f : Nat → Int32) : Prop := ∀ b : Nat, b < n → 0 ≤ (g b).toInt → gB (f (g b).toInt.toNat) b = false
def kMu (g f : Nat → Int32) : Nat := fsum f + usum g
theorem kG_first {n b i : Nat} {g f : Nat → Int32} (hn : n ≤ 4) (hb : b < n) (hi : i ≤ 5) (h : kG n g f) (hbit : gB (f i) b = false) (hm : (g b).toInt < 0) : kG n (upd g b (Int32.ofInt i)) f ∧ kMu (upd g b (Int32.ofInt i)) f < kMu g f := by
  have hI : (Int32.ofInt (i : Int)).toInt = i := i32_big (by omega) (by omega)
  refine ⟨fun c hc => ?_, ?_⟩
  · unfold upd
    by_cases e : c = b
    · rw [if_pos e, hI, Int.toNat_natCast, e]
      exact fun _ => hbit
    · rw [if_neg e]
      exact h c hc
  · have h1 := usum_set (f := g) (show b < 4 by omega) (x := Int32.ofInt i) (by rw [hI]; omega)
    have h2 : un1 (g b) = 1 := by
      unfold un1
      rw [decide_eq_true hm]
    unfold kMu
    omega
theorem kG_new {n b i m : Nat} {g f : Nat → Int32} (hn : n ≤ 4) (hb : b < n) (hi : i ≤ 5) (hm6 : m ≤ 5) (h : kG n g f) (hbit : gB (f i) b = false) (hm : (g b).toInt = m) (hne : m ≠ i) : kG n (upd g b (Int32.ofInt i)) (upd f m (sB (f m) (Int32.ofInt b))) ∧ kMu (upd g b (Int32.ofInt i)) (upd f m (sB (f m) (Int32.ofInt b))) < kMu g f := by
  have hI : (Int32.ofInt (i : Int)).toInt = i := i32_big (by omega) (by omega)
  have hold := h b hb (by omega)
  rw [hm, Int.toNat_natCast] at hold
  refine ⟨fun c hc hpos => ?_, ?_⟩
  · unfold upd at hpos ⊢
    by_cases e : c = b
    · rw [if_pos e, hI, Int.toNat_natCast, if_neg (fun z => hne z.symm), e]
      exact hbit
    · rw [if_neg e] at hpos ⊢
      have := h c hc hpos
      by_cases e2 : (g c).toInt.toNat = m
      · rw [if_pos e2, sb_get _ (by omega) (by omega), decide_eq_false e, Bool.or_false]
        rw [e2] at this
        exact this
      · rw [if_neg e2]
        exact this
  · have h1 := usum_set (f := g) (show b < 4 by omega) (x := Int32.ofInt i) (by rw [hI]; omega)
    have h2 := fsum_set (f := f) (m := m) (b := b) (by omega) (by omega) hold
    unfold kMu
    omega
theorem kG_refused {n b i : Nat} {g f : Nat → Int32} (hn : n ≤ 4) (hb : b < n) (hi : i ≤ 5) (h : kG n g f) (hbit : gB (f i) b = false) (hun : ∀ c, c < n → (g c).toInt ≠ i) : kG n g (upd f i (sB (f i) (Int32.ofInt b))) ∧ kMu g (upd f i (sB (f i) (Int32.ofInt b))) < kMu g f := by
  refine ⟨fun c hc hpos => ?_, ?_⟩
  · unfold upd
    have h9 := hun c hc
    rw [if_neg (show ¬ (g c).toInt.toNat = i by omega)]
    exact h c hc hpos
  · have h2 := fsum_set (f := f) (m := i) (b := b) (by omega) (by omega) hbit
    unfold kMu
    omega
