/-! doesFit(): exactly. -/
theorem zieqH {T : zTb} {D : va_G} {l : Launch} {γ : Nat → ClassId} {r : xR} {p : Program} {e : Env} {s : State} {m : MethodId} {args : Array Value} {below : List Frame} {meth : Method} {c : Code} {A : Nat → Prop} {Q : State → Prop} (B : zBs T D l γ r p s m args c A) {pc tgt : Nat} {off : Int} {H : Heap} {locs : List Loc} {ls : Array Slot} (hx : xfi r.2.2.2.2.2.2.2 pc = some (.if_icmp .eq off, 3)) (ht : (pc : Int) + off = (tgt : Int)) {x y : Int32} {rs : List Value} (h1 : x = y → W p l e (xrm r) s m args below meth c H locs 0 0 Q (F0 m tgt ls rs)) (h2 : x ≠ y → W p l e (xrm r) s m args below meth c H locs 0 0 Q (F0 m (pc + 3) ls rs)) : W p l e (xrm r) s m args below meth c H locs 0 0 Q (F0 m pc ls (.int y :: .int x :: rs)) := by
  obtain ⟨c1, c2, c3, c4, c5, c6, c7, c8, c9, c10, c11⟩ := B
  have hd : decode r.2.1 pc = .ok (.if_icmp .eq off, 3) := c8 (pc, _) (xfi_ok hx)
  exact lv_icmp_eq (tgt := tgt) c1 c2 hd ht h1 h2
/-- an entry lets a light be -/
def dOne (es : va_W) (i : Nat) (k : Int) (j : Nat) : Prop := k < (zar es 91 j).toInt ∨ (0 ≤ (zar es 92 j).toInt ∧ (zar es 92 j).toInt ≤ k) ∨ zop 3 (zop 7 (zar es 88 i) (zar es 89 j)) 1 = zar es 90 j
def fiCa : zCa := [((56, .inl 57), .inl (zsym 60))]
def fiFs : List (Nat × zG) := [(1, (0, 40, [])), (2, (-2147483648, 2147483647, [])), (3, (0, 30, [])), (60, (0, 30, []))]
def fiL : zL := [(0, .inr (.inl (some 56))), (1, .inl (zsym 1)), (2, .inl (zsym 2)), (3, .inl (zsym 3))]
def fiRun (hk : zCk) (fin : zK) (pcs : List Nat) (pc : Nat) (lo : zL) : Bool := match ((gt xmt 95).bind xrow).map (fun r => zhR r (1, 64)) with
  | some r => zgo1 zD0 (hk, [], 0, []) 20000 (r, pcs) pc lo [] fiCa (fiFs, [], []) fin
  | none => false
def fiSt (lo : zL) (v : zI) : Bool := hRf (zll lo 0) 56 && (hI (zll lo 1) (zsym 1) && (hI (zll lo 2) (zsym 2) && hI (zll lo 3) v))
def fiH0 : zCk := fun _ lo sk ca fa _ => zfl zD0 fa ca && (skN sk && fiSt lo (.inl 0))
theorem fi_0 : fiRun fiH0 beNo [2] 0 [(0, .inr (.inl (some 56))), (1, .inl (zsym 1)), (2, .inl (zsym 2))] = true := by decide +kernel
def fiH68 : zCk := fun _ lo sk ca fa _ => zfl zD0 fa ca && (skN sk && fiSt lo (.inr (3, 1, 1)))
def fiA (fa : zFa) (ca : zCa) (a : Nat) (lt : Bool) (up : Bool) : Bool := match zcA a (zsym 3) ca with
  | some (.inl t) => z32 fa t && (match lt, up with
    | true, true => zlB fa (zsym 2) t
    | false, true => zleB fa (zsym 2) t
    | true, false => zlB fa t (zsym 2)
    | false, false => zleB fa t (zsym 2))
  | _ => false
def fiS63 (fa : zFa) (ca : zCa) (sk : List zV) : Bool := match sk with
  | [.inl v, .inl c] => hSm (zcA 90 (zsym 3) ca) (some (.inl v)) && (match zcA 88 (zsym 1) ca, zcA 89 (zsym 3) ca with
    | some (.inl a), some (.inl b) => match zmem fa.2.2 7 a b with
      | some q => match zmem fa.2.2 3 (zsym q) (.inl 1) with
        | some q2 => zeB c (zsym q2)
        | none => false
      | none => false
    | _, _ => false)
  | _ => false
def fiH2 : zCk := fun pc lo sk ca fa _ => zfl zD0 fa ca && (zlB fa (zsym 3) (zsym 60) && ((Nat.beq pc 2 && (skN sk && (fiSt lo (.inr (3, 1, 1)) && (fiA fa ca 91 true true || (hIn fa (zcA 92 (zsym 3) ca) 0 2147483647 && fiA fa ca 92 false false))))) || (Nat.beq pc 63 && (fiSt lo (zsym 3) && (fiS63 fa ca sk && (fiA fa ca 91 false false && (hIn fa (zcA 92 (zsym 3) ca) (-2147483648) (-1) || fiA fa ca 92 true true)))))))
def fiF2 : zK := fun fa _ v ca => zfl zD0 fa ca && (hI v (.inl 1) && zleB fa (zsym 60) (zsym 3))
theorem fi_2 : fiRun fiH2 fiF2 [2, 63] 2 fiL = true := by decide +kernel
theorem fi_68 : fiRun fiH68 beNo [2] 68 fiL = true := by decide +kernel
def fiF66 : zK := fun fa _ v ca => zfl zD0 fa ca && hI v (.inl 0)
theorem fi_66 : fiRun (fun _ _ _ _ _ _ => false) fiF66 [] 66 fiL = true := by decide +kernel
