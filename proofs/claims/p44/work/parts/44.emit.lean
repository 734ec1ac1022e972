/-! emit and pushE, exactly. -/
theorem zfd_kept {wr : List Nat} {es es2 : va_W} (hf : zfrm wr es es2) {i k : Nat} (hk : k < 64) (hw : xmN wr (64 * i + k) = false) : zfd es2 i k = zfd es i k := by
  have h5 := hf.1 i k hk hw
  unfold zct at h5
  unfold zfd zfv
  cases e1 : es[i]? with
  | none =>
    rw [e1] at h5
    cases e2 : es2[i]? with
    | none => rfl
    | some q =>
      rw [e2] at h5
      obtain ⟨a, x | x⟩ := q
      · rfl
      · cases h5
  | some q =>
    rw [e1] at h5
    obtain ⟨a, x | ⟨ci, vs⟩⟩ := q
    · cases e2 : es2[i]? with
      | none => rfl
      | some q2 =>
        rw [e2] at h5
        obtain ⟨a2, x2 | ⟨ci2, vs2⟩⟩ := q2
        · rfl
        · dsimp only at h5
          cases k <;> cases h5
    · cases e2 : es2[i]? with
      | none => rw [e2] at h5; cases h5
      | some q2 =>
        rw [e2] at h5
        obtain ⟨a2, x2 | ⟨ci2, vs2⟩⟩ := q2
        · dsimp only at h5
          cases k <;> cases h5
        · have h6 : vs2[k]? = vs[k]? := Sum.inl.inj (Option.some.inj h5)
          dsimp only
          rw [h6]
theorem zfd_of {es : va_W} {i k : Nat} {x : Int32} (h : zfv es i k = some (.int x)) : zfd es i k = x.toInt := by
  unfold zfd
  rw [h]
theorem zfrm_flag {wr : List Nat} (hw : xmN wr 4677 = true) {es es2 : va_W} (h : ∀ i k : Nat, k < 64 → xmN wr (64 * i + k) = false → zct es2 i k = zct es i k) : zfrm wr es es2 := ⟨h, fun y => by rw [hw] at y; cases y⟩
theorem zfrm_store {wr : List Nat} {es es2 : va_W} {i n : Nat} {ρ : Nat → Nat} {γ : Nat → ClassId} {f g : Nat → Int32} {c0 : ClassId} {n0 : Nat} {a0 : Nat} (hg : es[i]? = some (a0, .inl (c0, n0, .inl f))) (ha : a0 = ρ i) (he : es2 = es.set i (ρ i, .inl (γ i, n, .inl g))) (hw : xmN wr (64 * i) = true) (hw2 : xmN wr 4677 = true) : zfrm wr es es2 := by
  subst ha
  rw [he]
  exact zfrm.setA (zfrm.refl _ _) hg hw (fun y => by rw [hw2] at y; cases y)
-- both methods have one shape: an int array [rows.1] and a field
def em3 : zL := [(0, .inr (.inl (some 56))), (1, .inl (zsym 1)), (2, .inl (zsym 2))]
def emHk (cell : Nat) : zCk := fun _ lo sk ca fa _ => zfl zD0 fa ca && (hRf (zll lo 0) 56 && (hI (zll lo 1) (zsym 1) && (hI (zll lo 2) (zsym 2) && (match sk with
  | [.inl x, .inl ix, .inr (.inl (some i))] => Nat.beq i cell && (zeB x (zsym 1) && zeB ix (zsym 60))
  | _ => false))))
def emFin (fld : Nat) : zK := fun fa _ v ca => zfl zD0 fa ca && ((match v with
  | none => true
  | some _ => false) && hI (zcF 56 fld ca) (.inr (60, 1, 1)))
def emFs (hi : Int) : List (Nat × zG) := [(1, (-2147483648, 2147483647, [])), (2, (-2147483648, 2147483647, [])), (60, (0, hi, []))]
def emRun (mi : Nat) (hk : zCk) (fin : zK) (pcs : List Nat) (wr : List Nat) (pc : Nat) (fld : Nat) (hi : Int) : Bool := match ((gt xmt mi).bind xrow).map (fun r => zhR r (1, 64)) with
  | some r => zgo1 zD0 (hk, [], 0, wr) 2000 (r, pcs) pc em3 [] [((56, .inl fld), .inl (zsym 60))] (emFs hi, [], []) fin
  | none => false
theorem em_0 : emRun 99 (emHk 77) (fun _ _ _ _ => false) [9] [4677] 0 36 1118 = true := by decide +kernel
theorem em_10 : emRun 99 (fun _ _ _ _ _ _ => false) (emFin 36) [] [4992, 3620, 4677] 10 36 1118 = true := by decide +kernel
theorem pu_0 : emRun 167 (emHk 79) (fun _ _ _ _ => false) [9] [4677] 0 38 88 = true := by decide +kernel
/-- at the second store -/
def puHk : zCk := fun _ lo sk ca fa _ => zfl zD0 fa ca && (hRf (zll lo 0) 56 && (match sk with
  | [.inl x, .inl ix, .inr (.inl (some i))] => Nat.beq i 80 && (zeB x (zsym 2) && zeB ix (zsym 60))
  | _ => false))
theorem pu_10 : emRun 167 puHk (fun _ _ _ _ => false) [19] [4677] 10 38 88 = true := by decide +kernel
def emRun1 (mi : Nat) (fin : zK) (wr : List Nat) (pc : Nat) (fld : Nat) (hi : Int) : Bool := match ((gt xmt mi).bind xrow).map (fun r => zhR r (1, 64)) with
  | some r => zgo1 zD0 (fun _ _ _ _ _ _ => false, [], 0, wr) 2000 (r, []) pc [(0, .inr (.inl (some 56)))] [] [((56, .inl fld), .inl (zsym 60))] (emFs hi, [], []) fin
  | none => false
theorem pu_20 : emRun1 167 (emFin 38) [3622, 4677] 20 38 88 = true := by decide +kernel
