
def dL (ρ : Nat → Nat) (σ : Nat → Int32) (lo : xL) : List (Nat × Value) := lo.map (fun q => (q.1, dV ρ σ q.2))
def Iv (σ : Nat → Int32) (D : va_G) (s : State) (A : Nat → Prop) (r : xR) (n0 : Nat) (ρ0 : Nat → Nat) (H : Heap) (locs : List Loc) (ρ : Nat → Nat) (γ : Nat → ClassId) (ls : Array Slot) (lo : xL) (w : List xC) (fa : xFa) : Prop :=
  (n0 ≤ w.length ∧ ∀ i, i < n0 ∨ i = xz_SC → ρ i = ρ0 i) ∧ (∀ (i : Nat) (ty : FieldType) (k : Nat) (us : List (Nat × xI) ⊕ List (Nat × Int)), w[i]? = some (.inl (ty, k, us)) → ArrOfT s (γ i) ty ∧ va_RA s (γ i) ty) ∧ va_P D vwCl (cw ρ γ σ w) H ∧ va_D A (cw ρ γ σ w) ∧ va_S A s.heap H locs ∧ lv_has ls r.2.2.1 (dL ρ σ lo) ∧ sat σ fa
def xrd (σ : Nat → Int32) (r : xR) (pc : Nat) : Option xV → Prop
  | none => decode r.2.1 pc = .ok (.return_, 1) ∧ r.2.2.2.1 = none
  | some (.inl a) => decode r.2.1 pc = .ok (.ireturn, 1) ∧ ∃ ty, r.2.2.2.1 = some ty ∧ narrow ty (.int (dI σ a)) = .int (dI σ a)
  | some (.inr (.inr _)) => decode r.2.1 pc = .ok (.lreturn, 1) ∧ r.2.2.2.1 = some .long
  | _ => False
def Cx (L : Nat) (chk : xCk) (σ : Nat → Int32) (D : va_G) (l : Launch) (r : xR) (p : Program) (e : Env) (s : State) (m : MethodId) (args : Array Value) (below : List Frame) (meth : Method) (c : Code) (A : Nat → Prop) (Q : State → Prop) (K : xK) (n0 : Nat) (ρ0 : Nat → Nat) : Prop :=
  p.tables.exec = Jvm.exec ∧ c.code = r.2.1 ∧ c.maxLocals = r.2.2.1 ∧ s.vm.findClass (xnm r.2.2.2.2.1) = some m.cls ∧ (∀ w ∈ xGd, w.before args s = true) ∧ va_K D vwCl [] s ∧ (∀ q, s.heap.size ≤ q → A q) ∧ (r.1.name = "<init>" → meth.name = "<init>") ∧ (∀ q ∈ xne, va_Nw (.methodLinkNest q.1 q.2.1 q.2.2.1 q.2.2.2.1) s) ∧ (∀ q ∈ r.2.2.2.2.2.2.2, decode r.2.1 q.1 = .ok q.2) ∧
  (r.2.2.2.2.1 = 12 → va_X (ρ0 xz_SC) L σ s s.heap ∧ ρ0 xz_SC < s.heap.size ∧ ¬ A (ρ0 xz_SC)) ∧
  (r.2.2.2.2.1 = 12 → ∀ (pc : Nat) (lo : xL) (sk : List xV) (w : List xC) (cs ss : Nat) (fa : xFa) (H : Heap) (locs : List Loc) (ρ : Nat → Nat) (γ : Nat → ClassId) (ls : Array Slot), chk pc lo sk w cs ss = true → Iv σ D s A r n0 ρ0 H locs ρ γ ls lo w fa → W p l e (xrm r) s m args below meth c H locs cs ss Q (F0 m pc ls (sk.map (dV ρ σ)))) ∧
  (∀ (pc : Nat) (fa : xFa) (v : Option xV) (lo : xL) (w : List xC) (H : Heap) (locs : List Loc) (ρ : Nat → Nat) (γ : Nat → ClassId) (ls : Array Slot), Iv σ D s A r n0 ρ0 H locs ρ γ ls lo w fa → K fa v w = true → xrd σ r pc v → W p l e (xrm r) s m args below meth c H locs (xrm r).cells (xrm r).slots Q (F0 m pc ls (v.toList.map (dV ρ σ))))
def Gd (L : Nat) (chk : xCk) (σ : Nat → Int32) (D : va_G) (l : Launch) (ih : xS) : Prop :=
  ∀ (r : xR) (p : Program) (e : Env) (s : State) (m : MethodId) (args : Array Value) (below : List Frame) (meth : Method) (c : Code) (A : Nat → Prop) (Q : State → Prop) (K : xK) (n0 : Nat) (ρ0 : Nat → Nat), Cx L chk σ D l r p e s m args below meth c A Q K n0 ρ0 →
  ∀ (pc : Nat) (lo : xL) (sk : List xV) (w : List xC) (cs ss : Nat) (fa : xFa), ih r pc lo sk w cs ss fa K = true →
  ∀ (H : Heap) (locs : List Loc) (ρ : Nat → Nat) (γ : Nat → ClassId) (ls : Array Slot), Iv σ D s A r n0 ρ0 H locs ρ γ ls lo w fa → W p l e (xrm r) s m args below meth c H locs cs ss Q (F0 m pc ls (sk.map (dV ρ σ)))
theorem Iv.fa {σ : Nat → Int32} {D : va_G} {s : State} {A : Nat → Prop} {r : xR} {n0 : Nat} {ρ0 : Nat → Nat} {H : Heap} {locs : List Loc} {ρ : Nat → Nat} {γ : Nat → ClassId} {ls : Array Slot} {lo : xL} {w : List xC} {fa fa' : xFa} (V : Iv σ D s A r n0 ρ0 H locs ρ γ ls lo w fa) (h : sat σ fa') : Iv σ D s A r n0 ρ0 H locs ρ γ ls lo w fa' := ⟨V.1, V.2.1, V.2.2.1, V.2.2.2.1, V.2.2.2.2.1, V.2.2.2.2.2.1, h⟩
theorem Iv.lo {σ : Nat → Int32} {D : va_G} {s : State} {A : Nat → Prop} {r : xR} {n0 : Nat} {ρ0 : Nat → Nat} {H : Heap} {locs : List Loc} {ρ : Nat → Nat} {γ : Nat → ClassId} {ls ls' : Array Slot} {lo lo' : xL} {w : List xC} {fa : xFa} (V : Iv σ D s A r n0 ρ0 H locs ρ γ ls lo w fa) (h : lv_has ls' r.2.2.1 (dL ρ σ lo')) : Iv σ D s A r n0 ρ0 H locs ρ γ ls' lo' w fa := ⟨V.1, V.2.1, V.2.2.1, V.2.2.2.1, V.2.2.2.2.1, h, V.2.2.2.2.2.2⟩
theorem dV_cat (ρ : Nat → Nat) (σ : Nat → Int32) (v : xV) : (dV ρ σ v).category = xcat v := by
  rcases v with i | (_ | i) | z <;> rfl
theorem xlg_cat {ρ : Nat → Nat} {σ : Nat → Int32} {v : xV} (h : (!(xlg v)) = true) : (dV ρ σ v).category = 1 := by
  rw [dV_cat]
  unfold xcat
  cases e : xlg v with
  | true => rw [e] at h; cases h
  | false => rfl
theorem dV_lg (ρ : Nat → Nat) (σ : Nat → Int32) (v : xV) : ((dV ρ σ v).category == 2) = xlg v := by
  rcases v with i | (_ | i) | z <;> rfl
theorem xll_ok {ρ : Nat → Nat} {σ : Nat → Int32} {i : Nat} {v : xV} : ∀ {lo : xL}, xll lo i = some v → (i, dV ρ σ v) ∈ dL ρ σ lo := by
  intro lo
  induction lo with
  | nil => intro h; cases h
  | cons q t ih =>
    obtain ⟨k, u⟩ := q
    intro h
    unfold xll at h
    cases e : Nat.beq k i with
    | true =>
      rw [e] at h
      cases h
      rw [← Nat.eq_of_beq_eq_true e]
      exact List.mem_cons_self
    | false =>
      rw [e] at h
      exact List.mem_cons_of_mem _ (ih h)
theorem dL_p1 (ρ : Nat → Nat) (σ : Nat → Int32) (i : Nat) (lo : xL) : (dL ρ σ lo).filter (fun q => !(q.1 == i) && !(q.1 + 1 == i && q.2.category == 2)) = dL ρ σ (lo.filter (xp1 i)) := by
  unfold dL
  rw [List.filter_map]
  congr 1
  apply List.filter_congr
  intro q _
  show (!(q.1 == i) && !(q.1 + 1 == i && (dV ρ σ q.2).category == 2)) = _
  rw [dV_lg]
  rfl
theorem dL_p2 (ρ : Nat → Nat) (σ : Nat → Int32) (i : Nat) (lo : xL) : (dL ρ σ lo).filter (fun q => !(q.1 == i) && (!(q.1 == i + 1) && !(q.1 + 1 == i && q.2.category == 2))) = dL ρ σ (lo.filter (xp2 i)) := by
  unfold dL
  rw [List.filter_map]
  congr 1
  apply List.filter_congr
  intro q _
  show (!(q.1 == i) && (!(q.1 == i + 1) && !(q.1 + 1 == i && (dV ρ σ q.2).category == 2))) = _
  rw [dV_lg]
  rfl
theorem xfi_ok {α : Type} {i : Nat} {v : α} : ∀ {t : List (Nat × α)}, xfi t i = some v → (i, v) ∈ t := by
  intro t
  induction t with
  | nil => intro h; cases h
  | cons q t ih =>
    obtain ⟨k, u⟩ := q
    intro h
    unfold xfi at h
    cases e : Nat.beq k i with
    | true =>
      rw [e] at h
      cases h
      rw [← Nat.eq_of_beq_eq_true e]
      exact List.mem_cons_self
    | false =>
      rw [e] at h
      exact List.mem_cons_of_mem _ (ih h)

set_option maxHeartbeats 1000000 in
theorem ok_push {L : Nat} {chk : xCk} {σ : Nat → Int32} {D : va_G} {l : Launch} {ih : xS} {r : xR} {p : Program} {e : Env} {s : State} {m : MethodId} {args : Array Value} {below : List Frame} {meth : Method} {c : Code} {A : Nat → Prop} {Q : State → Prop} {K : xK} {n0 : Nat} {ρ0 : Nat → Nat} {pc : Nat} {lo : xL} {w : List xC} {cs ss : Nat} {fa : xFa} {n : Nat} {H : Heap} {locs : List Loc} {ρ : Nat → Nat} {γ : Nat → ClassId} {ls : Array Slot} (IH : Gd L chk σ D l ih) (C : Cx L chk σ D l r p e s m args below meth c A Q K n0 ρ0) (V : Iv σ D s A r n0 ρ0 H locs ρ γ ls lo w fa) {d : Nat} {v : xV} {rest : List xV} (h : xpush ih r pc lo w cs ss fa K n d v rest = true) : n = d ∧ W p l e (xrm r) s m args below meth c H locs cs ss Q (F0 m (pc + d) ls (dV ρ σ v :: rest.map (dV ρ σ))) := by
  unfold xpush at h
  rw [Bool.and_eq_true, fV_eq, fN_eq] at h
  exact ⟨Nat.eq_of_beq_eq_true h.1, IH _ _ _ _ _ _ _ _ _ _ _ _ _ _ C _ _ _ _ _ _ _ h.2 H locs ρ γ ls V⟩
set_option maxHeartbeats 1000000 in
theorem ok_iconst {L : Nat} {chk : xCk} {σ : Nat → Int32} {D : va_G} {l : Launch} {ih : xS} {r : xR} {p : Program} {e : Env} {s : State} {m : MethodId} {args : Array Value} {below : List Frame} {meth : Method} {c : Code} {A : Nat → Prop} {Q : State → Prop} {K : xK} {n0 : Nat} {ρ0 : Nat → Nat} {pc : Nat} {lo : xL} {sk : List xV} {w : List xC} {cs ss : Nat} {fa : xFa} {n : Nat} {H : Heap} {locs : List Loc} {ρ : Nat → Nat} {γ : Nat → ClassId} {ls : Array Slot} (IH : Gd L chk σ D l ih) (C : Cx L chk σ D l r p e s m args below meth c A Q K n0 ρ0) (V : Iv σ D s A r n0 ρ0 H locs ρ γ ls lo w fa) {z : Int} (hd : decode r.2.1 pc = .ok (.iconst z, n)) (h : xpush ih r pc lo w cs ss fa K n 1 (.inl (.inl z)) sk = true) : W p l e (xrm r) s m args below meth c H locs cs ss Q (F0 m (pc) ls ((sk.map (dV ρ σ)))) := by
  obtain ⟨rfl, k⟩ := ok_push IH C V h
  exact lv_iconst C.1 C.2.1 hd rfl k
set_option maxHeartbeats 1000000 in
theorem ok_bipush {L : Nat} {chk : xCk} {σ : Nat → Int32} {D : va_G} {l : Launch} {ih : xS} {r : xR} {p : Program} {e : Env} {s : State} {m : MethodId} {args : Array Value} {below : List Frame} {meth : Method} {c : Code} {A : Nat → Prop} {Q : State → Prop} {K : xK} {n0 : Nat} {ρ0 : Nat → Nat} {pc : Nat} {lo : xL} {sk : List xV} {w : List xC} {cs ss : Nat} {fa : xFa} {n : Nat} {H : Heap} {locs : List Loc} {ρ : Nat → Nat} {γ : Nat → ClassId} {ls : Array Slot} (IH : Gd L chk σ D l ih) (C : Cx L chk σ D l r p e s m args below meth c A Q K n0 ρ0) (V : Iv σ D s A r n0 ρ0 H locs ρ γ ls lo w fa) {z : Int} (hd : decode r.2.1 pc = .ok (.bipush z, n)) (h : xpush ih r pc lo w cs ss fa K n 2 (.inl (.inl (Int8.ofInt z).toInt32.toInt)) sk = true) : W p l e (xrm r) s m args below meth c H locs cs ss Q (F0 m (pc) ls ((sk.map (dV ρ σ)))) := by
  obtain ⟨rfl, k⟩ := ok_push IH C V h
  exact lv_bipush C.1 C.2.1 hd (i32_of _).symm k
set_option maxHeartbeats 1000000 in
theorem ok_sipush {L : Nat} {chk : xCk} {σ : Nat → Int32} {D : va_G} {l : Launch} {ih : xS} {r : xR} {p : Program} {e : Env} {s : State} {m : MethodId} {args : Array Value} {below : List Frame} {meth : Method} {c : Code} {A : Nat → Prop} {Q : State → Prop} {K : xK} {n0 : Nat} {ρ0 : Nat → Nat} {pc : Nat} {lo : xL} {sk : List xV} {w : List xC} {cs ss : Nat} {fa : xFa} {n : Nat} {H : Heap} {locs : List Loc} {ρ : Nat → Nat} {γ : Nat → ClassId} {ls : Array Slot} (IH : Gd L chk σ D l ih) (C : Cx L chk σ D l r p e s m args below meth c A Q K n0 ρ0) (V : Iv σ D s A r n0 ρ0 H locs ρ γ ls lo w fa) {z : Int} (hd : decode r.2.1 pc = .ok (.sipush z, n)) (h : xpush ih r pc lo w cs ss fa K n 3 (.inl (.inl (Int16.ofInt z).toInt32.toInt)) sk = true) : W p l e (xrm r) s m args below meth c H locs cs ss Q (F0 m (pc) ls ((sk.map (dV ρ σ)))) := by
  obtain ⟨rfl, k⟩ := ok_push IH C V h
  exact lv_sipush C.1 C.2.1 hd (i32_of _).symm k
set_option maxHeartbeats 1000000 in
theorem ok_lconst {L : Nat} {chk : xCk} {σ : Nat → Int32} {D : va_G} {l : Launch} {ih : xS} {r : xR} {p : Program} {e : Env} {s : State} {m : MethodId} {args : Array Value} {below : List Frame} {meth : Method} {c : Code} {A : Nat → Prop} {Q : State → Prop} {K : xK} {n0 : Nat} {ρ0 : Nat → Nat} {pc : Nat} {lo : xL} {sk : List xV} {w : List xC} {cs ss : Nat} {fa : xFa} {n : Nat} {H : Heap} {locs : List Loc} {ρ : Nat → Nat} {γ : Nat → ClassId} {ls : Array Slot} (IH : Gd L chk σ D l ih) (C : Cx L chk σ D l r p e s m args below meth c A Q K n0 ρ0) (V : Iv σ D s A r n0 ρ0 H locs ρ γ ls lo w fa) {z : Fin 2} (hd : decode r.2.1 pc = .ok (.lconst z, n)) (h : xpush ih r pc lo w cs ss fa K n 1 (.inr (.inr (Int64.ofNat (z : Nat)).toInt)) sk = true) : W p l e (xrm r) s m args below meth c H locs cs ss Q (F0 m (pc) ls ((sk.map (dV ρ σ)))) := by
  obtain ⟨rfl, k⟩ := ok_push IH C V h
  exact lv_lconst C.1 C.2.1 hd (i64_of _).symm k
set_option maxHeartbeats 1000000 in
theorem ok_load {L : Nat} {chk : xCk} {σ : Nat → Int32} {D : va_G} {l : Launch} {ih : xS} {r : xR} {p : Program} {e : Env} {s : State} {m : MethodId} {args : Array Value} {below : List Frame} {meth : Method} {c : Code} {A : Nat → Prop} {Q : State → Prop} {K : xK} {n0 : Nat} {ρ0 : Nat → Nat} {pc : Nat} {lo : xL} {sk : List xV} {w : List xC} {cs ss : Nat} {fa : xFa} {n : Nat} {H : Heap} {locs : List Loc} {ρ : Nat → Nat} {γ : Nat → ClassId} {ls : Array Slot} (IH : Gd L chk σ D l ih) (C : Cx L chk σ D l r p e s m args below meth c A Q K n0 ρ0) (V : Iv σ D s A r n0 ρ0 H locs ρ γ ls lo w fa) {d i : Nat} {ok : xV → Bool} (h : xload ih r pc lo sk w cs ss fa K n d i ok = true) : ∃ v, ok v = true ∧ ls[i]? = some (.val (dV ρ σ v)) ∧ n = d ∧ W p l e (xrm r) s m args below meth c H locs cs ss Q (F0 m (pc + d) ls (dV ρ σ v :: sk.map (dV ρ σ))) := by
  unfold xload at h
  cases e : xll lo i with
  | none => rw [e] at h; cases h
  | some v =>
    rw [e] at h
    dsimp only at h
    rw [Bool.and_eq_true] at h
    obtain ⟨a, b⟩ := ok_push IH C V h.2
    exact ⟨v, h.1, V.2.2.2.2.2.1.2.2 _ (xll_ok e), a, b⟩
set_option maxHeartbeats 1000000 in
theorem ok_iload_n {L : Nat} {chk : xCk} {σ : Nat → Int32} {D : va_G} {l : Launch} {ih : xS} {r : xR} {p : Program} {e : Env} {s : State} {m : MethodId} {args : Array Value} {below : List Frame} {meth : Method} {c : Code} {A : Nat → Prop} {Q : State → Prop} {K : xK} {n0 : Nat} {ρ0 : Nat → Nat} {pc : Nat} {lo : xL} {sk : List xV} {w : List xC} {cs ss : Nat} {fa : xFa} {n : Nat} {H : Heap} {locs : List Loc} {ρ : Nat → Nat} {γ : Nat → ClassId} {ls : Array Slot} (IH : Gd L chk σ D l ih) (C : Cx L chk σ D l r p e s m args below meth c A Q K n0 ρ0) (V : Iv σ D s A r n0 ρ0 H locs ρ γ ls lo w fa) {k : Fin 4} (hd : decode r.2.1 pc = .ok (.iload_n k, n)) (h : xload ih r pc lo sk w cs ss fa K n 1 (k : Nat) xisI = true) : W p l e (xrm r) s m args below meth c H locs cs ss Q (F0 m (pc) ls ((sk.map (dV ρ σ)))) := by
  obtain ⟨v, hv, hl, rfl, kk⟩ := ok_load IH C V h
  rcases v with a | b
  · exact lv_iload_n C.1 C.2.1 hd rfl hl kk
  · rcases b with b | b <;> cases hv
set_option maxHeartbeats 1000000 in
theorem ok_iload {L : Nat} {chk : xCk} {σ : Nat → Int32} {D : va_G} {l : Launch} {ih : xS} {r : xR} {p : Program} {e : Env} {s : State} {m : MethodId} {args : Array Value} {below : List Frame} {meth : Method} {c : Code} {A : Nat → Prop} {Q : State → Prop} {K : xK} {n0 : Nat} {ρ0 : Nat → Nat} {pc : Nat} {lo : xL} {sk : List xV} {w : List xC} {cs ss : Nat} {fa : xFa} {n : Nat} {H : Heap} {locs : List Loc} {ρ : Nat → Nat} {γ : Nat → ClassId} {ls : Array Slot} (IH : Gd L chk σ D l ih) (C : Cx L chk σ D l r p e s m args below meth c A Q K n0 ρ0) (V : Iv σ D s A r n0 ρ0 H locs ρ γ ls lo w fa) {k : Nat} (hd : decode r.2.1 pc = .ok (.iload k, n)) (h : xload ih r pc lo sk w cs ss fa K n 2 k xisI = true) : W p l e (xrm r) s m args below meth c H locs cs ss Q (F0 m (pc) ls ((sk.map (dV ρ σ)))) := by
  obtain ⟨v, hv, hl, rfl, kk⟩ := ok_load IH C V h
  rcases v with a | b
  · exact lv_iload C.1 C.2.1 hd hl kk
  · rcases b with b | b <;> cases hv
set_option maxHeartbeats 1000000 in
theorem ok_lload_n {L : Nat} {chk : xCk} {σ : Nat → Int32} {D : va_G} {l : Launch} {ih : xS} {r : xR} {p : Program} {e : Env} {s : State} {m : MethodId} {args : Array Value} {below : List Frame} {meth : Method} {c : Code} {A : Nat → Prop} {Q : State → Prop} {K : xK} {n0 : Nat} {ρ0 : Nat → Nat} {pc : Nat} {lo : xL} {sk : List xV} {w : List xC} {cs ss : Nat} {fa : xFa} {n : Nat} {H : Heap} {locs : List Loc} {ρ : Nat → Nat} {γ : Nat → ClassId} {ls : Array Slot} (IH : Gd L chk σ D l ih) (C : Cx L chk σ D l r p e s m args below meth c A Q K n0 ρ0) (V : Iv σ D s A r n0 ρ0 H locs ρ γ ls lo w fa) {k : Fin 4} (hd : decode r.2.1 pc = .ok (.lload_n k, n)) (h : xload ih r pc lo sk w cs ss fa K n 1 (k : Nat) xisL = true) : W p l e (xrm r) s m args below meth c H locs cs ss Q (F0 m (pc) ls ((sk.map (dV ρ σ)))) := by
  obtain ⟨v, hv, hl, rfl, kk⟩ := ok_load IH C V h
  rcases v with a | b | b
  · cases hv
  · cases hv
  · exact lv_lload_n C.1 C.2.1 hd rfl hl kk
set_option maxHeartbeats 1000000 in
theorem ok_lload {L : Nat} {chk : xCk} {σ : Nat → Int32} {D : va_G} {l : Launch} {ih : xS} {r : xR} {p : Program} {e : Env} {s : State} {m : MethodId} {args : Array Value} {below : List Frame} {meth : Method} {c : Code} {A : Nat → Prop} {Q : State → Prop} {K : xK} {n0 : Nat} {ρ0 : Nat → Nat} {pc : Nat} {lo : xL} {sk : List xV} {w : List xC} {cs ss : Nat} {fa : xFa} {n : Nat} {H : Heap} {locs : List Loc} {ρ : Nat → Nat} {γ : Nat → ClassId} {ls : Array Slot} (IH : Gd L chk σ D l ih) (C : Cx L chk σ D l r p e s m args below meth c A Q K n0 ρ0) (V : Iv σ D s A r n0 ρ0 H locs ρ γ ls lo w fa) {k : Nat} (hd : decode r.2.1 pc = .ok (.lload k, n)) (h : xload ih r pc lo sk w cs ss fa K n 2 k xisL = true) : W p l e (xrm r) s m args below meth c H locs cs ss Q (F0 m (pc) ls ((sk.map (dV ρ σ)))) := by
  obtain ⟨v, hv, hl, rfl, kk⟩ := ok_load IH C V h
  rcases v with a | b | b
  · cases hv
  · cases hv
  · exact lv_lload C.1 C.2.1 hd hl kk
set_option maxHeartbeats 1000000 in
theorem ok_aload_n {L : Nat} {chk : xCk} {σ : Nat → Int32} {D : va_G} {l : Launch} {ih : xS} {r : xR} {p : Program} {e : Env} {s : State} {m : MethodId} {args : Array Value} {below : List Frame} {meth : Method} {c : Code} {A : Nat → Prop} {Q : State → Prop} {K : xK} {n0 : Nat} {ρ0 : Nat → Nat} {pc : Nat} {lo : xL} {sk : List xV} {w : List xC} {cs ss : Nat} {fa : xFa} {n : Nat} {H : Heap} {locs : List Loc} {ρ : Nat → Nat} {γ : Nat → ClassId} {ls : Array Slot} (IH : Gd L chk σ D l ih) (C : Cx L chk σ D l r p e s m args below meth c A Q K n0 ρ0) (V : Iv σ D s A r n0 ρ0 H locs ρ γ ls lo w fa) {k : Fin 4} (hd : decode r.2.1 pc = .ok (.aload_n k, n)) (h : xload ih r pc lo sk w cs ss fa K n 1 (k : Nat) xisR = true) : W p l e (xrm r) s m args below meth c H locs cs ss Q (F0 m (pc) ls ((sk.map (dV ρ σ)))) := by
  obtain ⟨v, hv, hl, rfl, kk⟩ := ok_load IH C V h
  rcases v with a | (_ | b) | b
  · cases hv
  · exact lv_aload_nN C.1 C.2.1 hd rfl hl kk
  · exact lv_aload_n C.1 C.2.1 hd rfl hl kk
  · cases hv
set_option maxHeartbeats 1000000 in
theorem ok_aload {L : Nat} {chk : xCk} {σ : Nat → Int32} {D : va_G} {l : Launch} {ih : xS} {r : xR} {p : Program} {e : Env} {s : State} {m : MethodId} {args : Array Value} {below : List Frame} {meth : Method} {c : Code} {A : Nat → Prop} {Q : State → Prop} {K : xK} {n0 : Nat} {ρ0 : Nat → Nat} {pc : Nat} {lo : xL} {sk : List xV} {w : List xC} {cs ss : Nat} {fa : xFa} {n : Nat} {H : Heap} {locs : List Loc} {ρ : Nat → Nat} {γ : Nat → ClassId} {ls : Array Slot} (IH : Gd L chk σ D l ih) (C : Cx L chk σ D l r p e s m args below meth c A Q K n0 ρ0) (V : Iv σ D s A r n0 ρ0 H locs ρ γ ls lo w fa) {k : Nat} (hd : decode r.2.1 pc = .ok (.aload k, n)) (h : xload ih r pc lo sk w cs ss fa K n 2 k xisR = true) : W p l e (xrm r) s m args below meth c H locs cs ss Q (F0 m (pc) ls ((sk.map (dV ρ σ)))) := by
  obtain ⟨v, hv, hl, rfl, kk⟩ := ok_load IH C V h
  rcases v with a | (_ | b) | b
  · cases hv
  · exact lv_aloadN C.1 C.2.1 hd hl kk
  · exact lv_aload C.1 C.2.1 hd hl kk
  · cases hv
set_option maxHeartbeats 1000000 in
theorem ok_store {L : Nat} {chk : xCk} {σ : Nat → Int32} {D : va_G} {l : Launch} {ih : xS} {r : xR} {p : Program} {e : Env} {s : State} {m : MethodId} {args : Array Value} {below : List Frame} {meth : Method} {c : Code} {A : Nat → Prop} {Q : State → Prop} {K : xK} {n0 : Nat} {ρ0 : Nat → Nat} {pc : Nat} {lo : xL} {sk : List xV} {w : List xC} {cs ss : Nat} {fa : xFa} {n : Nat} {H : Heap} {locs : List Loc} {ρ : Nat → Nat} {γ : Nat → ClassId} {ls : Array Slot} (IH : Gd L chk σ D l ih) (C : Cx L chk σ D l r p e s m args below meth c A Q K n0 ρ0) (V : Iv σ D s A r n0 ρ0 H locs ρ γ ls lo w fa) {d i : Nat} {ok : xV → Bool} (h : xstore ih r pc lo sk w cs ss fa K n d i ok = true) : ∃ v rest, sk = v :: rest ∧ ok v = true ∧ n = d ∧ i < r.2.2.1 ∧ ∀ ls2, lv_has ls2 r.2.2.1 ((i, dV ρ σ v) :: (dL ρ σ lo).filter (fun q => !(q.1 == i) && !(q.1 + 1 == i && q.2.category == 2))) → W p l e (xrm r) s m args below meth c H locs cs ss Q (F0 m (pc + d) ls2 (rest.map (dV ρ σ))) := by
  cases sk with
  | nil => cases h
  | cons v rest =>
    unfold xstore at h
    dsimp only at h
    rw [Bool.and_eq_true, Bool.and_eq_true, Bool.and_eq_true, fFil_eq, fN_eq] at h
    refine ⟨v, rest, rfl, h.2.1, Nat.eq_of_beq_eq_true h.1, Nat.le_of_ble_eq_true h.2.2.1, fun ls2 h2 => ?_⟩
    refine IH _ _ _ _ _ _ _ _ _ _ _ _ _ _ C _ _ _ _ _ _ _ h.2.2.2 H locs ρ γ ls2 (V.lo ?_)
    rw [dL_p1] at h2
    exact h2
set_option maxHeartbeats 1000000 in
theorem ok_istore_n {L : Nat} {chk : xCk} {σ : Nat → Int32} {D : va_G} {l : Launch} {ih : xS} {r : xR} {p : Program} {e : Env} {s : State} {m : MethodId} {args : Array Value} {below : List Frame} {meth : Method} {c : Code} {A : Nat → Prop} {Q : State → Prop} {K : xK} {n0 : Nat} {ρ0 : Nat → Nat} {pc : Nat} {lo : xL} {sk : List xV} {w : List xC} {cs ss : Nat} {fa : xFa} {n : Nat} {H : Heap} {locs : List Loc} {ρ : Nat → Nat} {γ : Nat → ClassId} {ls : Array Slot} (IH : Gd L chk σ D l ih) (C : Cx L chk σ D l r p e s m args below meth c A Q K n0 ρ0) (V : Iv σ D s A r n0 ρ0 H locs ρ γ ls lo w fa) {k : Fin 4} (hd : decode r.2.1 pc = .ok (.istore_n k, n)) (h : xstore ih r pc lo sk w cs ss fa K n 1 (k : Nat) xisI = true) : W p l e (xrm r) s m args below meth c H locs cs ss Q (F0 m (pc) ls ((sk.map (dV ρ σ)))) := by
  obtain ⟨v, rest, rfl, hv, rfl, hi, kk⟩ := ok_store IH C V h
  rcases v with a | b
  · exact lv_istore_n C.1 C.2.1 hd rfl V.2.2.2.2.2.1 hi rfl kk
  · rcases b with b | b <;> cases hv
set_option maxHeartbeats 1000000 in
theorem ok_istore {L : Nat} {chk : xCk} {σ : Nat → Int32} {D : va_G} {l : Launch} {ih : xS} {r : xR} {p : Program} {e : Env} {s : State} {m : MethodId} {args : Array Value} {below : List Frame} {meth : Method} {c : Code} {A : Nat → Prop} {Q : State → Prop} {K : xK} {n0 : Nat} {ρ0 : Nat → Nat} {pc : Nat} {lo : xL} {sk : List xV} {w : List xC} {cs ss : Nat} {fa : xFa} {n : Nat} {H : Heap} {locs : List Loc} {ρ : Nat → Nat} {γ : Nat → ClassId} {ls : Array Slot} (IH : Gd L chk σ D l ih) (C : Cx L chk σ D l r p e s m args below meth c A Q K n0 ρ0) (V : Iv σ D s A r n0 ρ0 H locs ρ γ ls lo w fa) {k : Nat} (hd : decode r.2.1 pc = .ok (.istore k, n)) (h : xstore ih r pc lo sk w cs ss fa K n 2 k xisI = true) : W p l e (xrm r) s m args below meth c H locs cs ss Q (F0 m (pc) ls ((sk.map (dV ρ σ)))) := by
  obtain ⟨v, rest, rfl, hv, rfl, hi, kk⟩ := ok_store IH C V h
  rcases v with a | b
  · exact lv_istore C.1 C.2.1 hd V.2.2.2.2.2.1 hi rfl kk
  · rcases b with b | b <;> cases hv
set_option maxHeartbeats 1000000 in
theorem ok_astore_n {L : Nat} {chk : xCk} {σ : Nat → Int32} {D : va_G} {l : Launch} {ih : xS} {r : xR} {p : Program} {e : Env} {s : State} {m : MethodId} {args : Array Value} {below : List Frame} {meth : Method} {c : Code} {A : Nat → Prop} {Q : State → Prop} {K : xK} {n0 : Nat} {ρ0 : Nat → Nat} {pc : Nat} {lo : xL} {sk : List xV} {w : List xC} {cs ss : Nat} {fa : xFa} {n : Nat} {H : Heap} {locs : List Loc} {ρ : Nat → Nat} {γ : Nat → ClassId} {ls : Array Slot} (IH : Gd L chk σ D l ih) (C : Cx L chk σ D l r p e s m args below meth c A Q K n0 ρ0) (V : Iv σ D s A r n0 ρ0 H locs ρ γ ls lo w fa) {k : Fin 4} (hd : decode r.2.1 pc = .ok (.astore_n k, n)) (h : xstore ih r pc lo sk w cs ss fa K n 1 (k : Nat) xisR = true) : W p l e (xrm r) s m args below meth c H locs cs ss Q (F0 m (pc) ls ((sk.map (dV ρ σ)))) := by
  obtain ⟨v, rest, rfl, hv, rfl, hi, kk⟩ := ok_store IH C V h
  rcases v with a | (_ | b) | b
  · cases hv
  · exact lv_astore_nN C.1 C.2.1 hd rfl V.2.2.2.2.2.1 hi rfl kk
  · exact lv_astore_n C.1 C.2.1 hd rfl V.2.2.2.2.2.1 hi rfl kk
  · cases hv
set_option maxHeartbeats 1000000 in
theorem ok_astore {L : Nat} {chk : xCk} {σ : Nat → Int32} {D : va_G} {l : Launch} {ih : xS} {r : xR} {p : Program} {e : Env} {s : State} {m : MethodId} {args : Array Value} {below : List Frame} {meth : Method} {c : Code} {A : Nat → Prop} {Q : State → Prop} {K : xK} {n0 : Nat} {ρ0 : Nat → Nat} {pc : Nat} {lo : xL} {sk : List xV} {w : List xC} {cs ss : Nat} {fa : xFa} {n : Nat} {H : Heap} {locs : List Loc} {ρ : Nat → Nat} {γ : Nat → ClassId} {ls : Array Slot} (IH : Gd L chk σ D l ih) (C : Cx L chk σ D l r p e s m args below meth c A Q K n0 ρ0) (V : Iv σ D s A r n0 ρ0 H locs ρ γ ls lo w fa) {k : Nat} (hd : decode r.2.1 pc = .ok (.astore k, n)) (h : xstore ih r pc lo sk w cs ss fa K n 2 k xisR = true) : W p l e (xrm r) s m args below meth c H locs cs ss Q (F0 m (pc) ls ((sk.map (dV ρ σ)))) := by
  obtain ⟨v, rest, rfl, hv, rfl, hi, kk⟩ := ok_store IH C V h
  rcases v with a | (_ | b) | b
  · cases hv
  · exact lv_astoreN C.1 C.2.1 hd V.2.2.2.2.2.1 hi rfl kk
  · exact lv_astore C.1 C.2.1 hd V.2.2.2.2.2.1 hi rfl kk
  · cases hv
set_option maxHeartbeats 1000000 in
theorem ok_storeL {L : Nat} {chk : xCk} {σ : Nat → Int32} {D : va_G} {l : Launch} {ih : xS} {r : xR} {p : Program} {e : Env} {s : State} {m : MethodId} {args : Array Value} {below : List Frame} {meth : Method} {c : Code} {A : Nat → Prop} {Q : State → Prop} {K : xK} {n0 : Nat} {ρ0 : Nat → Nat} {pc : Nat} {lo : xL} {sk : List xV} {w : List xC} {cs ss : Nat} {fa : xFa} {n : Nat} {H : Heap} {locs : List Loc} {ρ : Nat → Nat} {γ : Nat → ClassId} {ls : Array Slot} (IH : Gd L chk σ D l ih) (C : Cx L chk σ D l r p e s m args below meth c A Q K n0 ρ0) (V : Iv σ D s A r n0 ρ0 H locs ρ γ ls lo w fa) {d i : Nat} (h : xstoreL ih r pc lo sk w cs ss fa K n d i = true) : ∃ (z : Int) (rest : List xV), sk = .inr (.inr z) :: rest ∧ n = d ∧ i + 1 < r.2.2.1 ∧ ∀ ls2, lv_has ls2 r.2.2.1 ((i, Value.long (Int64.ofInt z)) :: (dL ρ σ lo).filter (fun q => !(q.1 == i) && (!(q.1 == i + 1) && !(q.1 + 1 == i && q.2.category == 2)))) → W p l e (xrm r) s m args below meth c H locs cs ss Q (F0 m (pc + d) ls2 (rest.map (dV ρ σ))) := by
  unfold xstoreL at h
  split at h
  · rename_i z rest
    rw [Bool.and_eq_true, Bool.and_eq_true, fFil_eq, fN_eq] at h
    refine ⟨z, rest, rfl, Nat.eq_of_beq_eq_true h.1, Nat.le_of_ble_eq_true h.2.1, fun ls2 h2 => ?_⟩
    refine IH _ _ _ _ _ _ _ _ _ _ _ _ _ _ C _ _ _ _ _ _ _ h.2.2 H locs ρ γ ls2 (V.lo ?_)
    rw [dL_p2] at h2
    exact h2
  · cases h
set_option maxHeartbeats 1000000 in
theorem ok_lstore_n {L : Nat} {chk : xCk} {σ : Nat → Int32} {D : va_G} {l : Launch} {ih : xS} {r : xR} {p : Program} {e : Env} {s : State} {m : MethodId} {args : Array Value} {below : List Frame} {meth : Method} {c : Code} {A : Nat → Prop} {Q : State → Prop} {K : xK} {n0 : Nat} {ρ0 : Nat → Nat} {pc : Nat} {lo : xL} {sk : List xV} {w : List xC} {cs ss : Nat} {fa : xFa} {n : Nat} {H : Heap} {locs : List Loc} {ρ : Nat → Nat} {γ : Nat → ClassId} {ls : Array Slot} (IH : Gd L chk σ D l ih) (C : Cx L chk σ D l r p e s m args below meth c A Q K n0 ρ0) (V : Iv σ D s A r n0 ρ0 H locs ρ γ ls lo w fa) {k : Fin 4} (hd : decode r.2.1 pc = .ok (.lstore_n k, n)) (h : xstoreL ih r pc lo sk w cs ss fa K n 1 (k : Nat) = true) : W p l e (xrm r) s m args below meth c H locs cs ss Q (F0 m (pc) ls ((sk.map (dV ρ σ)))) := by
  obtain ⟨z, rest, rfl, rfl, hi, kk⟩ := ok_storeL IH C V h
  exact lv_lstore_n C.1 C.2.1 hd rfl V.2.2.2.2.2.1 hi rfl kk
set_option maxHeartbeats 1000000 in
theorem ok_lstore {L : Nat} {chk : xCk} {σ : Nat → Int32} {D : va_G} {l : Launch} {ih : xS} {r : xR} {p : Program} {e : Env} {s : State} {m : MethodId} {args : Array Value} {below : List Frame} {meth : Method} {c : Code} {A : Nat → Prop} {Q : State → Prop} {K : xK} {n0 : Nat} {ρ0 : Nat → Nat} {pc : Nat} {lo : xL} {sk : List xV} {w : List xC} {cs ss : Nat} {fa : xFa} {n : Nat} {H : Heap} {locs : List Loc} {ρ : Nat → Nat} {γ : Nat → ClassId} {ls : Array Slot} (IH : Gd L chk σ D l ih) (C : Cx L chk σ D l r p e s m args below meth c A Q K n0 ρ0) (V : Iv σ D s A r n0 ρ0 H locs ρ γ ls lo w fa) {k : Nat} (hd : decode r.2.1 pc = .ok (.lstore k, n)) (h : xstoreL ih r pc lo sk w cs ss fa K n 2 k = true) : W p l e (xrm r) s m args below meth c H locs cs ss Q (F0 m (pc) ls ((sk.map (dV ρ σ)))) := by
  obtain ⟨z, rest, rfl, rfl, hi, kk⟩ := ok_storeL IH C V h
  exact lv_lstore C.1 C.2.1 hd V.2.2.2.2.2.1 hi rfl kk
set_option maxHeartbeats 1000000 in
theorem ok_iinc {L : Nat} {chk : xCk} {σ : Nat → Int32} {D : va_G} {l : Launch} {ih : xS} {r : xR} {p : Program} {e : Env} {s : State} {m : MethodId} {args : Array Value} {below : List Frame} {meth : Method} {c : Code} {A : Nat → Prop} {Q : State → Prop} {K : xK} {n0 : Nat} {ρ0 : Nat → Nat} {pc : Nat} {lo : xL} {sk : List xV} {w : List xC} {cs ss : Nat} {fa : xFa} {n : Nat} {H : Heap} {locs : List Loc} {ρ : Nat → Nat} {γ : Nat → ClassId} {ls : Array Slot} (IH : Gd L chk σ D l ih) (C : Cx L chk σ D l r p e s m args below meth c A Q K n0 ρ0) (V : Iv σ D s A r n0 ρ0 H locs ρ γ ls lo w fa) (hσ : σ 50 = σ 0 &&& 63) {i : Nat} {z : Int} (hd : decode r.2.1 pc = .ok (.iinc i z, n)) (h : xiinc ih r pc lo sk w cs ss fa K n i z = true) : W p l e (xrm r) s m args below meth c H locs cs ss Q (F0 m (pc) ls ((sk.map (dV ρ σ)))) := by
  unfold xiinc at h
  split at h
  · rename_i a e
    split at h
    · rename_i v e2
      rw [Bool.and_eq_true, Bool.and_eq_true, fI_eq, fFil_eq, fN_eq] at h
      obtain ⟨h1, h2, h⟩ := h
      have h1 := Nat.eq_of_beq_eq_true h1
      subst h1
      have hm := xll_ok (ρ := ρ) (σ := σ) e
      obtain ⟨k, hk⟩ := List.getElem?_of_mem hm
      have e3 := xopS_ok hσ e2
      refine lv_iinc (v := dI σ v) C.1 C.2.1 hd V.2.2.2.2.2.1 hk e3.symm (Nat.le_of_ble_eq_true h2) rfl (fun ls2 h5 => ?_)
      refine IH _ _ _ _ _ _ _ _ _ _ _ _ _ _ C _ _ _ _ _ _ _ h H locs ρ γ ls2 (V.lo ?_)
      rw [dL_p1] at h5
      exact h5
    · cases h
  · cases h
set_option maxHeartbeats 1000000 in
theorem ok_bin {L : Nat} {chk : xCk} {σ : Nat → Int32} {D : va_G} {l : Launch} {ih : xS} {r : xR} {p : Program} {e : Env} {s : State} {m : MethodId} {args : Array Value} {below : List Frame} {meth : Method} {c : Code} {A : Nat → Prop} {Q : State → Prop} {K : xK} {n0 : Nat} {ρ0 : Nat → Nat} {pc : Nat} {lo : xL} {sk : List xV} {w : List xC} {cs ss : Nat} {fa : xFa} {n : Nat} {H : Heap} {locs : List Loc} {ρ : Nat → Nat} {γ : Nat → ClassId} {ls : Array Slot} (IH : Gd L chk σ D l ih) (C : Cx L chk σ D l r p e s m args below meth c A Q K n0 ρ0) (V : Iv σ D s A r n0 ρ0 H locs ρ γ ls lo w fa) (hσ : σ 50 = σ 0 &&& 63) {o : Nat} (hrow : ∀ (x y : Int32) (rest : List Value), n = 1 → W p l e (xrm r) s m args below meth c H locs cs ss Q (F0 m (pc + 1) ls (.int (xop o x y) :: rest)) → W p l e (xrm r) s m args below meth c H locs cs ss Q (F0 m (pc) ls (.int y :: .int x :: rest))) (h : xbin ih r pc lo sk w cs ss fa K n o = true) : W p l e (xrm r) s m args below meth c H locs cs ss Q (F0 m (pc) ls ((sk.map (dV ρ σ)))) := by
  unfold xbin at h
  split at h
  · rename_i b a rest
    split at h
    · rename_i v e
      obtain ⟨h1, k⟩ := ok_push IH C V h
      refine hrow (dI σ a) (dI σ b) _ h1 ?_
      rw [← xopS_ok hσ e]
      exact k
    · rcases xcn_ok V.2.2.2.2.2.2 h with h | ⟨fa', z, h1, h2, h3⟩
      · rcases xcn_ok V.2.2.2.2.2.2 h with h | ⟨fa', z, h1, h2, h3⟩
        · obtain ⟨h1, k⟩ := ok_push IH C V h
          exact hrow (dI σ a) (dI σ b) _ h1 k
        · have k := IH _ _ _ _ _ _ _ _ _ _ _ _ _ _ C _ _ _ _ _ _ _ h3 H locs ρ γ ls (V.fa h1)
          have e5 : dV ρ σ (.inl (.inl z)) = dV ρ σ (.inl b) := congrArg Value.int h2
          rw [List.map_cons, e5] at k
          exact k
      · have k := IH _ _ _ _ _ _ _ _ _ _ _ _ _ _ C _ _ _ _ _ _ _ h3 H locs ρ γ ls (V.fa h1)
        have e5 : dV ρ σ (.inl (.inl z)) = dV ρ σ (.inl a) := congrArg Value.int h2
        rw [List.map_cons, List.map_cons, e5] at k
        exact k
  · cases h
set_option maxHeartbeats 1000000 in
theorem ok_iadd {L : Nat} {chk : xCk} {σ : Nat → Int32} {D : va_G} {l : Launch} {ih : xS} {r : xR} {p : Program} {e : Env} {s : State} {m : MethodId} {args : Array Value} {below : List Frame} {meth : Method} {c : Code} {A : Nat → Prop} {Q : State → Prop} {K : xK} {n0 : Nat} {ρ0 : Nat → Nat} {pc : Nat} {lo : xL} {sk : List xV} {w : List xC} {cs ss : Nat} {fa : xFa} {n : Nat} {H : Heap} {locs : List Loc} {ρ : Nat → Nat} {γ : Nat → ClassId} {ls : Array Slot} (IH : Gd L chk σ D l ih) (C : Cx L chk σ D l r p e s m args below meth c A Q K n0 ρ0) (V : Iv σ D s A r n0 ρ0 H locs ρ γ ls lo w fa) (hσ : σ 50 = σ 0 &&& 63) (hd : decode r.2.1 pc = .ok (.iadd, n)) (h : xbin ih r pc lo sk w cs ss fa K n 0 = true) : W p l e (xrm r) s m args below meth c H locs cs ss Q (F0 m (pc) ls ((sk.map (dV ρ σ)))) := by
  refine ok_bin IH C V hσ (fun x y rest hn k => ?_) h
  subst hn
  exact lv_iadd C.1 C.2.1 hd k
set_option maxHeartbeats 1000000 in
theorem ok_isub {L : Nat} {chk : xCk} {σ : Nat → Int32} {D : va_G} {l : Launch} {ih : xS} {r : xR} {p : Program} {e : Env} {s : State} {m : MethodId} {args : Array Value} {below : List Frame} {meth : Method} {c : Code} {A : Nat → Prop} {Q : State → Prop} {K : xK} {n0 : Nat} {ρ0 : Nat → Nat} {pc : Nat} {lo : xL} {sk : List xV} {w : List xC} {cs ss : Nat} {fa : xFa} {n : Nat} {H : Heap} {locs : List Loc} {ρ : Nat → Nat} {γ : Nat → ClassId} {ls : Array Slot} (IH : Gd L chk σ D l ih) (C : Cx L chk σ D l r p e s m args below meth c A Q K n0 ρ0) (V : Iv σ D s A r n0 ρ0 H locs ρ γ ls lo w fa) (hσ : σ 50 = σ 0 &&& 63) (hd : decode r.2.1 pc = .ok (.isub, n)) (h : xbin ih r pc lo sk w cs ss fa K n 1 = true) : W p l e (xrm r) s m args below meth c H locs cs ss Q (F0 m (pc) ls ((sk.map (dV ρ σ)))) := by
  refine ok_bin IH C V hσ (fun x y rest hn k => ?_) h
  subst hn
  exact lv_isub C.1 C.2.1 hd k
set_option maxHeartbeats 1000000 in
theorem ok_imul {L : Nat} {chk : xCk} {σ : Nat → Int32} {D : va_G} {l : Launch} {ih : xS} {r : xR} {p : Program} {e : Env} {s : State} {m : MethodId} {args : Array Value} {below : List Frame} {meth : Method} {c : Code} {A : Nat → Prop} {Q : State → Prop} {K : xK} {n0 : Nat} {ρ0 : Nat → Nat} {pc : Nat} {lo : xL} {sk : List xV} {w : List xC} {cs ss : Nat} {fa : xFa} {n : Nat} {H : Heap} {locs : List Loc} {ρ : Nat → Nat} {γ : Nat → ClassId} {ls : Array Slot} (IH : Gd L chk σ D l ih) (C : Cx L chk σ D l r p e s m args below meth c A Q K n0 ρ0) (V : Iv σ D s A r n0 ρ0 H locs ρ γ ls lo w fa) (hσ : σ 50 = σ 0 &&& 63) (hd : decode r.2.1 pc = .ok (.imul, n)) (h : xbin ih r pc lo sk w cs ss fa K n 2 = true) : W p l e (xrm r) s m args below meth c H locs cs ss Q (F0 m (pc) ls ((sk.map (dV ρ σ)))) := by
  refine ok_bin IH C V hσ (fun x y rest hn k => ?_) h
  subst hn
  exact lv_imul C.1 C.2.1 hd k
set_option maxHeartbeats 1000000 in
theorem ok_iand {L : Nat} {chk : xCk} {σ : Nat → Int32} {D : va_G} {l : Launch} {ih : xS} {r : xR} {p : Program} {e : Env} {s : State} {m : MethodId} {args : Array Value} {below : List Frame} {meth : Method} {c : Code} {A : Nat → Prop} {Q : State → Prop} {K : xK} {n0 : Nat} {ρ0 : Nat → Nat} {pc : Nat} {lo : xL} {sk : List xV} {w : List xC} {cs ss : Nat} {fa : xFa} {n : Nat} {H : Heap} {locs : List Loc} {ρ : Nat → Nat} {γ : Nat → ClassId} {ls : Array Slot} (IH : Gd L chk σ D l ih) (C : Cx L chk σ D l r p e s m args below meth c A Q K n0 ρ0) (V : Iv σ D s A r n0 ρ0 H locs ρ γ ls lo w fa) (hσ : σ 50 = σ 0 &&& 63) (hd : decode r.2.1 pc = .ok (.iand, n)) (h : xbin ih r pc lo sk w cs ss fa K n 3 = true) : W p l e (xrm r) s m args below meth c H locs cs ss Q (F0 m (pc) ls ((sk.map (dV ρ σ)))) := by
  refine ok_bin IH C V hσ (fun x y rest hn k => ?_) h
  subst hn
  exact lv_iand C.1 C.2.1 hd k
set_option maxHeartbeats 1000000 in
theorem ok_ior {L : Nat} {chk : xCk} {σ : Nat → Int32} {D : va_G} {l : Launch} {ih : xS} {r : xR} {p : Program} {e : Env} {s : State} {m : MethodId} {args : Array Value} {below : List Frame} {meth : Method} {c : Code} {A : Nat → Prop} {Q : State → Prop} {K : xK} {n0 : Nat} {ρ0 : Nat → Nat} {pc : Nat} {lo : xL} {sk : List xV} {w : List xC} {cs ss : Nat} {fa : xFa} {n : Nat} {H : Heap} {locs : List Loc} {ρ : Nat → Nat} {γ : Nat → ClassId} {ls : Array Slot} (IH : Gd L chk σ D l ih) (C : Cx L chk σ D l r p e s m args below meth c A Q K n0 ρ0) (V : Iv σ D s A r n0 ρ0 H locs ρ γ ls lo w fa) (hσ : σ 50 = σ 0 &&& 63) (hd : decode r.2.1 pc = .ok (.ior, n)) (h : xbin ih r pc lo sk w cs ss fa K n 4 = true) : W p l e (xrm r) s m args below meth c H locs cs ss Q (F0 m (pc) ls ((sk.map (dV ρ σ)))) := by
  refine ok_bin IH C V hσ (fun x y rest hn k => ?_) h
  subst hn
  exact lv_ior C.1 C.2.1 hd k
set_option maxHeartbeats 1000000 in
theorem ok_ixor {L : Nat} {chk : xCk} {σ : Nat → Int32} {D : va_G} {l : Launch} {ih : xS} {r : xR} {p : Program} {e : Env} {s : State} {m : MethodId} {args : Array Value} {below : List Frame} {meth : Method} {c : Code} {A : Nat → Prop} {Q : State → Prop} {K : xK} {n0 : Nat} {ρ0 : Nat → Nat} {pc : Nat} {lo : xL} {sk : List xV} {w : List xC} {cs ss : Nat} {fa : xFa} {n : Nat} {H : Heap} {locs : List Loc} {ρ : Nat → Nat} {γ : Nat → ClassId} {ls : Array Slot} (IH : Gd L chk σ D l ih) (C : Cx L chk σ D l r p e s m args below meth c A Q K n0 ρ0) (V : Iv σ D s A r n0 ρ0 H locs ρ γ ls lo w fa) (hσ : σ 50 = σ 0 &&& 63) (hd : decode r.2.1 pc = .ok (.ixor, n)) (h : xbin ih r pc lo sk w cs ss fa K n 5 = true) : W p l e (xrm r) s m args below meth c H locs cs ss Q (F0 m (pc) ls ((sk.map (dV ρ σ)))) := by
  refine ok_bin IH C V hσ (fun x y rest hn k => ?_) h
  subst hn
  exact lv_ixor C.1 C.2.1 hd k
set_option maxHeartbeats 1000000 in
theorem ok_ishl {L : Nat} {chk : xCk} {σ : Nat → Int32} {D : va_G} {l : Launch} {ih : xS} {r : xR} {p : Program} {e : Env} {s : State} {m : MethodId} {args : Array Value} {below : List Frame} {meth : Method} {c : Code} {A : Nat → Prop} {Q : State → Prop} {K : xK} {n0 : Nat} {ρ0 : Nat → Nat} {pc : Nat} {lo : xL} {sk : List xV} {w : List xC} {cs ss : Nat} {fa : xFa} {n : Nat} {H : Heap} {locs : List Loc} {ρ : Nat → Nat} {γ : Nat → ClassId} {ls : Array Slot} (IH : Gd L chk σ D l ih) (C : Cx L chk σ D l r p e s m args below meth c A Q K n0 ρ0) (V : Iv σ D s A r n0 ρ0 H locs ρ γ ls lo w fa) (hσ : σ 50 = σ 0 &&& 63) (hd : decode r.2.1 pc = .ok (.ishl, n)) (h : xbin ih r pc lo sk w cs ss fa K n 6 = true) : W p l e (xrm r) s m args below meth c H locs cs ss Q (F0 m (pc) ls ((sk.map (dV ρ σ)))) := by
  refine ok_bin IH C V hσ (fun x y rest hn k => ?_) h
  subst hn
  exact lv_ishl C.1 C.2.1 hd k
set_option maxHeartbeats 1000000 in
theorem ok_ishr {L : Nat} {chk : xCk} {σ : Nat → Int32} {D : va_G} {l : Launch} {ih : xS} {r : xR} {p : Program} {e : Env} {s : State} {m : MethodId} {args : Array Value} {below : List Frame} {meth : Method} {c : Code} {A : Nat → Prop} {Q : State → Prop} {K : xK} {n0 : Nat} {ρ0 : Nat → Nat} {pc : Nat} {lo : xL} {sk : List xV} {w : List xC} {cs ss : Nat} {fa : xFa} {n : Nat} {H : Heap} {locs : List Loc} {ρ : Nat → Nat} {γ : Nat → ClassId} {ls : Array Slot} (IH : Gd L chk σ D l ih) (C : Cx L chk σ D l r p e s m args below meth c A Q K n0 ρ0) (V : Iv σ D s A r n0 ρ0 H locs ρ γ ls lo w fa) (hσ : σ 50 = σ 0 &&& 63) (hd : decode r.2.1 pc = .ok (.ishr, n)) (h : xbin ih r pc lo sk w cs ss fa K n 7 = true) : W p l e (xrm r) s m args below meth c H locs cs ss Q (F0 m (pc) ls ((sk.map (dV ρ σ)))) := by
  refine ok_bin IH C V hσ (fun x y rest hn k => ?_) h
  subst hn
  exact lv_ishr C.1 C.2.1 hd k
set_option maxHeartbeats 1000000 in
theorem ok_iushr {L : Nat} {chk : xCk} {σ : Nat → Int32} {D : va_G} {l : Launch} {ih : xS} {r : xR} {p : Program} {e : Env} {s : State} {m : MethodId} {args : Array Value} {below : List Frame} {meth : Method} {c : Code} {A : Nat → Prop} {Q : State → Prop} {K : xK} {n0 : Nat} {ρ0 : Nat → Nat} {pc : Nat} {lo : xL} {sk : List xV} {w : List xC} {cs ss : Nat} {fa : xFa} {n : Nat} {H : Heap} {locs : List Loc} {ρ : Nat → Nat} {γ : Nat → ClassId} {ls : Array Slot} (IH : Gd L chk σ D l ih) (C : Cx L chk σ D l r p e s m args below meth c A Q K n0 ρ0) (V : Iv σ D s A r n0 ρ0 H locs ρ γ ls lo w fa) (hσ : σ 50 = σ 0 &&& 63) (hd : decode r.2.1 pc = .ok (.iushr, n)) (h : xbin ih r pc lo sk w cs ss fa K n 8 = true) : W p l e (xrm r) s m args below meth c H locs cs ss Q (F0 m (pc) ls ((sk.map (dV ρ σ)))) := by
  refine ok_bin IH C V hσ (fun x y rest hn k => ?_) h
  subst hn
  exact lv_iushr C.1 C.2.1 hd rfl k
set_option maxHeartbeats 1000000 in
theorem ok_idiv {L : Nat} {chk : xCk} {σ : Nat → Int32} {D : va_G} {l : Launch} {ih : xS} {r : xR} {p : Program} {e : Env} {s : State} {m : MethodId} {args : Array Value} {below : List Frame} {meth : Method} {c : Code} {A : Nat → Prop} {Q : State → Prop} {K : xK} {n0 : Nat} {ρ0 : Nat → Nat} {pc : Nat} {lo : xL} {sk : List xV} {w : List xC} {cs ss : Nat} {fa : xFa} {n : Nat} {H : Heap} {locs : List Loc} {ρ : Nat → Nat} {γ : Nat → ClassId} {ls : Array Slot} (IH : Gd L chk σ D l ih) (C : Cx L chk σ D l r p e s m args below meth c A Q K n0 ρ0) (V : Iv σ D s A r n0 ρ0 H locs ρ γ ls lo w fa) (hd : decode r.2.1 pc = .ok (.idiv, n)) (h : xdiv ih r pc lo sk w cs ss fa K n false = true) : W p l e (xrm r) s m args below meth c H locs cs ss Q (F0 m (pc) ls ((sk.map (dV ρ σ)))) := by
  unfold xdiv at h
  split at h
  · rename_i y x rest
    split at h
    · cases h
    · rename_i e
      obtain ⟨rfl, k⟩ := ok_push IH C V h
      refine lv_idiv C.1 C.2.1 hd (of_decide_eq_false e) ?_
      have e5 : dV ρ σ (.inl (.inl (Int32.ofInt x / Int32.ofInt y).toInt)) = .int (Int32.ofInt x / Int32.ofInt y) := congrArg Value.int (i32_of _)
      dsimp only at k
      rw [e5] at k
      exact k
  · cases h
set_option maxHeartbeats 1000000 in
theorem ok_irem {L : Nat} {chk : xCk} {σ : Nat → Int32} {D : va_G} {l : Launch} {ih : xS} {r : xR} {p : Program} {e : Env} {s : State} {m : MethodId} {args : Array Value} {below : List Frame} {meth : Method} {c : Code} {A : Nat → Prop} {Q : State → Prop} {K : xK} {n0 : Nat} {ρ0 : Nat → Nat} {pc : Nat} {lo : xL} {sk : List xV} {w : List xC} {cs ss : Nat} {fa : xFa} {n : Nat} {H : Heap} {locs : List Loc} {ρ : Nat → Nat} {γ : Nat → ClassId} {ls : Array Slot} (IH : Gd L chk σ D l ih) (C : Cx L chk σ D l r p e s m args below meth c A Q K n0 ρ0) (V : Iv σ D s A r n0 ρ0 H locs ρ γ ls lo w fa) (hd : decode r.2.1 pc = .ok (.irem, n)) (h : xdiv ih r pc lo sk w cs ss fa K n true = true) : W p l e (xrm r) s m args below meth c H locs cs ss Q (F0 m (pc) ls ((sk.map (dV ρ σ)))) := by
  unfold xdiv at h
  split at h
  · rename_i y x rest
    split at h
    · cases h
    · rename_i e
      obtain ⟨rfl, k⟩ := ok_push IH C V h
      refine lv_irem C.1 C.2.1 hd (of_decide_eq_false e) ?_
      have e5 : dV ρ σ (.inl (.inl (Int32.ofInt x - Int32.ofInt x / Int32.ofInt y * Int32.ofInt y).toInt)) = .int (Int32.ofInt x - Int32.ofInt x / Int32.ofInt y * Int32.ofInt y) := congrArg Value.int (i32_of _)
      dsimp only at k
      rw [e5] at k
      exact k
  · cases h
set_option maxHeartbeats 1000000 in
theorem ok_i2b {L : Nat} {chk : xCk} {σ : Nat → Int32} {D : va_G} {l : Launch} {ih : xS} {r : xR} {p : Program} {e : Env} {s : State} {m : MethodId} {args : Array Value} {below : List Frame} {meth : Method} {c : Code} {A : Nat → Prop} {Q : State → Prop} {K : xK} {n0 : Nat} {ρ0 : Nat → Nat} {pc : Nat} {lo : xL} {sk : List xV} {w : List xC} {cs ss : Nat} {fa : xFa} {n : Nat} {H : Heap} {locs : List Loc} {ρ : Nat → Nat} {γ : Nat → ClassId} {ls : Array Slot} (IH : Gd L chk σ D l ih) (C : Cx L chk σ D l r p e s m args below meth c A Q K n0 ρ0) (V : Iv σ D s A r n0 ρ0 H locs ρ γ ls lo w fa) (hd : decode r.2.1 pc = .ok (.i2b, n)) (h : xi2b ih r pc lo sk w cs ss fa K n = true) : W p l e (xrm r) s m args below meth c H locs cs ss Q (F0 m (pc) ls ((sk.map (dV ρ σ)))) := by
  unfold xi2b at h
  split at h
  · rename_i a rest
    obtain ⟨rfl, k⟩ := ok_push IH C V h
    exact lv_i2b C.1 C.2.1 hd rfl k
  · cases h
set_option maxHeartbeats 1000000 in
theorem ok_l2i {L : Nat} {chk : xCk} {σ : Nat → Int32} {D : va_G} {l : Launch} {ih : xS} {r : xR} {p : Program} {e : Env} {s : State} {m : MethodId} {args : Array Value} {below : List Frame} {meth : Method} {c : Code} {A : Nat → Prop} {Q : State → Prop} {K : xK} {n0 : Nat} {ρ0 : Nat → Nat} {pc : Nat} {lo : xL} {sk : List xV} {w : List xC} {cs ss : Nat} {fa : xFa} {n : Nat} {H : Heap} {locs : List Loc} {ρ : Nat → Nat} {γ : Nat → ClassId} {ls : Array Slot} (IH : Gd L chk σ D l ih) (C : Cx L chk σ D l r p e s m args below meth c A Q K n0 ρ0) (V : Iv σ D s A r n0 ρ0 H locs ρ γ ls lo w fa) (hd : decode r.2.1 pc = .ok (.l2i, n)) (h : xl2i ih r pc lo sk w cs ss fa K n = true) : W p l e (xrm r) s m args below meth c H locs cs ss Q (F0 m (pc) ls ((sk.map (dV ρ σ)))) := by
  unfold xl2i at h
  split at h
  · rename_i a rest
    obtain ⟨rfl, k⟩ := ok_push IH C V h
    exact lv_l2i C.1 C.2.1 hd (i32_of _).symm k
  · cases h
set_option maxHeartbeats 1000000 in
theorem ok_ladd {L : Nat} {chk : xCk} {σ : Nat → Int32} {D : va_G} {l : Launch} {ih : xS} {r : xR} {p : Program} {e : Env} {s : State} {m : MethodId} {args : Array Value} {below : List Frame} {meth : Method} {c : Code} {A : Nat → Prop} {Q : State → Prop} {K : xK} {n0 : Nat} {ρ0 : Nat → Nat} {pc : Nat} {lo : xL} {sk : List xV} {w : List xC} {cs ss : Nat} {fa : xFa} {n : Nat} {H : Heap} {locs : List Loc} {ρ : Nat → Nat} {γ : Nat → ClassId} {ls : Array Slot} (IH : Gd L chk σ D l ih) (C : Cx L chk σ D l r p e s m args below meth c A Q K n0 ρ0) (V : Iv σ D s A r n0 ρ0 H locs ρ γ ls lo w fa) (hd : decode r.2.1 pc = .ok (.ladd, n)) (h : xbinL ih r pc lo sk w cs ss fa K n (fun x y => x + y) = true) : W p l e (xrm r) s m args below meth c H locs cs ss Q (F0 m (pc) ls ((sk.map (dV ρ σ)))) := by
  unfold xbinL at h
  split at h
  · rename_i y x rest
    obtain ⟨rfl, k⟩ := ok_push IH C V h
    refine lv_ladd C.1 C.2.1 hd ?_
    have e5 : ∀ z : Int64, dV ρ σ (.inr (.inr z.toInt)) = .long z := fun z => congrArg Value.long (i64_of z)
    rw [e5] at k
    exact k
  · cases h
set_option maxHeartbeats 1000000 in
theorem ok_lsub {L : Nat} {chk : xCk} {σ : Nat → Int32} {D : va_G} {l : Launch} {ih : xS} {r : xR} {p : Program} {e : Env} {s : State} {m : MethodId} {args : Array Value} {below : List Frame} {meth : Method} {c : Code} {A : Nat → Prop} {Q : State → Prop} {K : xK} {n0 : Nat} {ρ0 : Nat → Nat} {pc : Nat} {lo : xL} {sk : List xV} {w : List xC} {cs ss : Nat} {fa : xFa} {n : Nat} {H : Heap} {locs : List Loc} {ρ : Nat → Nat} {γ : Nat → ClassId} {ls : Array Slot} (IH : Gd L chk σ D l ih) (C : Cx L chk σ D l r p e s m args below meth c A Q K n0 ρ0) (V : Iv σ D s A r n0 ρ0 H locs ρ γ ls lo w fa) (hd : decode r.2.1 pc = .ok (.lsub, n)) (h : xbinL ih r pc lo sk w cs ss fa K n (fun x y => x - y) = true) : W p l e (xrm r) s m args below meth c H locs cs ss Q (F0 m (pc) ls ((sk.map (dV ρ σ)))) := by
  unfold xbinL at h
  split at h
  · rename_i y x rest
    obtain ⟨rfl, k⟩ := ok_push IH C V h
    refine lv_lsub C.1 C.2.1 hd ?_
    have e5 : ∀ z : Int64, dV ρ σ (.inr (.inr z.toInt)) = .long z := fun z => congrArg Value.long (i64_of z)
    rw [e5] at k
    exact k
  · cases h
set_option maxHeartbeats 1000000 in
theorem ok_land {L : Nat} {chk : xCk} {σ : Nat → Int32} {D : va_G} {l : Launch} {ih : xS} {r : xR} {p : Program} {e : Env} {s : State} {m : MethodId} {args : Array Value} {below : List Frame} {meth : Method} {c : Code} {A : Nat → Prop} {Q : State → Prop} {K : xK} {n0 : Nat} {ρ0 : Nat → Nat} {pc : Nat} {lo : xL} {sk : List xV} {w : List xC} {cs ss : Nat} {fa : xFa} {n : Nat} {H : Heap} {locs : List Loc} {ρ : Nat → Nat} {γ : Nat → ClassId} {ls : Array Slot} (IH : Gd L chk σ D l ih) (C : Cx L chk σ D l r p e s m args below meth c A Q K n0 ρ0) (V : Iv σ D s A r n0 ρ0 H locs ρ γ ls lo w fa) (hd : decode r.2.1 pc = .ok (.land, n)) (h : xbinL ih r pc lo sk w cs ss fa K n (fun x y => x &&& y) = true) : W p l e (xrm r) s m args below meth c H locs cs ss Q (F0 m (pc) ls ((sk.map (dV ρ σ)))) := by
  unfold xbinL at h
  split at h
  · rename_i y x rest
    obtain ⟨rfl, k⟩ := ok_push IH C V h
    refine lv_land C.1 C.2.1 hd ?_
    have e5 : ∀ z : Int64, dV ρ σ (.inr (.inr z.toInt)) = .long z := fun z => congrArg Value.long (i64_of z)
    rw [e5] at k
    exact k
  · cases h
set_option maxHeartbeats 1000000 in
theorem ok_lshr {L : Nat} {chk : xCk} {σ : Nat → Int32} {D : va_G} {l : Launch} {ih : xS} {r : xR} {p : Program} {e : Env} {s : State} {m : MethodId} {args : Array Value} {below : List Frame} {meth : Method} {c : Code} {A : Nat → Prop} {Q : State → Prop} {K : xK} {n0 : Nat} {ρ0 : Nat → Nat} {pc : Nat} {lo : xL} {sk : List xV} {w : List xC} {cs ss : Nat} {fa : xFa} {n : Nat} {H : Heap} {locs : List Loc} {ρ : Nat → Nat} {γ : Nat → ClassId} {ls : Array Slot} (IH : Gd L chk σ D l ih) (C : Cx L chk σ D l r p e s m args below meth c A Q K n0 ρ0) (V : Iv σ D s A r n0 ρ0 H locs ρ γ ls lo w fa) (hd : decode r.2.1 pc = .ok (.lshr, n)) (h : xshL ih r pc lo sk w cs ss fa K n (fun x y => x >>> (y.toInt64 &&& 63)) = true) : W p l e (xrm r) s m args below meth c H locs cs ss Q (F0 m (pc) ls ((sk.map (dV ρ σ)))) := by
  unfold xshL at h
  split at h
  · rename_i y x rest
    obtain ⟨rfl, k⟩ := ok_push IH C V h
    exact lv_lshr C.1 C.2.1 hd (i64_of _).symm k
  · cases h
set_option maxHeartbeats 1000000 in
theorem ok_lushr {L : Nat} {chk : xCk} {σ : Nat → Int32} {D : va_G} {l : Launch} {ih : xS} {r : xR} {p : Program} {e : Env} {s : State} {m : MethodId} {args : Array Value} {below : List Frame} {meth : Method} {c : Code} {A : Nat → Prop} {Q : State → Prop} {K : xK} {n0 : Nat} {ρ0 : Nat → Nat} {pc : Nat} {lo : xL} {sk : List xV} {w : List xC} {cs ss : Nat} {fa : xFa} {n : Nat} {H : Heap} {locs : List Loc} {ρ : Nat → Nat} {γ : Nat → ClassId} {ls : Array Slot} (IH : Gd L chk σ D l ih) (C : Cx L chk σ D l r p e s m args below meth c A Q K n0 ρ0) (V : Iv σ D s A r n0 ρ0 H locs ρ γ ls lo w fa) (hd : decode r.2.1 pc = .ok (.lushr, n)) (h : xshL ih r pc lo sk w cs ss fa K n (fun x y => (x.toUInt64 >>> (y.toInt64.toUInt64 &&& Int64.toUInt64 63)).toInt64) = true) : W p l e (xrm r) s m args below meth c H locs cs ss Q (F0 m (pc) ls ((sk.map (dV ρ σ)))) := by
  unfold xshL at h
  split at h
  · rename_i y x rest
    obtain ⟨rfl, k⟩ := ok_push IH C V h
    exact lv_lushr C.1 C.2.1 hd (i64_of _).symm k
  · cases h
set_option maxHeartbeats 1000000 in
theorem ok_lcmp {L : Nat} {chk : xCk} {σ : Nat → Int32} {D : va_G} {l : Launch} {ih : xS} {r : xR} {p : Program} {e : Env} {s : State} {m : MethodId} {args : Array Value} {below : List Frame} {meth : Method} {c : Code} {A : Nat → Prop} {Q : State → Prop} {K : xK} {n0 : Nat} {ρ0 : Nat → Nat} {pc : Nat} {lo : xL} {sk : List xV} {w : List xC} {cs ss : Nat} {fa : xFa} {n : Nat} {H : Heap} {locs : List Loc} {ρ : Nat → Nat} {γ : Nat → ClassId} {ls : Array Slot} (IH : Gd L chk σ D l ih) (C : Cx L chk σ D l r p e s m args below meth c A Q K n0 ρ0) (V : Iv σ D s A r n0 ρ0 H locs ρ γ ls lo w fa) (hd : decode r.2.1 pc = .ok (.lcmp, n)) (h : xlcmp ih r pc lo sk w cs ss fa K n = true) : W p l e (xrm r) s m args below meth c H locs cs ss Q (F0 m (pc) ls ((sk.map (dV ρ σ)))) := by
  unfold xlcmp at h
  split at h
  · rename_i y x rest
    obtain ⟨rfl, k⟩ := ok_push IH C V h
    refine W.lcmp C.1 C.2.1 hd ?_
    have e5 : ∀ z : Int32, dV ρ σ (.inl (.inl z.toInt)) = .int z := fun z => congrArg Value.int (i32_of z)
    rw [e5] at k
    exact k
  · cases h
set_option maxHeartbeats 1000000 in
theorem ok_dup {L : Nat} {chk : xCk} {σ : Nat → Int32} {D : va_G} {l : Launch} {ih : xS} {r : xR} {p : Program} {e : Env} {s : State} {m : MethodId} {args : Array Value} {below : List Frame} {meth : Method} {c : Code} {A : Nat → Prop} {Q : State → Prop} {K : xK} {n0 : Nat} {ρ0 : Nat → Nat} {pc : Nat} {lo : xL} {sk : List xV} {w : List xC} {cs ss : Nat} {fa : xFa} {n : Nat} {H : Heap} {locs : List Loc} {ρ : Nat → Nat} {γ : Nat → ClassId} {ls : Array Slot} (IH : Gd L chk σ D l ih) (C : Cx L chk σ D l r p e s m args below meth c A Q K n0 ρ0) (V : Iv σ D s A r n0 ρ0 H locs ρ γ ls lo w fa) (hd : decode r.2.1 pc = .ok (.dup, n)) (h : xdup ih r pc lo sk w cs ss fa K n = true) : W p l e (xrm r) s m args below meth c H locs cs ss Q (F0 m (pc) ls ((sk.map (dV ρ σ)))) := by
  unfold xdup at h
  split at h
  · rename_i v rest
    rw [Bool.and_eq_true] at h
    obtain ⟨rfl, k⟩ := ok_push IH C V h.2
    exact lv_dup C.1 C.2.1 hd (xlg_cat h.1) k
  · cases h
set_option maxHeartbeats 1000000 in
theorem ok_pop {L : Nat} {chk : xCk} {σ : Nat → Int32} {D : va_G} {l : Launch} {ih : xS} {r : xR} {p : Program} {e : Env} {s : State} {m : MethodId} {args : Array Value} {below : List Frame} {meth : Method} {c : Code} {A : Nat → Prop} {Q : State → Prop} {K : xK} {n0 : Nat} {ρ0 : Nat → Nat} {pc : Nat} {lo : xL} {sk : List xV} {w : List xC} {cs ss : Nat} {fa : xFa} {n : Nat} {H : Heap} {locs : List Loc} {ρ : Nat → Nat} {γ : Nat → ClassId} {ls : Array Slot} (IH : Gd L chk σ D l ih) (C : Cx L chk σ D l r p e s m args below meth c A Q K n0 ρ0) (V : Iv σ D s A r n0 ρ0 H locs ρ γ ls lo w fa) (hd : decode r.2.1 pc = .ok (.pop, n)) (h : xpop ih r pc lo sk w cs ss fa K n = true) : W p l e (xrm r) s m args below meth c H locs cs ss Q (F0 m (pc) ls ((sk.map (dV ρ σ)))) := by
  unfold xpop at h
  split at h
  · rename_i v rest
    rw [Bool.and_eq_true, Bool.and_eq_true, fN_eq] at h
    obtain ⟨h1, h2, h3⟩ := h
    have h2 := Nat.eq_of_beq_eq_true h2
    subst h2
    exact lv_pop C.1 C.2.1 hd (xlg_cat h1) (IH _ _ _ _ _ _ _ _ _ _ _ _ _ _ C _ _ _ _ _ _ _ h3 H locs ρ γ ls V)
  · cases h
set_option maxHeartbeats 1000000 in
theorem ok_dup2 {L : Nat} {chk : xCk} {σ : Nat → Int32} {D : va_G} {l : Launch} {ih : xS} {r : xR} {p : Program} {e : Env} {s : State} {m : MethodId} {args : Array Value} {below : List Frame} {meth : Method} {c : Code} {A : Nat → Prop} {Q : State → Prop} {K : xK} {n0 : Nat} {ρ0 : Nat → Nat} {pc : Nat} {lo : xL} {sk : List xV} {w : List xC} {cs ss : Nat} {fa : xFa} {n : Nat} {H : Heap} {locs : List Loc} {ρ : Nat → Nat} {γ : Nat → ClassId} {ls : Array Slot} (IH : Gd L chk σ D l ih) (C : Cx L chk σ D l r p e s m args below meth c A Q K n0 ρ0) (V : Iv σ D s A r n0 ρ0 H locs ρ γ ls lo w fa) (hd : decode r.2.1 pc = .ok (.dup2, n)) (h : xdup2 ih r pc lo sk w cs ss fa K n = true) : W p l e (xrm r) s m args below meth c H locs cs ss Q (F0 m (pc) ls ((sk.map (dV ρ σ)))) := by
  unfold xdup2 at h
  split at h
  · rename_i v u rest
    rw [Bool.and_eq_true, Bool.and_eq_true] at h
    obtain ⟨rfl, k⟩ := ok_push IH C V h.2.2
    exact lv_dup2_11 C.1 C.2.1 hd (xlg_cat h.1) (xlg_cat h.2.1) k
  · cases h
set_option maxHeartbeats 1000000 in
theorem ok_ldc {L : Nat} {chk : xCk} {σ : Nat → Int32} {D : va_G} {l : Launch} {ih : xS} {r : xR} {p : Program} {e : Env} {s : State} {m : MethodId} {args : Array Value} {below : List Frame} {meth : Method} {c : Code} {A : Nat → Prop} {Q : State → Prop} {K : xK} {n0 : Nat} {ρ0 : Nat → Nat} {pc : Nat} {lo : xL} {sk : List xV} {w : List xC} {cs ss : Nat} {fa : xFa} {n : Nat} {H : Heap} {locs : List Loc} {ρ : Nat → Nat} {γ : Nat → ClassId} {ls : Array Slot} (IH : Gd L chk σ D l ih) (C : Cx L chk σ D l r p e s m args below meth c A Q K n0 ρ0) (V : Iv σ D s A r n0 ρ0 H locs ρ γ ls lo w fa) {x : Nat} (hd : decode r.2.1 pc = .ok (.ldc x, n)) (h : (match xfi (xki r.2.2.2.2.1) x with | some q => xpush ih r pc lo w cs ss fa K n 2 (.inl (.inl q.1)) sk | none => false) = true) : W p l e (xrm r) s m args below meth c H locs cs ss Q (F0 m (pc) ls ((sk.map (dV ρ σ)))) := by
  cases e : xfi (xki r.2.2.2.2.1) x with
  | none => rw [e] at h; cases h
  | some q =>
    rw [e] at h
    obtain ⟨rfl, k⟩ := ok_push IH C V h
    exact lv_ldc C.1 C.2.1 C.2.2.2.1 (C.2.2.2.2.1 _ (xki_ok _ _ _ (xfi_ok e))) hd k
set_option maxHeartbeats 1000000 in
theorem ok_ldc_w {L : Nat} {chk : xCk} {σ : Nat → Int32} {D : va_G} {l : Launch} {ih : xS} {r : xR} {p : Program} {e : Env} {s : State} {m : MethodId} {args : Array Value} {below : List Frame} {meth : Method} {c : Code} {A : Nat → Prop} {Q : State → Prop} {K : xK} {n0 : Nat} {ρ0 : Nat → Nat} {pc : Nat} {lo : xL} {sk : List xV} {w : List xC} {cs ss : Nat} {fa : xFa} {n : Nat} {H : Heap} {locs : List Loc} {ρ : Nat → Nat} {γ : Nat → ClassId} {ls : Array Slot} (IH : Gd L chk σ D l ih) (C : Cx L chk σ D l r p e s m args below meth c A Q K n0 ρ0) (V : Iv σ D s A r n0 ρ0 H locs ρ γ ls lo w fa) {x : Nat} (hd : decode r.2.1 pc = .ok (.ldc_w x, n)) (h : (match xfi (xki r.2.2.2.2.1) x with | some q => xpush ih r pc lo w cs ss fa K n 3 (.inl (.inl q.1)) sk | none => false) = true) : W p l e (xrm r) s m args below meth c H locs cs ss Q (F0 m (pc) ls ((sk.map (dV ρ σ)))) := by
  cases e : xfi (xki r.2.2.2.2.1) x with
  | none => rw [e] at h; cases h
  | some q =>
    rw [e] at h
    obtain ⟨rfl, k⟩ := ok_push IH C V h
    exact lv_ldcw C.1 C.2.1 C.2.2.2.1 (C.2.2.2.2.1 _ (xki_ok _ _ _ (xfi_ok e))) hd k
set_option maxHeartbeats 1000000 in
theorem ok_ldc2_w {L : Nat} {chk : xCk} {σ : Nat → Int32} {D : va_G} {l : Launch} {ih : xS} {r : xR} {p : Program} {e : Env} {s : State} {m : MethodId} {args : Array Value} {below : List Frame} {meth : Method} {c : Code} {A : Nat → Prop} {Q : State → Prop} {K : xK} {n0 : Nat} {ρ0 : Nat → Nat} {pc : Nat} {lo : xL} {sk : List xV} {w : List xC} {cs ss : Nat} {fa : xFa} {n : Nat} {H : Heap} {locs : List Loc} {ρ : Nat → Nat} {γ : Nat → ClassId} {ls : Array Slot} (IH : Gd L chk σ D l ih) (C : Cx L chk σ D l r p e s m args below meth c A Q K n0 ρ0) (V : Iv σ D s A r n0 ρ0 H locs ρ γ ls lo w fa) {x : Nat} (hd : decode r.2.1 pc = .ok (.ldc2_w x, n)) (h : (match xfi (xkl r.2.2.2.2.1) x with | some q => xpush ih r pc lo w cs ss fa K n 3 (.inr (.inr q.1)) sk | none => false) = true) : W p l e (xrm r) s m args below meth c H locs cs ss Q (F0 m (pc) ls ((sk.map (dV ρ σ)))) := by
  cases e : xfi (xkl r.2.2.2.2.1) x with
  | none => rw [e] at h; cases h
  | some q =>
    rw [e] at h
    obtain ⟨rfl, k⟩ := ok_push IH C V h
    exact lv_ldc2 C.1 C.2.1 C.2.2.2.1 (C.2.2.2.2.1 _ (xkl_ok _ _ _ (xfi_ok e))) hd k
