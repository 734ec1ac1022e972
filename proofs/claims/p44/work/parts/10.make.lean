def xnr : xV → Bool
  | .inr (.inl (some _)) => false
  | _ => true
theorem dV_nr {v : xV} (h : xnr v = true) (ρ ρ2 : Nat → Nat) (σ : Nat → Int32) : dV ρ2 σ v = dV ρ σ v := by
  rcases v with i | (_ | i) | z <;> first | rfl | cases h
theorem zero_all : (List.range 12).all (fun ci => (xzero ci).all xnr) = true := by decide +kernel
theorem zero_nr {ci : Nat} (h : ci < 12) (ρ ρ2 : Nat → Nat) (σ : Nat → Int32) : (xzero ci).map (dV ρ2 σ) = (xzero ci).map (dV ρ σ) := by
  apply List.map_congr_left
  intro v hv
  exact dV_nr (List.all_eq_true.mp (List.all_eq_true.mp zero_all ci (List.mem_range.mpr h)) v hv) ρ ρ2 σ
def ag (n : Nat) (ρ ρ2 : Nat → Nat) : Prop := ∀ i, i < n ∨ i = xz_SC → ρ2 i = ρ i
theorem dV_ag {n : Nat} {ρ ρ2 : Nat → Nat} (hag : ag n ρ ρ2) {v : xV} (h : xrf n v = true) (σ : Nat → Int32) : dV ρ2 σ v = dV ρ σ v := by
  rcases v with i | (_ | i) | z
  · rfl
  · rfl
  · show Value.ref (ρ2 i) = Value.ref (ρ i)
    have h : (Nat.blt i n || Nat.beq i xz_SC) = true := h
    rw [Bool.or_eq_true] at h
    rw [hag i (h.imp Nat.le_of_ble_eq_true Nat.eq_of_beq_eq_true)]
  · rfl
theorem mp_ag {n : Nat} {ρ ρ2 : Nat → Nat} (hag : ag n ρ ρ2) (σ : Nat → Int32) : ∀ {l : List xV}, xwS n l = true → l.map (dV ρ2 σ) = l.map (dV ρ σ) := by
  intro l
  induction l with
  | nil => intro _; rfl
  | cons v t ih =>
    intro h
    unfold xwS at h
    rw [Bool.and_eq_true] at h
    rw [List.map_cons, List.map_cons, dV_ag hag h.1, ih h.2]
theorem dL_ag {n : Nat} {ρ ρ2 : Nat → Nat} (hag : ag n ρ ρ2) (σ : Nat → Int32) : ∀ {l : xL}, xwL n l = true → dL ρ2 σ l = dL ρ σ l := by
  intro l
  induction l with
  | nil => intro _; rfl
  | cons v t ih =>
    intro h
    unfold xwL at h
    rw [Bool.and_eq_true] at h
    show (v.1, dV ρ2 σ v.2) :: dL ρ2 σ t = (v.1, dV ρ σ v.2) :: dL ρ σ t
    rw [dV_ag hag h.1, ih h.2]
theorem xwW_at {n : Nat} : ∀ {w : List xC}, xwW n w = true → ∀ {i : Nat} {q : Nat × List xV}, w[i]? = some (.inr q) → xwS n q.2 = true := by
  intro w
  induction w with
  | nil => intro _ i q h; cases h
  | cons c t ih =>
    intro h i q hi
    cases i with
    | zero =>
      cases hi
      unfold xwW at h
      rw [Bool.and_eq_true] at h
      exact h.1
    | succ i =>
      have h2 : xwW n t = true := by
        rcases c with c | c
        · exact h
        · unfold xwW at h
          rw [Bool.and_eq_true] at h
          exact h.2
      exact ih h2 (by simpa using hi)
theorem cw_ag {ρ ρ2 : Nat → Nat} {γ γ2 : Nat → ClassId} {σ : Nat → Int32} {w : List xC} (hag : ag w.length ρ ρ2) (hγ : ∀ i, i < w.length → γ2 i = γ i) (h : xwW w.length w = true) : cw ρ2 γ2 σ w = cw ρ γ σ w := by
  unfold cw
  apply List.ext_getElem?
  intro i
  rw [List.getElem?_mapIdx, List.getElem?_mapIdx]
  cases e : w[i]? with
  | none => rfl
  | some c =>
    have hi : i < w.length := (List.getElem?_eq_some_iff.mp e).1
    show some (dE ρ2 γ2 σ i c) = some (dE ρ γ σ i c)
    congr 1
    rcases c with ⟨ty, k, us | us⟩ | ⟨ci, fs⟩
    · show (ρ2 i, _) = (ρ i, _)
      rw [hag i (Or.inl hi), hγ i hi]
    · show (ρ2 i, _) = (ρ i, _)
      rw [hag i (Or.inl hi), hγ i hi]
    · show (ρ2 i, Sum.inr (ci, fs.map (dV ρ2 σ))) = (ρ i, Sum.inr (ci, fs.map (dV ρ σ)))
      rw [hag i (Or.inl hi), mp_ag hag σ (xwW_at h e)]
theorem cw_app {ρ : Nat → Nat} {γ : Nat → ClassId} {σ : Nat → Int32} {w : List xC} {c : xC} : cw ρ γ σ (w ++ [c]) = cw ρ γ σ w ++ [dE ρ γ σ w.length c] := by
  unfold cw
  exact List.mapIdx_concat
def xt {α : Type} (f : Nat → α) (n : Nat) (q : α) : Nat → α := fun i => if i = n then q else f i
theorem xt_ag {ρ : Nat → Nat} {n q : Nat} (hn : n < xz_SC) : ag n ρ (xt ρ n q) := by
  intro i hi
  unfold xt
  rw [if_neg]
  rcases hi with h | h <;> omega
theorem xt_at {α : Type} {f : Nat → α} {n : Nat} {q : α} : xt f n q n = q := by
  unfold xt
  rw [if_pos rfl]
theorem xt_lt {α : Type} {f : Nat → α} {n : Nat} {q : α} {i : Nat} (h : i < n) : xt f n q i = f i := by
  unfold xt
  rw [if_neg (by omega)]
theorem hT_app {s : State} {γ : Nat → ClassId} {w : List xC} {c : xC} {cA : ClassId} (h : ∀ (i : Nat) (ty : FieldType) (k : Nat) (us : List (Nat × xI) ⊕ List (Nat × Int)), w[i]? = some (.inl (ty, k, us)) → ArrOfT s (γ i) ty ∧ va_RA s (γ i) ty) (hc : ∀ (ty : FieldType) (k : Nat) (us : List (Nat × xI) ⊕ List (Nat × Int)), c = .inl (ty, k, us) → ArrOfT s cA ty ∧ va_RA s cA ty) : ∀ (i : Nat) (ty : FieldType) (k : Nat) (us : List (Nat × xI) ⊕ List (Nat × Int)), (w ++ [c])[i]? = some (.inl (ty, k, us)) → ArrOfT s (xt γ w.length cA i) ty ∧ va_RA s (xt γ w.length cA i) ty := by
  intro i ty k us hi
  by_cases hl : i < w.length
  · rw [List.getElem?_append_left hl] at hi
    rw [xt_lt hl]
    exact h i ty k us hi
  · rw [List.getElem?_append_right (by omega)] at hi
    have hz : i - w.length < 1 := (List.getElem?_eq_some_iff.mp hi).1
    have hi0 : i = w.length := by omega
    subst hi0
    rw [show w.length - w.length = 0 by omega] at hi
    rw [xt_at]
    exact hc ty k us (Option.some.inj hi)
set_option maxHeartbeats 1000000 in
theorem ok_made {L : Nat} {chk : xCk} {σ : Nat → Int32} {D : va_G} {l : Launch} {ih : xS} {r : xR} {p : Program} {e : Env} {s : State} {m : MethodId} {args : Array Value} {below : List Frame} {meth : Method} {c : Code} {A : Nat → Prop} {Q : State → Prop} {K : xK} {n0 : Nat} {ρ0 : Nat → Nat} {pc : Nat} {lo : xL} {w : List xC} {fa : xFa} {H : Heap} {locs : List Loc} {ρ : Nat → Nat} {γ : Nat → ClassId} {ls : Array Slot} (IH : Gd L chk σ D l ih) (C : Cx L chk σ D l r p e s m args below meth c A Q K n0 ρ0) (V : Iv σ D s A r n0 ρ0 H locs ρ γ ls lo w fa) {c0 : xC} {q : Nat} {cA : ClassId} {H1 : Heap} {cs2 ss2 d : Nat} {rest : List xV} (hsk : xwS w.length rest = true) (hlo : xwL w.length lo = true) (hw : xwW w.length w = true) (hn : w.length < xz_SC) (hc : ∀ (ty : FieldType) (k : Nat) (us : List (Nat × xI) ⊕ List (Nat × Int)), c0 = .inl (ty, k, us) → ArrOfT s cA ty ∧ va_RA s cA ty) (h : ih r (pc + d) lo (.inr (.inl (some w.length)) :: rest) (w ++ [c0]) cs2 ss2 fa K = true) (hP : va_P D vwCl (cw ρ γ σ w ++ [dE (xt ρ w.length q) (xt γ w.length cA) σ w.length c0]) H1) (hD : va_D A (cw ρ γ σ w ++ [dE (xt ρ w.length q) (xt γ w.length cA) σ w.length c0])) (hS : va_S A s.heap H1 locs) : W p l e (xrm r) s m args below meth c H1 locs cs2 ss2 Q (F0 m (pc + d) ls (.ref q :: rest.map (dV ρ σ))) := by
  have hag : ag w.length ρ (xt ρ w.length q) := xt_ag hn
  rw [← cw_ag hag (fun i hi => xt_lt (f := γ) (q := cA) hi) hw, ← cw_app] at hP hD
  have k := IH _ _ _ _ _ _ _ _ _ _ _ _ _ _ C _ _ _ _ _ _ _ h H1 locs (xt ρ w.length q) (xt γ w.length cA) ls ⟨⟨by rw [List.length_append]; exact Nat.le_trans V.1.1 (Nat.le_add_right _ _), fun i hi => by rw [hag i (hi.imp (fun z => Nat.lt_of_lt_of_le z V.1.1) id)]; exact V.1.2 i hi⟩, hT_app V.2.1 hc, hP, hD, hS, by rw [dL_ag hag σ hlo]; exact V.2.2.2.2.2.1, V.2.2.2.2.2.2⟩
  rw [List.map_cons, mp_ag hag σ hsk] at k
  have e5 : dV (xt ρ w.length q) σ (.inr (.inl (some w.length))) = .ref q := congrArg Value.ref xt_at
  rw [e5] at k
  exact k
set_option maxHeartbeats 1000000 in
theorem ok_new {L : Nat} {chk : xCk} {σ : Nat → Int32} {D : va_G} {l : Launch} {ih : xS} {r : xR} {p : Program} {e : Env} {s : State} {m : MethodId} {args : Array Value} {below : List Frame} {meth : Method} {c : Code} {A : Nat → Prop} {Q : State → Prop} {K : xK} {n0 : Nat} {ρ0 : Nat → Nat} {pc : Nat} {lo : xL} {sk : List xV} {w : List xC} {cs ss : Nat} {fa : xFa} {n : Nat} {H : Heap} {locs : List Loc} {ρ : Nat → Nat} {γ : Nat → ClassId} {ls : Array Slot} (IH : Gd L chk σ D l ih) (C : Cx L chk σ D l r p e s m args below meth c A Q K n0 ρ0) (V : Iv σ D s A r n0 ρ0 H locs ρ γ ls lo w fa) {x : Nat} (hd : decode r.2.1 pc = .ok (.new x, n)) (h : xnew ih r pc lo sk w cs ss fa K n x = true) : W p l e (xrm r) s m args below meth c H locs cs ss Q (F0 m (pc) ls ((sk.map (dV ρ σ)))) := by
  unfold xnew at h
  cases e1 : xfi (xcl r.2.2.2.2.1) x with
  | none => rw [e1] at h; cases h
  | some q =>
  rw [e1] at h
  dsimp only at h
  cases e2 : vwCl[q.1]? with
  | none => rw [e2] at h; cases h
  | some c9 =>
  obtain ⟨C1, T1, N1⟩ := c9
  rw [e2] at h
  dsimp only at h
  rw [Bool.and_eq_true, Bool.and_eq_true, Bool.and_eq_true, Bool.and_eq_true, Bool.and_eq_true, Bool.and_eq_true, Bool.and_eq_true, fApp_eq, fN_eq, fN_eq, fN_eq, fN_eq] at h
  obtain ⟨h1, h2, h3, h4, h5, h6, h7, h8⟩ := h
  have h1 := Nat.eq_of_beq_eq_true h1
  subst h1
  obtain ⟨b1, b2, b3⟩ := xcl_ok _ _ _ (xfi_ok e1) _ e2
  refine va_new (D := D) (cl := vwCl) (tys := []) (ci := q.1) (fs := (xzero q.1).map (dV ρ σ)) (C := C1) (T := T1) (N := N1) (Ts := xGd) C.1 C.2.1 C.2.2.2.2.1 (u_ok e2) (xty q.1) (fun k hk => (t_ok e2 k hk).1) C.2.2.2.1 (C.2.2.2.2.1 _ b1) (C.2.2.2.2.1 _ b2) (C.2.2.2.2.1 _ b3) C.2.2.2.2.2.1 V.2.2.1 V.2.2.2.1 V.2.2.2.2.1 C.2.2.2.2.2.2.1 e2 ?_ (Nat.le_of_ble_eq_true h2) (Nat.le_of_ble_eq_true h3) hd ?_
  · intro j hj
    have hz := (t_ok e2 j hj).2.1
    cases e3 : gt (xzero q.1) j with
    | none =>
      rw [e3] at hz
      exfalso
      revert hz
      cases xty q.1 j <;> exact fun hz => Bool.noConfusion hz
    | some v =>
      rw [e3] at hz
      rw [gt_eq] at e3
      show _ = ((xzero q.1).map (dV ρ σ)).getD j .null
      rw [List.getD_eq_getElem?_getD, List.getElem?_map, e3]
      exact okz_ok hz ρ σ
  · intro qn H1 hP hD hS
    have e5 : dE (xt ρ w.length qn) (xt γ w.length 0) σ w.length (.inr (q.1, xzero q.1)) = (qn, .inr (q.1, (xzero q.1).map (dV ρ σ))) := by
      show (xt ρ w.length qn w.length, Sum.inr (q.1, (xzero q.1).map (dV (xt ρ w.length qn) σ))) = _
      rw [xt_at, zero_nr (ci12 e2) ρ (xt ρ w.length qn) σ]
    rw [← e5] at hP hD
    exact ok_made IH C V h5 h6 h7 (Nat.le_of_ble_eq_true h4) (fun _ _ _ z => by cases z) h8 hP hD hS
set_option maxHeartbeats 1000000 in
theorem ok_newa {L : Nat} {chk : xCk} {σ : Nat → Int32} {D : va_G} {l : Launch} {ih : xS} {r : xR} {p : Program} {e : Env} {s : State} {m : MethodId} {args : Array Value} {below : List Frame} {meth : Method} {c : Code} {A : Nat → Prop} {Q : State → Prop} {K : xK} {n0 : Nat} {ρ0 : Nat → Nat} {pc : Nat} {lo : xL} {sk : List xV} {w : List xC} {cs ss : Nat} {fa : xFa} {n : Nat} {H : Heap} {locs : List Loc} {ρ : Nat → Nat} {γ : Nat → ClassId} {ls : Array Slot} (IH : Gd L chk σ D l ih) (C : Cx L chk σ D l r p e s m args below meth c A Q K n0 ρ0) (V : Iv σ D s A r n0 ρ0 H locs ρ γ ls lo w fa) {t : ArrayType} (hd : decode r.2.1 pc = .ok (.newarray t, n)) (h : xnewa ih r pc lo sk w cs ss fa K n t = true) : W p l e (xrm r) s m args below meth c H locs cs ss Q (F0 m (pc) ls ((sk.map (dV ρ σ)))) := by
  unfold xnewa at h
  split at h
  rotate_left
  · cases h
  rename_i z rest
  cases e1 : xaty t with
  | none => rw [e1] at h; cases h
  | some q =>
  rw [e1] at h
  dsimp only at h
  rw [Bool.and_eq_true, Bool.and_eq_true, Bool.and_eq_true, Bool.and_eq_true, Bool.and_eq_true, Bool.and_eq_true, Bool.and_eq_true, Bool.and_eq_true, Bool.and_eq_true, fN_eq, fApp_eq, fN_eq, fN_eq, fN_eq, fN_eq] at h
  obtain ⟨h1, h2, h3, h4, h5, h6, h7, h8, h9, h10⟩ := h
  have h1 := Nat.eq_of_beq_eq_true h1
  subst h1
  rw [decide_eq_true_eq] at h2 h3
  have hz : xin z = true := by
    unfold xin
    rw [Bool.and_eq_true, decide_eq_true_eq, decide_eq_true_eq]
    constructor <;> omega
  have ez := i32_in hz
  have hneg : ¬ Int32.ofInt z < 0 := by
    rw [Int32.lt_iff_toInt_lt, ez]
    show ¬ z < 0
    omega
  have hN : (Int32.ofInt z).toNatClampNeg = z.toNat := by
    show (Int32.ofInt z).toInt.toNat = z.toNat
    rw [ez]
  cases t <;> first | (cases e1; done) | cases e1
  · refine va_newa (D := D) (cl := vwCl) (tys := []) (atype := .boolean) (ty := .boolean) C.1 C.2.1 (C.2.2.2.2.1 _ a_boolean) rfl C.2.2.2.2.2.1 V.2.2.1 V.2.2.2.1 V.2.2.2.2.1 C.2.2.2.2.2.2.1 (N' := z.toNat) (a0 := (z.toNat, .inl (fun _ => Int32.ofInt 0))) (fun cA => by rw [show Int32.ofInt 0 = (0 : Int32) by decide]; rfl) hneg hN (by show z.toNat * 1 ≤ _; omega) (Nat.le_of_ble_eq_true h4) (Nat.le_of_ble_eq_true h5) hd ?_
    intro qn cA H1 hK hP hD hS
    exact ok_made (c0 := .inl (.boolean, z.toNat, .inl [])) (cA := cA) (q := qn) IH C V h7 h8 h9 (Nat.le_of_ble_eq_true h6) (fun ty k us e9 => by cases e9; exact hK.2 0 _ rfl) h10 (by rw [show dE (xt ρ w.length qn) (xt γ w.length cA) σ w.length (.inl (.boolean, z.toNat, .inl [])) = (qn, .inl (cA, z.toNat, .inl (fun _ => Int32.ofInt 0))) from by show (xt ρ w.length qn w.length, Sum.inl (xt γ w.length cA w.length, _)) = _; rw [xt_at, xt_at]; rfl]; exact hP) (by rw [show dE (xt ρ w.length qn) (xt γ w.length cA) σ w.length (.inl (.boolean, z.toNat, .inl [])) = (qn, .inl (cA, z.toNat, .inl (fun _ => Int32.ofInt 0))) from by show (xt ρ w.length qn w.length, Sum.inl (xt γ w.length cA w.length, _)) = _; rw [xt_at, xt_at]; rfl]; exact hD) hS
  · refine va_newa (D := D) (cl := vwCl) (tys := []) (atype := .byte) (ty := .byte) C.1 C.2.1 (C.2.2.2.2.1 _ a_byte) rfl C.2.2.2.2.2.1 V.2.2.1 V.2.2.2.1 V.2.2.2.2.1 C.2.2.2.2.2.2.1 (N' := z.toNat) (a0 := (z.toNat, .inl (fun _ => Int32.ofInt 0))) (fun cA => by rw [show Int32.ofInt 0 = (0 : Int32) by decide]; rfl) hneg hN (by show z.toNat * 1 ≤ _; omega) (Nat.le_of_ble_eq_true h4) (Nat.le_of_ble_eq_true h5) hd ?_
    intro qn cA H1 hK hP hD hS
    exact ok_made (c0 := .inl (.byte, z.toNat, .inl [])) (cA := cA) (q := qn) IH C V h7 h8 h9 (Nat.le_of_ble_eq_true h6) (fun ty k us e9 => by cases e9; exact hK.2 0 _ rfl) h10 (by rw [show dE (xt ρ w.length qn) (xt γ w.length cA) σ w.length (.inl (.byte, z.toNat, .inl [])) = (qn, .inl (cA, z.toNat, .inl (fun _ => Int32.ofInt 0))) from by show (xt ρ w.length qn w.length, Sum.inl (xt γ w.length cA w.length, _)) = _; rw [xt_at, xt_at]; rfl]; exact hP) (by rw [show dE (xt ρ w.length qn) (xt γ w.length cA) σ w.length (.inl (.byte, z.toNat, .inl [])) = (qn, .inl (cA, z.toNat, .inl (fun _ => Int32.ofInt 0))) from by show (xt ρ w.length qn w.length, Sum.inl (xt γ w.length cA w.length, _)) = _; rw [xt_at, xt_at]; rfl]; exact hD) hS
  · refine va_newa (D := D) (cl := vwCl) (tys := []) (atype := .int) (ty := .int) C.1 C.2.1 (C.2.2.2.2.1 _ a_int) rfl C.2.2.2.2.2.1 V.2.2.1 V.2.2.2.1 V.2.2.2.2.1 C.2.2.2.2.2.2.1 (N' := z.toNat) (a0 := (z.toNat, .inl (fun _ => Int32.ofInt 0))) (fun cA => by rw [show Int32.ofInt 0 = (0 : Int32) by decide]; rfl) hneg hN (by show z.toNat * 4 ≤ _; omega) (Nat.le_of_ble_eq_true h4) (Nat.le_of_ble_eq_true h5) hd ?_
    intro qn cA H1 hK hP hD hS
    exact ok_made (c0 := .inl (.int, z.toNat, .inl [])) (cA := cA) (q := qn) IH C V h7 h8 h9 (Nat.le_of_ble_eq_true h6) (fun ty k us e9 => by cases e9; exact hK.2 0 _ rfl) h10 (by rw [show dE (xt ρ w.length qn) (xt γ w.length cA) σ w.length (.inl (.int, z.toNat, .inl [])) = (qn, .inl (cA, z.toNat, .inl (fun _ => Int32.ofInt 0))) from by show (xt ρ w.length qn w.length, Sum.inl (xt γ w.length cA w.length, _)) = _; rw [xt_at, xt_at]; rfl]; exact hP) (by rw [show dE (xt ρ w.length qn) (xt γ w.length cA) σ w.length (.inl (.int, z.toNat, .inl [])) = (qn, .inl (cA, z.toNat, .inl (fun _ => Int32.ofInt 0))) from by show (xt ρ w.length qn w.length, Sum.inl (xt γ w.length cA w.length, _)) = _; rw [xt_at, xt_at]; rfl]; exact hD) hS
  · refine va_newa (D := D) (cl := vwCl) (tys := []) (atype := .long) (ty := .long) C.1 C.2.1 (C.2.2.2.2.1 _ a_long) rfl C.2.2.2.2.2.1 V.2.2.1 V.2.2.2.1 V.2.2.2.2.1 C.2.2.2.2.2.2.1 (N' := z.toNat) (a0 := (z.toNat, .inr (.inl (fun _ => Int64.ofInt 0)))) (fun cA => by rw [show Int64.ofInt 0 = (0 : Int64) by decide]; rfl) hneg hN (by show z.toNat * 8 ≤ _; omega) (Nat.le_of_ble_eq_true h4) (Nat.le_of_ble_eq_true h5) hd ?_
    intro qn cA H1 hK hP hD hS
    exact ok_made (c0 := .inl (.long, z.toNat, .inr [])) (cA := cA) (q := qn) IH C V h7 h8 h9 (Nat.le_of_ble_eq_true h6) (fun ty k us e9 => by cases e9; exact hK.2 0 _ rfl) h10 (by rw [show dE (xt ρ w.length qn) (xt γ w.length cA) σ w.length (.inl (.long, z.toNat, .inr [])) = (qn, .inl (cA, z.toNat, .inr (.inl (fun _ => Int64.ofInt 0)))) from by show (xt ρ w.length qn w.length, Sum.inl (xt γ w.length cA w.length, _)) = _; rw [xt_at, xt_at]; rfl]; exact hP) (by rw [show dE (xt ρ w.length qn) (xt γ w.length cA) σ w.length (.inl (.long, z.toNat, .inr [])) = (qn, .inl (cA, z.toNat, .inr (.inl (fun _ => Int64.ofInt 0)))) from by show (xt ρ w.length qn w.length, Sum.inl (xt γ w.length cA w.length, _)) = _; rw [xt_at, xt_at]; rfl]; exact hD) hS

def cpl (us vs : List (Nat × xI)) (sp dp : Nat) : Nat → List (Nat × xI)
  | 0 => vs
  | m + 1 => (dp + m, xlk us (sp + m)) :: cpl us vs sp dp m
theorem xcpyL_eq (us vs : List (Nat × xI)) (sp dp : Nat) : ∀ (m : Nat) (k : List (Nat × xI) → Bool), xcpyL us vs sp dp m k = k (cpl us vs sp dp m) := by
  intro m
  induction m with
  | zero => intro k; rfl
  | succ m ih =>
    intro k
    unfold xcpyL
    rw [ih, fN_eq, fI_eq]
    rfl
theorem cpl_lk (us vs : List (Nat × xI)) (sp dp : Nat) : ∀ (m j : Nat), xlk (cpl us vs sp dp m) j = if dp ≤ j ∧ j < dp + m then xlk us (sp + (j - dp)) else xlk vs j := by
  intro m
  induction m with
  | zero => intro j; rw [if_neg (by omega)]; rfl
  | succ m ih =>
    intro j
    show (match Nat.beq j (dp + m) with | true => xlk us (sp + m) | false => xlk (cpl us vs sp dp m) j) = _
    cases hb : Nat.beq j (dp + m) with
    | true =>
      have e := Nat.eq_of_beq_eq_true hb
      rw [if_pos (by omega)]
      show xlk us (sp + m) = _
      rw [show j - dp = m by omega]
    | false =>
      have e : j ≠ dp + m := fun z => by rw [z] at hb; rw [Nat.beq_refl] at hb; cases hb
      show xlk (cpl us vs sp dp m) j = _
      rw [ih j]
      by_cases h : dp ≤ j ∧ j < dp + m
      · rw [if_pos h, if_pos (by omega)]
      · rw [if_neg h, if_neg (by omega)]
theorem cats_eq (ρ : Nat → Nat) (σ : Nat → Int32) : ∀ l : List xV, ((l.map (dV ρ σ)).map fun v => v.category).sum = xcats l := by
  intro l
  induction l with
  | nil => rfl
  | cons v t ih =>
    show ((dV ρ σ v).category :: ((t.map (dV ρ σ)).map fun v => v.category)).sum = xcat v + xcats t
    rw [List.sum_cons, ih, dV_cat]
set_option maxHeartbeats 1000000 in
theorem ok_cpy {L : Nat} {chk : xCk} {σ : Nat → Int32} {D : va_G} {l : Launch} {ih : xS} {r : xR} {p : Program} {e : Env} {s : State} {m : MethodId} {args : Array Value} {below : List Frame} {meth : Method} {c : Code} {A : Nat → Prop} {Q : State → Prop} {K : xK} {n0 : Nat} {ρ0 : Nat → Nat} {pc : Nat} {lo : xL} {sk : List xV} {w : List xC} {cs ss : Nat} {fa : xFa} {n : Nat} {H : Heap} {locs : List Loc} {ρ : Nat → Nat} {γ : Nat → ClassId} {ls : Array Slot} (IH : Gd L chk σ D l ih) (C : Cx L chk σ D l r p e s m args below meth c A Q K n0 ρ0) (V : Iv σ D s A r n0 ρ0 H locs ρ γ ls lo w fa) {x : Nat} (hlink : (Jvm.Cond.methodLink (xnm r.2.2.2.2.1) x arraycopyName).before args s = true) (hd : decode r.2.1 pc = .ok (.invokestatic x, n)) (h : xcpy ih r pc lo sk w cs ss fa K n = true) : W p l e (xrm r) s m args below meth c H locs cs ss Q (F0 m (pc) ls ((sk.map (dV ρ σ)))) := by
  unfold xcpy at h
  split at h
  rotate_left
  · cases h
  rename_i m dp i sp j rest
  split at h
  rotate_left
  · cases h
  rename_i m0 us m1 vs e1 e2
  rw [Bool.and_eq_true, Bool.and_eq_true, Bool.and_eq_true, Bool.and_eq_true, Bool.and_eq_true, Bool.and_eq_true, Bool.and_eq_true, Bool.and_eq_true, Bool.and_eq_true, Bool.and_eq_true, Bool.and_eq_true, xcpyL_eq, fSet_eq, fN_eq] at h
  obtain ⟨h1, h2, h3, h4, h5, h6, h7, h8, h9, h10, h11, h12⟩ := h
  have h1 := Nat.eq_of_beq_eq_true h1
  subst h1
  rw [decide_eq_true_eq] at h5 h6 h7
  have cl : ∀ {z : Int}, xin z = true → 0 ≤ z → ¬ Int32.ofInt z < 0 ∧ (Int32.ofInt z).toNatClampNeg = z.toNat := by
    intro z hz h0
    have ez := i32_in hz
    constructor
    · rw [Int32.lt_iff_toInt_lt, ez]
      show ¬ z < 0
      omega
    · show (Int32.ofInt z).toInt.toNat = z.toNat
      rw [ez]
  obtain ⟨a1, a2⟩ := cl h2 h5
  obtain ⟨b1, b2⟩ := cl h3 h6
  obtain ⟨c1, c2⟩ := cl h4 h7
  have a2 : (dI σ (.inl m)).toNatClampNeg = m.toNat := a2
  have b2 : (dI σ (.inl dp)).toNatClampNeg = dp.toNat := b2
  have c2 : (dI σ (.inl sp)).toNatClampNeg = sp.toNat := c2
  have hT1 := V.2.1 j .int m0 _ (by rw [← gt_eq]; exact e1)
  have hT2 := V.2.1 i .int m1 _ (by rw [← gt_eq]; exact e2)
  have hk : va_K D vwCl [(γ j, .int), (γ i, .int)] s := ⟨C.2.2.2.2.2.1.1, fun k q hq => by
    cases k with
    | zero => cases hq; exact hT1
    | succ k =>
      cases k with
      | zero => cases hq; exact hT2
      | succ k => cases hq⟩
  refine va_copyi (D := D) (cl := vwCl) C.1 C.2.1 (by rw [C.2.2.1]; exact V.2.2.2.2.2.1.1.symm) C.2.2.2.1 hlink (C.2.2.2.2.1 _ w_an) (C.2.2.2.2.1 _ w_as) (C.2.2.2.2.1 _ w_si) hk V.2.2.1 V.2.2.2.1 V.2.2.2.2.1 j i 0 1 (cw_gt e1) (cw_gt e2) rfl rfl rfl c1 b1 a1 (by rw [c2, a2]; exact Nat.le_of_ble_eq_true h8) (by rw [b2, a2]; exact Nat.le_of_ble_eq_true h9) (fun _ _ => rfl) (Nat.le_of_ble_eq_true h10) (by rw [cats_eq]; exact Nat.le_trans (by show xcats rest + _ ≤ xcats rest + 20; exact Nat.add_le_add_left (by decide) _) (Nat.le_of_ble_eq_true h11)) hd ?_
  rw [a2, b2, c2]
  intro H1 locs1 hP hD hS
  have e5 : dE ρ γ σ i (.inl (.int, m1, .inl (cpl us vs sp.toNat dp.toNat m.toNat))) = (ρ i, .inl (γ i, m1, .inl (va_cpy (fun k => dI σ (xlk us k)) (fun k => dI σ (xlk vs k)) sp.toNat dp.toNat m.toNat))) := by
    show (ρ i, Sum.inl (γ i, m1, Sum.inl (fun k => dI σ (xlk (cpl us vs sp.toNat dp.toNat m.toNat) k)))) = _
    congr 5
    funext k
    rw [cpl_lk]
    unfold va_cpy
    split <;> rfl
  rw [cw_set e5] at hP hD
  rw [gt_eq] at e2
  exact IH _ _ _ _ _ _ _ _ _ _ _ _ _ _ C _ _ _ _ _ _ _ h12 H1 locs1 ρ γ ls ⟨⟨by rw [List.length_set]; exact V.1.1, V.1.2⟩, hT_arr V.2.1 e2, hP, hD, hS, V.2.2.2.2.2.1, V.2.2.2.2.2.2⟩
set_option maxHeartbeats 1000000 in
theorem ok_oi {L : Nat} {chk : xCk} {σ : Nat → Int32} {D : va_G} {l : Launch} {ih : xS} {r : xR} {p : Program} {e : Env} {s : State} {m : MethodId} {args : Array Value} {below : List Frame} {meth : Method} {c : Code} {A : Nat → Prop} {Q : State → Prop} {K : xK} {n0 : Nat} {ρ0 : Nat → Nat} {pc : Nat} {lo : xL} {sk : List xV} {w : List xC} {cs ss : Nat} {fa : xFa} {n : Nat} {H : Heap} {locs : List Loc} {ρ : Nat → Nat} {γ : Nat → ClassId} {ls : Array Slot} (IH : Gd L chk σ D l ih) (C : Cx L chk σ D l r p e s m args below meth c A Q K n0 ρ0) (V : Iv σ D s A r n0 ρ0 H locs ρ γ ls lo w fa) {x : Nat} {q : Nat × Nat × Nat × Nat × Nat} (hlink : (Jvm.Cond.methodLink (xnm r.2.2.2.2.1) x objectInit).before args s = true) (hd : decode r.2.1 pc = .ok (.invokespecial x, n)) (h : xoi ih r pc lo sk w cs ss fa K n q = true) : W p l e (xrm r) s m args below meth c H locs cs ss Q (F0 m (pc) ls ((sk.map (dV ρ σ)))) := by
  unfold xoi at h
  split at h
  rotate_left
  · cases h
  rename_i i rest
  rw [Bool.and_eq_true, Bool.and_eq_true, Bool.and_eq_true, fN_eq] at h
  obtain ⟨h1, h2, h3, h4⟩ := h
  have h1 := Nat.eq_of_beq_eq_true h1
  subst h1
  refine W.objInit C.1 C.2.1 C.2.2.2.1 hlink (C.2.2.2.2.1 _ w_oi) (C.2.2.2.2.1 _ w_oc) rfl (by rw [C.2.2.1]; exact V.2.2.2.2.2.1.1) rfl hd (Nat.le_of_ble_eq_true h2) (by show 2 * 0 + _ + 12 ≤ _; rw [cats_eq]; have := Nat.le_of_ble_eq_true h3; omega) ?_
  exact IH _ _ _ _ _ _ _ _ _ _ _ _ _ _ C _ _ _ _ _ _ _ h4 H locs ρ γ ls V
set_option maxHeartbeats 1000000 in
theorem ok_mmax {L : Nat} {chk : xCk} {σ : Nat → Int32} {D : va_G} {l : Launch} {ih : xS} {r : xR} {p : Program} {e : Env} {s : State} {m : MethodId} {args : Array Value} {below : List Frame} {meth : Method} {c : Code} {A : Nat → Prop} {Q : State → Prop} {K : xK} {n0 : Nat} {ρ0 : Nat → Nat} {pc : Nat} {lo : xL} {sk : List xV} {w : List xC} {cs ss : Nat} {fa : xFa} {n : Nat} {H : Heap} {locs : List Loc} {ρ : Nat → Nat} {γ : Nat → ClassId} {ls : Array Slot} (IH : Gd L chk σ D l ih) (C : Cx L chk σ D l r p e s m args below meth c A Q K n0 ρ0) (V : Iv σ D s A r n0 ρ0 H locs ρ γ ls lo w fa) {x : Nat} (hlink : (Jvm.Cond.methodLink (xnm r.2.2.2.2.1) x Lib.Math.max.name).before args s = true) (hd : decode r.2.1 pc = .ok (.invokestatic x, n)) (h : xmm ih r pc lo sk w cs ss fa K n true = true) : W p l e (xrm r) s m args below meth c H locs cs ss Q (F0 m (pc) ls ((sk.map (dV ρ σ)))) := by
  unfold xmm at h
  split at h
  rotate_left
  · cases h
  rename_i b a rest
  rw [Bool.and_eq_true, Bool.and_eq_true, Bool.and_eq_true, Bool.and_eq_true, Bool.and_eq_true] at h
  obtain ⟨h1, h2, h3, h4, h5, h6⟩ := h
  have h1 := Nat.eq_of_beq_eq_true h1
  subst h1
  refine va_mmax C.1 C.2.1 (by rw [C.2.2.1]; exact V.2.2.2.2.2.1.1.symm) C.2.2.2.1 hlink (C.2.2.2.2.1 _ w_xs) (C.2.2.2.2.1 _ w_mi) (C.2.2.2.2.1 _ w_xc) (Nat.le_of_ble_eq_true h2) (by rw [cats_eq]; exact Nat.le_of_ble_eq_true h3) (Nat.le_of_ble_eq_true h4) (Nat.le_of_ble_eq_true h5) hd ?_
  have q := xlt_ok V.2.2.2.2.2.2 h6
  by_cases z : dI σ a < dI σ b
  · obtain ⟨fa2, b1, b2⟩ := q.1 z
    dsimp only at b2
    rw [fN_eq] at b2
    rw [if_pos z]
    exact IH _ _ _ _ _ _ _ _ _ _ _ _ _ _ C _ _ _ _ _ _ _ b2 H locs ρ γ ls (V.fa b1)
  · obtain ⟨fa2, b1, b2⟩ := q.2 z
    dsimp only at b2
    rw [fN_eq] at b2
    rw [if_neg z]
    exact IH _ _ _ _ _ _ _ _ _ _ _ _ _ _ C _ _ _ _ _ _ _ b2 H locs ρ γ ls (V.fa b1)
set_option maxHeartbeats 1000000 in
theorem ok_mmin {L : Nat} {chk : xCk} {σ : Nat → Int32} {D : va_G} {l : Launch} {ih : xS} {r : xR} {p : Program} {e : Env} {s : State} {m : MethodId} {args : Array Value} {below : List Frame} {meth : Method} {c : Code} {A : Nat → Prop} {Q : State → Prop} {K : xK} {n0 : Nat} {ρ0 : Nat → Nat} {pc : Nat} {lo : xL} {sk : List xV} {w : List xC} {cs ss : Nat} {fa : xFa} {n : Nat} {H : Heap} {locs : List Loc} {ρ : Nat → Nat} {γ : Nat → ClassId} {ls : Array Slot} (IH : Gd L chk σ D l ih) (C : Cx L chk σ D l r p e s m args below meth c A Q K n0 ρ0) (V : Iv σ D s A r n0 ρ0 H locs ρ γ ls lo w fa) {x : Nat} (hlink : (Jvm.Cond.methodLink (xnm r.2.2.2.2.1) x Lib.Math.min.name).before args s = true) (hd : decode r.2.1 pc = .ok (.invokestatic x, n)) (h : xmm ih r pc lo sk w cs ss fa K n false = true) : W p l e (xrm r) s m args below meth c H locs cs ss Q (F0 m (pc) ls ((sk.map (dV ρ σ)))) := by
  unfold xmm at h
  split at h
  rotate_left
  · cases h
  rename_i b a rest
  rw [Bool.and_eq_true, Bool.and_eq_true, Bool.and_eq_true, Bool.and_eq_true, Bool.and_eq_true] at h
  obtain ⟨h1, h2, h3, h4, h5, h6⟩ := h
  have h1 := Nat.eq_of_beq_eq_true h1
  subst h1
  refine va_mmin C.1 C.2.1 (by rw [C.2.2.1]; exact V.2.2.2.2.2.1.1.symm) C.2.2.2.1 hlink (C.2.2.2.2.1 _ w_ns) (C.2.2.2.2.1 _ w_mi) (C.2.2.2.2.1 _ w_nc) (Nat.le_of_ble_eq_true h2) (by rw [cats_eq]; exact Nat.le_of_ble_eq_true h3) (Nat.le_of_ble_eq_true h4) (Nat.le_of_ble_eq_true h5) hd ?_
  have q := xlt_ok V.2.2.2.2.2.2 h6
  by_cases z : dI σ b < dI σ a
  · obtain ⟨fa2, b1, b2⟩ := q.1 z
    dsimp only at b2
    rw [fN_eq] at b2
    rw [if_pos z]
    exact IH _ _ _ _ _ _ _ _ _ _ _ _ _ _ C _ _ _ _ _ _ _ b2 H locs ρ γ ls (V.fa b1)
  · obtain ⟨fa2, b1, b2⟩ := q.2 z
    dsimp only at b2
    rw [fN_eq] at b2
    rw [if_neg z]
    exact IH _ _ _ _ _ _ _ _ _ _ _ _ _ _ C _ _ _ _ _ _ _ b2 H locs ρ γ ls (V.fa b1)
set_option maxHeartbeats 1000000 in
theorem ok_ret {L : Nat} {chk : xCk} {σ : Nat → Int32} {D : va_G} {l : Launch} {ih : xS} {r : xR} {p : Program} {e : Env} {s : State} {m : MethodId} {args : Array Value} {below : List Frame} {meth : Method} {c : Code} {A : Nat → Prop} {Q : State → Prop} {K : xK} {n0 : Nat} {ρ0 : Nat → Nat} {pc : Nat} {lo : xL} {sk : List xV} {w : List xC} {cs ss : Nat} {fa : xFa} {n : Nat} {H : Heap} {locs : List Loc} {ρ : Nat → Nat} {γ : Nat → ClassId} {ls : Array Slot} (IH : Gd L chk σ D l ih) (C : Cx L chk σ D l r p e s m args below meth c A Q K n0 ρ0) (V : Iv σ D s A r n0 ρ0 H locs ρ γ ls lo w fa) {v : Option xV} (hv : v.toList = sk) (hx : n = 1 → xrd σ r pc v) (h : xret r w cs ss fa K n v = true) : W p l e (xrm r) s m args below meth c H locs cs ss Q (F0 m (pc) ls ((sk.map (dV ρ σ)))) := by
  unfold xret at h
  rw [Bool.and_eq_true, Bool.and_eq_true, Bool.and_eq_true] at h
  obtain ⟨h1, h2, h3, h4⟩ := h
  rw [← hv]
  refine W.widen (k := (xrm r).cells) (n := (xrm r).slots) (Nat.le_of_ble_eq_true h2) (Nat.le_of_ble_eq_true h3) ?_
  exact C.2.2.2.2.2.2.2.2.2.2.2.2 pc fa v lo w H locs ρ γ ls V h4 (hx (Nat.eq_of_beq_eq_true h1))
set_option maxHeartbeats 1000000 in
theorem ok_ireturn {L : Nat} {chk : xCk} {σ : Nat → Int32} {D : va_G} {l : Launch} {ih : xS} {r : xR} {p : Program} {e : Env} {s : State} {m : MethodId} {args : Array Value} {below : List Frame} {meth : Method} {c : Code} {A : Nat → Prop} {Q : State → Prop} {K : xK} {n0 : Nat} {ρ0 : Nat → Nat} {pc : Nat} {lo : xL} {sk : List xV} {w : List xC} {cs ss : Nat} {fa : xFa} {n : Nat} {H : Heap} {locs : List Loc} {ρ : Nat → Nat} {γ : Nat → ClassId} {ls : Array Slot} (IH : Gd L chk σ D l ih) (C : Cx L chk σ D l r p e s m args below meth c A Q K n0 ρ0) (V : Iv σ D s A r n0 ρ0 H locs ρ γ ls lo w fa) (hd : decode r.2.1 pc = .ok (.ireturn, n)) (h : xreti r sk w cs ss fa K n = true) : W p l e (xrm r) s m args below meth c H locs cs ss Q (F0 m (pc) ls ((sk.map (dV ρ σ)))) := by
  unfold xreti at h
  split at h
  rotate_left
  · cases h
  rename_i a
  split at h
  · rename_i e1
    exact ok_ret IH C V rfl (fun hn => by subst hn; exact ⟨hd, .int, e1, rfl⟩) h
  · rename_i e1
    split at h
    · rename_i z
      rw [Bool.and_eq_true, Bool.or_eq_true, decide_eq_true_eq, decide_eq_true_eq] at h
      refine ok_ret IH C V rfl (fun hn => ?_) h.2
      subst hn
      refine ⟨hd, .boolean, e1, ?_⟩
      rcases h.1 with rfl | rfl
      · show narrow .boolean (.int (Int32.ofInt 0)) = .int (Int32.ofInt 0)
        decide
      · show narrow .boolean (.int (Int32.ofInt 1)) = .int (Int32.ofInt 1)
        decide
    · cases h
  · cases h
set_option maxHeartbeats 1000000 in
theorem ok_lreturn {L : Nat} {chk : xCk} {σ : Nat → Int32} {D : va_G} {l : Launch} {ih : xS} {r : xR} {p : Program} {e : Env} {s : State} {m : MethodId} {args : Array Value} {below : List Frame} {meth : Method} {c : Code} {A : Nat → Prop} {Q : State → Prop} {K : xK} {n0 : Nat} {ρ0 : Nat → Nat} {pc : Nat} {lo : xL} {sk : List xV} {w : List xC} {cs ss : Nat} {fa : xFa} {n : Nat} {H : Heap} {locs : List Loc} {ρ : Nat → Nat} {γ : Nat → ClassId} {ls : Array Slot} (IH : Gd L chk σ D l ih) (C : Cx L chk σ D l r p e s m args below meth c A Q K n0 ρ0) (V : Iv σ D s A r n0 ρ0 H locs ρ γ ls lo w fa) (hd : decode r.2.1 pc = .ok (.lreturn, n)) (h : xretl r sk w cs ss fa K n = true) : W p l e (xrm r) s m args below meth c H locs cs ss Q (F0 m (pc) ls ((sk.map (dV ρ σ)))) := by
  unfold xretl at h
  split at h
  rotate_left
  · cases h
  rename_i z
  split at h
  · rename_i e1
    exact ok_ret IH C V rfl (fun hn => by subst hn; exact ⟨hd, e1⟩) h
  · cases h
set_option maxHeartbeats 1000000 in
theorem ok_return_ {L : Nat} {chk : xCk} {σ : Nat → Int32} {D : va_G} {l : Launch} {ih : xS} {r : xR} {p : Program} {e : Env} {s : State} {m : MethodId} {args : Array Value} {below : List Frame} {meth : Method} {c : Code} {A : Nat → Prop} {Q : State → Prop} {K : xK} {n0 : Nat} {ρ0 : Nat → Nat} {pc : Nat} {lo : xL} {sk : List xV} {w : List xC} {cs ss : Nat} {fa : xFa} {n : Nat} {H : Heap} {locs : List Loc} {ρ : Nat → Nat} {γ : Nat → ClassId} {ls : Array Slot} (IH : Gd L chk σ D l ih) (C : Cx L chk σ D l r p e s m args below meth c A Q K n0 ρ0) (V : Iv σ D s A r n0 ρ0 H locs ρ γ ls lo w fa) (hd : decode r.2.1 pc = .ok (.return_, n)) (h : xretv r sk w cs ss fa K n = true) : W p l e (xrm r) s m args below meth c H locs cs ss Q (F0 m (pc) ls ((sk.map (dV ρ σ)))) := by
  unfold xretv at h
  split at h
  · rename_i e1
    exact ok_ret IH C V rfl (fun hn => by subst hn; exact ⟨hd, e1⟩) h
  · cases h
