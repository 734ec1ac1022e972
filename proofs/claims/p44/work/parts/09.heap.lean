set_option maxHeartbeats 1000000 in
theorem ok_go {L : Nat} {chk : xCk} {σ : Nat → Int32} {D : va_G} {l : Launch} {ih : xS} {r : xR} {p : Program} {e : Env} {s : State} {m : MethodId} {args : Array Value} {below : List Frame} {meth : Method} {c : Code} {A : Nat → Prop} {Q : State → Prop} {K : xK} {n0 : Nat} {ρ0 : Nat → Nat} {pc : Nat} {lo : xL} {w : List xC} {cs ss : Nat} {fa : xFa} {H : Heap} {locs : List Loc} {ρ : Nat → Nat} {γ : Nat → ClassId} {ls : Array Slot} (IH : Gd L chk σ D l ih) (C : Cx L chk σ D l r p e s m args below meth c A Q K n0 ρ0) {off : Int} {rest : List xV} (V : Iv σ D s A r n0 ρ0 H locs ρ γ ls lo w fa) (h : xgo ih r pc lo w cs ss K off rest fa = true) : ∃ tgt : Nat, (pc : Int) + off = (tgt : Int) ∧ W p l e (xrm r) s m args below meth c H locs cs ss Q (F0 m (tgt) ls (rest.map (dV ρ σ))) := by
  unfold xgo at h
  by_cases e2 : (pc : Int) + off < 0
  · rw [decide_eq_true e2] at h; cases h
  · rw [decide_eq_false e2] at h
    dsimp only at h
    rw [fN_eq] at h
    exact ⟨((pc : Int) + off).toNat, by omega, IH _ _ _ _ _ _ _ _ _ _ _ _ _ _ C _ _ _ _ _ _ _ h H locs ρ γ ls V⟩
set_option maxHeartbeats 1000000 in
theorem ok_on {L : Nat} {chk : xCk} {σ : Nat → Int32} {D : va_G} {l : Launch} {ih : xS} {r : xR} {p : Program} {e : Env} {s : State} {m : MethodId} {args : Array Value} {below : List Frame} {meth : Method} {c : Code} {A : Nat → Prop} {Q : State → Prop} {K : xK} {n0 : Nat} {ρ0 : Nat → Nat} {pc : Nat} {lo : xL} {w : List xC} {cs ss : Nat} {fa : xFa} {H : Heap} {locs : List Loc} {ρ : Nat → Nat} {γ : Nat → ClassId} {ls : Array Slot} (IH : Gd L chk σ D l ih) (C : Cx L chk σ D l r p e s m args below meth c A Q K n0 ρ0) {rest : List xV} (V : Iv σ D s A r n0 ρ0 H locs ρ γ ls lo w fa) (h : xon ih r pc lo w cs ss K rest fa = true) : W p l e (xrm r) s m args below meth c H locs cs ss Q (F0 m (pc + 3) ls (rest.map (dV ρ σ))) := by
  unfold xon at h
  rw [fN_eq] at h
  exact IH _ _ _ _ _ _ _ _ _ _ _ _ _ _ C _ _ _ _ _ _ _ h H locs ρ γ ls V
set_option maxHeartbeats 1000000 in
theorem ok_if2 {L : Nat} {chk : xCk} {σ : Nat → Int32} {D : va_G} {l : Launch} {ih : xS} {r : xR} {p : Program} {e : Env} {s : State} {m : MethodId} {args : Array Value} {below : List Frame} {meth : Method} {c : Code} {A : Nat → Prop} {Q : State → Prop} {K : xK} {n0 : Nat} {ρ0 : Nat → Nat} {pc : Nat} {lo : xL} {sk : List xV} {w : List xC} {cs ss : Nat} {fa : xFa} {n : Nat} {H : Heap} {locs : List Loc} {ρ : Nat → Nat} {γ : Nat → ClassId} {ls : Array Slot} (IH : Gd L chk σ D l ih) (C : Cx L chk σ D l r p e s m args below meth c A Q K n0 ρ0) (V : Iv σ D s A r n0 ρ0 H locs ρ γ ls lo w fa) {cnd : Jvm.ClassFile.Cond} {off : Int} (hd : decode r.2.1 pc = .ok (.if_icmp cnd off, n)) (h : xif2 ih r pc lo sk w cs ss fa K n cnd off = true) : W p l e (xrm r) s m args below meth c H locs cs ss Q (F0 m (pc) ls ((sk.map (dV ρ σ)))) := by
  unfold xif2 at h
  split at h
  rotate_left
  · cases h
  rename_i b a rest
  unfold xcmp at h
  rw [Bool.and_eq_true, Bool.and_eq_true, decide_eq_true_eq] at h
  obtain ⟨h1, h2, h⟩ := h
  have h1 := Nat.eq_of_beq_eq_true h1
  subst h1
  obtain ⟨tgt, ht⟩ : ∃ tgt : Nat, (pc : Int) + off = (tgt : Int) := ⟨((pc : Int) + off).toNat, by omega⟩
  cases cnd
  · have q := xeq_ok V.2.2.2.2.2.2 h
    refine lv_icmp_eq (tgt := tgt) C.1 C.2.1 hd ht (fun z => ?_) (fun z => ?_)
    · obtain ⟨fa', h1, h2⟩ := q.1 z
      obtain ⟨tg, h3, k⟩ := ok_go IH C (V.fa h1) h2
      have h3 : tg = tgt := by omega
      subst h3
      exact k
    · obtain ⟨fa', h1, h2⟩ := q.2 z
      exact ok_on IH C (V.fa h1) h2
  · have q := xeq_ok V.2.2.2.2.2.2 h
    refine lv_icmp_ne (tgt := tgt) C.1 C.2.1 hd ht (fun z => ?_) (fun z => ?_)
    · obtain ⟨fa', h1, h2⟩ := q.2 z
      obtain ⟨tg, h3, k⟩ := ok_go IH C (V.fa h1) h2
      have h3 : tg = tgt := by omega
      subst h3
      exact k
    · obtain ⟨fa', h1, h2⟩ := q.1 z
      exact ok_on IH C (V.fa h1) h2
  · have q := xlt_ok V.2.2.2.2.2.2 h
    refine lv_icmp_lt (tgt := tgt) C.1 C.2.1 hd ht (fun z => ?_) (fun z => ?_)
    · obtain ⟨fa', h1, h2⟩ := q.1 z
      obtain ⟨tg, h3, k⟩ := ok_go IH C (V.fa h1) h2
      have h3 : tg = tgt := by omega
      subst h3
      exact k
    · obtain ⟨fa', h1, h2⟩ := q.2 z
      exact ok_on IH C (V.fa h1) h2
  · have q := xlt_ok V.2.2.2.2.2.2 h
    refine lv_icmp_ge (tgt := tgt) C.1 C.2.1 hd ht (fun z => ?_) (fun z => ?_)
    · obtain ⟨fa', h1, h2⟩ := q.2 (Int32.not_lt.mpr z)
      obtain ⟨tg, h3, k⟩ := ok_go IH C (V.fa h1) h2
      have h3 : tg = tgt := by omega
      subst h3
      exact k
    · obtain ⟨fa', h1, h2⟩ := q.1 (Int32.not_le.mp z)
      exact ok_on IH C (V.fa h1) h2
  · have q := xlt_ok V.2.2.2.2.2.2 h
    refine lv_icmp_gt (tgt := tgt) C.1 C.2.1 hd ht (fun z => ?_) (fun z => ?_)
    · obtain ⟨fa', h1, h2⟩ := q.1 z
      obtain ⟨tg, h3, k⟩ := ok_go IH C (V.fa h1) h2
      have h3 : tg = tgt := by omega
      subst h3
      exact k
    · obtain ⟨fa', h1, h2⟩ := q.2 z
      exact ok_on IH C (V.fa h1) h2
  · have q := xlt_ok V.2.2.2.2.2.2 h
    refine lv_icmp_le (tgt := tgt) C.1 C.2.1 hd ht (fun z => ?_) (fun z => ?_)
    · obtain ⟨fa', h1, h2⟩ := q.2 (Int32.not_lt.mpr z)
      obtain ⟨tg, h3, k⟩ := ok_go IH C (V.fa h1) h2
      have h3 : tg = tgt := by omega
      subst h3
      exact k
    · obtain ⟨fa', h1, h2⟩ := q.1 (Int32.not_le.mp z)
      exact ok_on IH C (V.fa h1) h2

set_option maxHeartbeats 1000000 in
theorem ok_if1 {L : Nat} {chk : xCk} {σ : Nat → Int32} {D : va_G} {l : Launch} {ih : xS} {r : xR} {p : Program} {e : Env} {s : State} {m : MethodId} {args : Array Value} {below : List Frame} {meth : Method} {c : Code} {A : Nat → Prop} {Q : State → Prop} {K : xK} {n0 : Nat} {ρ0 : Nat → Nat} {pc : Nat} {lo : xL} {sk : List xV} {w : List xC} {cs ss : Nat} {fa : xFa} {n : Nat} {H : Heap} {locs : List Loc} {ρ : Nat → Nat} {γ : Nat → ClassId} {ls : Array Slot} (IH : Gd L chk σ D l ih) (C : Cx L chk σ D l r p e s m args below meth c A Q K n0 ρ0) (V : Iv σ D s A r n0 ρ0 H locs ρ γ ls lo w fa) {cnd : Jvm.ClassFile.Cond} {off : Int} (hd : decode r.2.1 pc = .ok (.ifCond cnd off, n)) (h : xif1 ih r pc lo sk w cs ss fa K n cnd off = true) : W p l e (xrm r) s m args below meth c H locs cs ss Q (F0 m (pc) ls ((sk.map (dV ρ σ)))) := by
  unfold xif1 at h
  split at h
  rotate_left
  · cases h
  rename_i a rest
  have z0 : dI σ (.inl 0) = 0 := by show Int32.ofInt 0 = 0; decide
  unfold xcmp at h
  rw [Bool.and_eq_true, Bool.and_eq_true, decide_eq_true_eq] at h
  obtain ⟨h1, h2, h⟩ := h
  have h1 := Nat.eq_of_beq_eq_true h1
  subst h1
  obtain ⟨tgt, ht⟩ : ∃ tgt : Nat, (pc : Int) + off = (tgt : Int) := ⟨((pc : Int) + off).toNat, by omega⟩
  cases cnd
  · have q := xeq_ok V.2.2.2.2.2.2 h
    rw [z0] at q
    refine lv_if_eq (tgt := tgt) C.1 C.2.1 hd ht (fun z => ?_) (fun z => ?_)
    · obtain ⟨fa', h1, h2⟩ := q.1 z
      obtain ⟨tg, h3, k⟩ := ok_go IH C (V.fa h1) h2
      have h3 : tg = tgt := by omega
      subst h3
      exact k
    · obtain ⟨fa', h1, h2⟩ := q.2 z
      exact ok_on IH C (V.fa h1) h2
  · have q := xeq_ok V.2.2.2.2.2.2 h
    rw [z0] at q
    refine lv_if_ne (tgt := tgt) C.1 C.2.1 hd ht (fun z => ?_) (fun z => ?_)
    · obtain ⟨fa', h1, h2⟩ := q.2 z
      obtain ⟨tg, h3, k⟩ := ok_go IH C (V.fa h1) h2
      have h3 : tg = tgt := by omega
      subst h3
      exact k
    · obtain ⟨fa', h1, h2⟩ := q.1 z
      exact ok_on IH C (V.fa h1) h2
  · have q := xlt_ok V.2.2.2.2.2.2 h
    rw [z0] at q
    refine lv_if_lt (tgt := tgt) C.1 C.2.1 hd ht (fun z => ?_) (fun z => ?_)
    · obtain ⟨fa', h1, h2⟩ := q.1 z
      obtain ⟨tg, h3, k⟩ := ok_go IH C (V.fa h1) h2
      have h3 : tg = tgt := by omega
      subst h3
      exact k
    · obtain ⟨fa', h1, h2⟩ := q.2 z
      exact ok_on IH C (V.fa h1) h2
  · have q := xlt_ok V.2.2.2.2.2.2 h
    rw [z0] at q
    refine lv_if_ge (tgt := tgt) C.1 C.2.1 hd ht (fun z => ?_) (fun z => ?_)
    · obtain ⟨fa', h1, h2⟩ := q.2 (Int32.not_lt.mpr z)
      obtain ⟨tg, h3, k⟩ := ok_go IH C (V.fa h1) h2
      have h3 : tg = tgt := by omega
      subst h3
      exact k
    · obtain ⟨fa', h1, h2⟩ := q.1 (Int32.not_le.mp z)
      exact ok_on IH C (V.fa h1) h2
  · have q := xlt_ok V.2.2.2.2.2.2 h
    rw [z0] at q
    refine lv_if_gt (tgt := tgt) C.1 C.2.1 hd ht (fun z => ?_) (fun z => ?_)
    · obtain ⟨fa', h1, h2⟩ := q.1 z
      obtain ⟨tg, h3, k⟩ := ok_go IH C (V.fa h1) h2
      have h3 : tg = tgt := by omega
      subst h3
      exact k
    · obtain ⟨fa', h1, h2⟩ := q.2 z
      exact ok_on IH C (V.fa h1) h2
  · have q := xlt_ok V.2.2.2.2.2.2 h
    rw [z0] at q
    refine lv_if_le (tgt := tgt) C.1 C.2.1 hd ht (fun z => ?_) (fun z => ?_)
    · obtain ⟨fa', h1, h2⟩ := q.2 (Int32.not_lt.mpr z)
      obtain ⟨tg, h3, k⟩ := ok_go IH C (V.fa h1) h2
      have h3 : tg = tgt := by omega
      subst h3
      exact k
    · obtain ⟨fa', h1, h2⟩ := q.1 (Int32.not_le.mp z)
      exact ok_on IH C (V.fa h1) h2

set_option maxHeartbeats 1000000 in
theorem ok_goto {L : Nat} {chk : xCk} {σ : Nat → Int32} {D : va_G} {l : Launch} {ih : xS} {r : xR} {p : Program} {e : Env} {s : State} {m : MethodId} {args : Array Value} {below : List Frame} {meth : Method} {c : Code} {A : Nat → Prop} {Q : State → Prop} {K : xK} {n0 : Nat} {ρ0 : Nat → Nat} {pc : Nat} {lo : xL} {sk : List xV} {w : List xC} {cs ss : Nat} {fa : xFa} {n : Nat} {H : Heap} {locs : List Loc} {ρ : Nat → Nat} {γ : Nat → ClassId} {ls : Array Slot} (IH : Gd L chk σ D l ih) (C : Cx L chk σ D l r p e s m args below meth c A Q K n0 ρ0) (V : Iv σ D s A r n0 ρ0 H locs ρ γ ls lo w fa) {off : Int} (hd : decode r.2.1 pc = .ok (.goto off, n)) (h : xgoto ih r pc lo sk w cs ss fa K n off = true) : W p l e (xrm r) s m args below meth c H locs cs ss Q (F0 m (pc) ls ((sk.map (dV ρ σ)))) := by
  unfold xgoto at h
  rw [Bool.and_eq_true] at h
  have h1 := Nat.eq_of_beq_eq_true h.1
  subst h1
  obtain ⟨tg, h3, k⟩ := ok_go IH C V h.2
  exact lv_goto C.1 C.2.1 hd h3 k
set_option maxHeartbeats 1000000 in
theorem ok_tabL {L : Nat} {chk : xCk} {σ : Nat → Int32} {D : va_G} {l : Launch} {ih : xS} {r : xR} {p : Program} {e : Env} {s : State} {m : MethodId} {args : Array Value} {below : List Frame} {meth : Method} {c : Code} {A : Nat → Prop} {Q : State → Prop} {K : xK} {n0 : Nat} {ρ0 : Nat → Nat} {pc : Nat} {lo : xL} {w : List xC} {cs ss : Nat} {fa : xFa} {H : Heap} {locs : List Loc} {ρ : Nat → Nat} {γ : Nat → ClassId} {ls : Array Slot} (IH : Gd L chk σ D l ih) (C : Cx L chk σ D l r p e s m args below meth c A Q K n0 ρ0) (V : Iv σ D s A r n0 ρ0 H locs ρ γ ls lo w fa) {j : Nat} {rest : List xV} (h1 : (xr fa j).1 ≤ (σ j).toInt) (h2 : (σ j).toInt ≤ (xr fa j).2.1) (h3 : ∀ n ∈ (xr fa j).2.2, (σ j).toInt ≠ n) : ∀ (offs : List Int) (k : Int), xtabL ih r pc lo w cs ss fa K j (xr fa j) rest k offs = true → ∀ d : Nat, (σ j).toInt = k + d → d < offs.length → ∃ (off : Int) (fa2 : xFa), offs[d]? = some off ∧ sat σ fa2 ∧ xgo ih r pc lo w cs ss K off rest fa2 = true := by
  intro offs
  induction offs with
  | nil => intro k _ d _ hd; cases hd
  | cons o1 t ih2 =>
    intro k h d hk hd
    unfold xtabL at h
    rw [Bool.and_eq_true, fZ_eq] at h
    cases d with
    | zero =>
      have e2 : (decide (k < (xr fa j).1) || decide ((xr fa j).2.1 < k)) = false := by
        rw [Bool.or_eq_false_iff, decide_eq_false_iff_not, decide_eq_false_iff_not]
        constructor <;> omega
      rw [e2] at h
      obtain ⟨fa2, a1, a2⟩ := xset_ok h.1 V.2.2.2.2.2.2 (by omega) (by omega) h3
      exact ⟨o1, fa2, rfl, a1, a2⟩
    | succ d =>
      obtain ⟨off, fa2, a1, a2, a3⟩ := ih2 (k + 1) h.2 d (by omega) (by simpa using hd)
      exact ⟨off, fa2, by simpa using a1, a2, a3⟩
set_option maxHeartbeats 1000000 in
theorem ok_tab {L : Nat} {chk : xCk} {σ : Nat → Int32} {D : va_G} {l : Launch} {ih : xS} {r : xR} {p : Program} {e : Env} {s : State} {m : MethodId} {args : Array Value} {below : List Frame} {meth : Method} {c : Code} {A : Nat → Prop} {Q : State → Prop} {K : xK} {n0 : Nat} {ρ0 : Nat → Nat} {pc : Nat} {lo : xL} {sk : List xV} {w : List xC} {cs ss : Nat} {fa : xFa} {n : Nat} {H : Heap} {locs : List Loc} {ρ : Nat → Nat} {γ : Nat → ClassId} {ls : Array Slot} (IH : Gd L chk σ D l ih) (C : Cx L chk σ D l r p e s m args below meth c A Q K n0 ρ0) (V : Iv σ D s A r n0 ρ0 H locs ρ γ ls lo w fa) {d lw hw : Int} {offs : Array Int} (hd : decode r.2.1 pc = .ok (.tableswitch d lw hw offs, n)) (h : xtab ih r pc lo sk w cs ss fa K d lw hw offs = true) : W p l e (xrm r) s m args below meth c H locs cs ss Q (F0 m (pc) ls ((sk.map (dV ρ σ)))) := by
  unfold xtab at h
  split at h
  · rename_i z rest
    rw [Bool.and_eq_true] at h
    obtain ⟨h1, h⟩ := h
    have hz : (dI σ (.inl z)).toInt = z := i32_in h1
    cases e2 : (decide (z < lw) || decide (hw < z)) with
    | true =>
      rw [e2] at h
      rw [Bool.or_eq_true, decide_eq_true_eq, decide_eq_true_eq] at e2
      obtain ⟨tg, h3, k⟩ := ok_go IH C V h
      exact lv_tableOut C.1 C.2.1 hd (by rw [hz]; exact e2) h3 k
    | false =>
      rw [e2] at h
      rw [Bool.or_eq_false_iff, decide_eq_false_iff_not, decide_eq_false_iff_not] at e2
      dsimp only at h
      cases e3 : gt offs.toList (z - lw).toNat with
      | none => rw [e3] at h; cases h
      | some o1 =>
        rw [e3] at h
        obtain ⟨tg, h3, k⟩ := ok_go IH C V h
        rw [gt_eq] at e3
        exact lv_tableIn C.1 C.2.1 hd (by rw [hz]; exact e2.1) (by rw [hz]; exact e2.2) (by rw [hz, ← Array.getElem?_toList]; exact e3) h3 k
  · rename_i j f rest
    rw [Bool.and_eq_true, Bool.and_eq_true, Bool.and_eq_true, Bool.and_eq_true, decide_eq_true_eq] at h
    obtain ⟨hj, hl, h1, h2, h3⟩ := h
    obtain ⟨g1, g2, g3⟩ := xr_ok V.2.2.2.2.2.2 j
    have ej : dV ρ σ (.inl (.inr (j, f))) = .int (σ j) := congrArg Value.int (dI_sym hj)
    rw [List.map_cons, ej]
    by_cases c1 : (σ j).toInt < lw
    · rw [decide_eq_true (show (xr fa j).1 < lw by omega)] at h1
      obtain ⟨fa2, a1, a2⟩ := xset_ok h1 V.2.2.2.2.2.2 g1 (by omega) g3
      obtain ⟨tg, b1, k⟩ := ok_go IH C (V.fa a1) a2
      exact lv_tableOut C.1 C.2.1 hd (Or.inl c1) b1 k
    · by_cases c2 : hw < (σ j).toInt
      · rw [decide_eq_true (show hw < (xr fa j).2.1 by omega)] at h2
        obtain ⟨fa2, a1, a2⟩ := xset_ok h2 V.2.2.2.2.2.2 (by omega) g2 g3
        obtain ⟨tg, b1, k⟩ := ok_go IH C (V.fa a1) a2
        exact lv_tableOut C.1 C.2.1 hd (Or.inr c2) b1 k
      · obtain ⟨off, fa2, a1, a2, a3⟩ := ok_tabL IH C V g1 g2 g3 _ _ h3 ((σ j).toInt - lw).toNat (by omega) (by omega)
        obtain ⟨tg, b1, k⟩ := ok_go IH C (V.fa a2) a3
        exact lv_tableIn C.1 C.2.1 hd c1 c2 (by rw [← Array.getElem?_toList]; exact a1) b1 k
  · cases h
theorem cw_get {ρ : Nat → Nat} {γ : Nat → ClassId} {σ : Nat → Int32} {w : List xC} {i : Nat} {x : xC} (h : w[i]? = some x) : (cw ρ γ σ w)[i]? = some (dE ρ γ σ i x) := by
  unfold cw
  rw [List.getElem?_mapIdx, h]
  rfl
theorem cw_gt {ρ : Nat → Nat} {γ : Nat → ClassId} {σ : Nat → Int32} {w : List xC} {i : Nat} {x : xC} (h : gt w i = some x) : (cw ρ γ σ w)[i]? = some (dE ρ γ σ i x) := by
  rw [gt_eq] at h
  exact cw_get h
theorem cw_set {ρ : Nat → Nat} {γ : Nat → ClassId} {σ : Nat → Int32} {w : List xC} {i : Nat} {x : xC} {y : Nat × va_E} (e : dE ρ γ σ i x = y) : (cw ρ γ σ w).set i y = cw ρ γ σ (w.set i x) := by
  subst e
  unfold cw
  apply List.ext_getElem?
  intro j
  rw [List.getElem?_set, List.getElem?_mapIdx, List.getElem?_mapIdx, List.getElem?_set, List.length_mapIdx]
  by_cases hj : i = j
  · subst hj
    simp only [if_true]
    split <;> rfl
  · rw [if_neg hj, if_neg hj]
theorem hT_obj {s : State} {γ : Nat → ClassId} {w : List xC} (h : ∀ (i : Nat) (ty : FieldType) (k : Nat) (us : List (Nat × xI) ⊕ List (Nat × Int)), w[i]? = some (.inl (ty, k, us)) → ArrOfT s (γ i) ty ∧ va_RA s (γ i) ty) {i0 : Nat} {q : Nat × List xV} : ∀ (i : Nat) (ty : FieldType) (k : Nat) (us : List (Nat × xI) ⊕ List (Nat × Int)), (w.set i0 (.inr q))[i]? = some (.inl (ty, k, us)) → ArrOfT s (γ i) ty ∧ va_RA s (γ i) ty := by
  intro i ty k us hi
  rw [List.getElem?_set] at hi
  by_cases e : i0 = i
  · rw [if_pos e] at hi
    split at hi <;> cases hi
  · rw [if_neg e] at hi
    exact h i ty k us hi
theorem hT_arr {s : State} {γ : Nat → ClassId} {w : List xC} (h : ∀ (i : Nat) (ty : FieldType) (k : Nat) (us : List (Nat × xI) ⊕ List (Nat × Int)), w[i]? = some (.inl (ty, k, us)) → ArrOfT s (γ i) ty ∧ va_RA s (γ i) ty) {i0 : Nat} {ty0 : FieldType} {k0 : Nat} {us0 us1 : List (Nat × xI) ⊕ List (Nat × Int)} (h0 : w[i0]? = some (.inl (ty0, k0, us0))) : ∀ (i : Nat) (ty : FieldType) (k : Nat) (us : List (Nat × xI) ⊕ List (Nat × Int)), (w.set i0 (.inl (ty0, k0, us1)))[i]? = some (.inl (ty, k, us)) → ArrOfT s (γ i) ty ∧ va_RA s (γ i) ty := by
  intro i ty k us hi
  rw [List.getElem?_set] at hi
  by_cases e : i0 = i
  · subst e
    rw [if_pos rfl] at hi
    split at hi
    · cases hi
      exact h _ _ _ _ h0
    · cases hi
  · rw [if_neg e] at hi
    exact h i ty k us hi
theorem kArr {D : va_G} {s : State} {cA : ClassId} {ty : FieldType} (hK : va_K D vwCl [] s) (h : ArrOfT s cA ty ∧ va_RA s cA ty) : va_K D vwCl [(cA, ty)] s := ⟨hK.1, fun k q hk => by
  cases k with
  | zero => cases hk; exact h
  | succ n => cases hk⟩
theorem xok_ok {ty : FieldType} {v : xV} (h : xok ty v = true) (ρ : Nat → Nat) (σ : Nat → Int32) : narrow ty (dV ρ σ v) = dV ρ σ v ∧ fits ty (dV ρ σ v) = true := by
  unfold xok at h
  split at h
  · exact ⟨rfl, rfl⟩
  · exact ⟨rfl, rfl⟩
  · rename_i q
    rcases q with _ | q <;> exact ⟨rfl, rfl⟩
  · rename_i q
    rcases q with _ | q <;> exact ⟨rfl, rfl⟩
  · cases h
theorem upd_xlk {σ : Nat → Int32} {us : List (Nat × xI)} {j : Nat} {v : xI} {x : Int32} (e : dI σ v = x) : upd (fun k => dI σ (xlk us k)) j x = fun k => dI σ (xlk ((j, v) :: us) k) := by
  funext k
  unfold upd
  show (if k = j then x else dI σ (xlk us k)) = dI σ (match Nat.beq k j with | true => v | false => xlk us k)
  by_cases h : k = j
  · rw [if_pos h, show Nat.beq k j = true by rw [h]; exact Nat.beq_refl j]
    exact e.symm
  · rw [if_neg h, show Nat.beq k j = false by
      cases hb : Nat.beq k j with
      | false => rfl
      | true => exact absurd (Nat.eq_of_beq_eq_true hb) h]
theorem upd_xlkL {us : List (Nat × Int)} {j : Nat} {v : Int} : vp_updL (fun k => Int64.ofInt (xlkL us k)) j (Int64.ofInt v) = fun k => Int64.ofInt (xlkL ((j, v) :: us) k) := by
  funext k
  unfold vp_updL
  show (if k = j then Int64.ofInt v else Int64.ofInt (xlkL us k)) = Int64.ofInt (match Nat.beq k j with | true => v | false => xlkL us k)
  by_cases h : k = j
  · rw [if_pos h, show Nat.beq k j = true by rw [h]; exact Nat.beq_refl j]
  · rw [if_neg h, show Nat.beq k j = false by
      cases hb : Nat.beq k j with
      | false => rfl
      | true => exact absurd (Nat.eq_of_beq_eq_true hb) h]
theorem ofZ_in {z : Int} {m : Nat} (h : xin z = true) (h0 : 0 ≤ z) (h1 : z < (m : Int)) : vp_in (Int32.ofInt z) m ∧ (Int32.ofInt z).toNatClampNeg = z.toNat := by
  have e := i32_in h
  refine ⟨vp_in_iff.mpr ⟨by rw [e]; exact h0, by rw [e]; exact h1⟩, ?_⟩
  show (Int32.ofInt z).toInt.toNat = z.toNat
  rw [e]
set_option maxHeartbeats 1000000 in
theorem ok_getf {L : Nat} {chk : xCk} {σ : Nat → Int32} {D : va_G} {l : Launch} {ih : xS} {r : xR} {p : Program} {e : Env} {s : State} {m : MethodId} {args : Array Value} {below : List Frame} {meth : Method} {c : Code} {A : Nat → Prop} {Q : State → Prop} {K : xK} {n0 : Nat} {ρ0 : Nat → Nat} {pc : Nat} {lo : xL} {sk : List xV} {w : List xC} {cs ss : Nat} {fa : xFa} {n : Nat} {H : Heap} {locs : List Loc} {ρ : Nat → Nat} {γ : Nat → ClassId} {ls : Array Slot} (IH : Gd L chk σ D l ih) (C : Cx L chk σ D l r p e s m args below meth c A Q K n0 ρ0) (V : Iv σ D s A r n0 ρ0 H locs ρ γ ls lo w fa) {x : Nat} (hd : decode r.2.1 pc = .ok (.getfield x, n)) (h : xgetf ih r pc lo sk w cs ss fa K n x = true) : W p l e (xrm r) s m args below meth c H locs cs ss Q (F0 m (pc) ls ((sk.map (dV ρ σ)))) := by
  unfold xgetf at h
  split at h
  rotate_left
  · cases h
  rename_i i rest
  cases e1 : xfi (xfl r.2.2.2.2.1) x with
  | none => rw [e1] at h; cases h
  | some q =>
  rw [e1] at h
  dsimp only at h
  split at h
  rotate_left
  · cases h
  rename_i ci fs e2
  cases e3 : gt fs q.2.1 with
  | none => rw [e3] at h; cases h
  | some v =>
  rw [e3] at h
  dsimp only at h
  rw [Bool.and_eq_true] at h
  have e4 := Nat.eq_of_beq_eq_true h.1
  subst e4
  obtain ⟨rfl, k⟩ := ok_push IH C V h.2
  obtain ⟨⟨C1, T1, N1⟩, b1, b2, b3⟩ := xfl_ok _ _ _ (xfi_ok e1)
  refine va_get (D := D) (cl := vwCl) (tys := []) (ci := q.1) (v := dV ρ σ v) (C := C1) (T := T1) (N := N1) (Ts := xGd) C.1 C.2.1 C.2.2.2.2.1 (u_ok b1) C.2.2.2.1 C.2.2.2.2.2.1 V.2.2.1 i (cw_gt e2) b1 q.2.1 b2 (C.2.2.2.2.1 _ b3) (fun _ h9 => h9) ?_ hd k
  rw [gt_eq] at e3
  rw [List.getElem?_map, e3]
  rfl
set_option maxHeartbeats 1000000 in
theorem ok_putf {L : Nat} {chk : xCk} {σ : Nat → Int32} {D : va_G} {l : Launch} {ih : xS} {r : xR} {p : Program} {e : Env} {s : State} {m : MethodId} {args : Array Value} {below : List Frame} {meth : Method} {c : Code} {A : Nat → Prop} {Q : State → Prop} {K : xK} {n0 : Nat} {ρ0 : Nat → Nat} {pc : Nat} {lo : xL} {sk : List xV} {w : List xC} {cs ss : Nat} {fa : xFa} {n : Nat} {H : Heap} {locs : List Loc} {ρ : Nat → Nat} {γ : Nat → ClassId} {ls : Array Slot} (IH : Gd L chk σ D l ih) (C : Cx L chk σ D l r p e s m args below meth c A Q K n0 ρ0) (V : Iv σ D s A r n0 ρ0 H locs ρ γ ls lo w fa) {x : Nat} (hd : decode r.2.1 pc = .ok (.putfield x, n)) (h : xputf ih r pc lo sk w cs ss fa K n x = true) : W p l e (xrm r) s m args below meth c H locs cs ss Q (F0 m (pc) ls ((sk.map (dV ρ σ)))) := by
  unfold xputf at h
  split at h
  rotate_left
  · cases h
  rename_i v i rest
  cases e1 : xfi (xfl r.2.2.2.2.1) x with
  | none => rw [e1] at h; cases h
  | some q =>
  rw [e1] at h
  dsimp only at h
  split at h
  rotate_left
  · cases h
  rename_i ci fs e2
  rw [Bool.and_eq_true, Bool.and_eq_true, Bool.and_eq_true, Bool.and_eq_true, Bool.and_eq_true, fSet_eq, fSet_eq, fN_eq] at h
  obtain ⟨h1, h2, h3, h4, h5, h6⟩ := h
  have h1 := Nat.eq_of_beq_eq_true h1
  have h2 := Nat.eq_of_beq_eq_true h2
  subst h1
  subst h2
  obtain ⟨⟨C1, T1, N1⟩, b1, b2, b3⟩ := xfl_ok _ _ _ (xfi_ok e1)
  obtain ⟨t1, t2, t3, t4⟩ := t_ok b1 q.2.1 b2
  obtain ⟨n1, n2⟩ := xok_ok h3 ρ σ
  have h4 : q.2.1 < fs.length := Nat.le_of_ble_eq_true h4
  have hl : q.2.1 < (fs.map (dV ρ σ)).length := by rw [List.length_map]; exact h4
  have kk : ∀ (H1 : Heap) (locs1 : List Loc), va_P D vwCl ((cw ρ γ σ w).set i (ρ i, .inr (q.1, (fs.map (dV ρ σ)).set q.2.1 (dV ρ σ v)))) H1 → va_D A ((cw ρ γ σ w).set i (ρ i, .inr (q.1, (fs.map (dV ρ σ)).set q.2.1 (dV ρ σ v)))) → va_S A s.heap H1 locs1 → W p l e (xrm r) s m args below meth c H1 locs1 cs ss Q (F0 m (pc + 3) ls (rest.map (dV ρ σ))) := by
    intro H1 locs1 hP hD hS
    have e5 : dE ρ γ σ i (.inr (q.1, fs.set q.2.1 v)) = (ρ i, .inr (q.1, (fs.map (dV ρ σ)).set q.2.1 (dV ρ σ v))) := by
      show (ρ i, Sum.inr (q.1, (fs.set q.2.1 v).map (dV ρ σ))) = _
      rw [List.map_set]
    rw [cw_set e5] at hP hD
    refine IH _ _ _ _ _ _ _ _ _ _ _ _ _ _ C _ _ _ _ _ _ _ h6 H1 locs1 ρ γ ls ⟨⟨by rw [List.length_set]; exact V.1.1, V.1.2⟩, hT_obj V.2.1, hP, hD, hS, V.2.2.2.2.2.1, V.2.2.2.2.2.2⟩
  cases hf : xfin q.1 q.2.1 with
  | false =>
    have hf2 : (T1 q.2.1).2.2.2 = false := by
      unfold xfin at hf
      rw [b1] at hf
      exact hf
    exact va_put (D := D) (cl := vwCl) (tys := []) (ci := q.1) (v := dV ρ σ v) (ty := xty q.1 q.2.1) (C := C1) (T := T1) (N := N1) (Ts := xGd) C.1 C.2.1 C.2.2.2.2.1 (u_ok b1) (xty q.1) (fun k hk => (t_ok b1 k hk).1) (n_ok b1) C.2.2.2.1 C.2.2.2.2.2.1 V.2.2.1 V.2.2.2.1 V.2.2.2.2.1 i (cw_gt e2) b1 q.2.1 b2 (C.2.2.2.2.1 _ b3) (fun _ h9 => h9) hf2 t1 n1 n2 hl hd kk
  | true =>
    have hf2 : (T1 q.2.1).2.2.2 = true := by
      unfold xfin at hf
      rw [b1] at hf
      exact hf
    rw [hf, Bool.not_true, Bool.false_or, Bool.and_eq_true] at h5
    have h7 := Nat.eq_of_beq_eq_true h5.2
    exact va_putF (D := D) (cl := vwCl) (tys := []) (ci := q.1) (v := dV ρ σ v) (ty := xty q.1 q.2.1) (C := C1) (T := T1) (N := N1) (Ts := xGd) C.1 C.2.1 C.2.2.2.2.1 (u_ok b1) (xty q.1) (fun k hk => (t_ok b1 k hk).1) (n_ok b1) C.2.2.2.1 C.2.2.2.2.2.1 V.2.2.1 V.2.2.2.1 V.2.2.2.2.1 i (cw_gt e2) b1 q.2.1 b2 (C.2.2.2.2.1 _ b3) (fun _ h9 => h9) hf2 (C.2.2.2.2.2.2.2.1 (of_decide_eq_true h5.1)) (by rw [h7]; exact t3.trans t4) t1 n1 n2 hl hd kk
set_option maxHeartbeats 1000000 in
theorem ok_len {L : Nat} {chk : xCk} {σ : Nat → Int32} {D : va_G} {l : Launch} {ih : xS} {r : xR} {p : Program} {e : Env} {s : State} {m : MethodId} {args : Array Value} {below : List Frame} {meth : Method} {c : Code} {A : Nat → Prop} {Q : State → Prop} {K : xK} {n0 : Nat} {ρ0 : Nat → Nat} {pc : Nat} {lo : xL} {sk : List xV} {w : List xC} {cs ss : Nat} {fa : xFa} {n : Nat} {H : Heap} {locs : List Loc} {ρ : Nat → Nat} {γ : Nat → ClassId} {ls : Array Slot} (IH : Gd L chk σ D l ih) (C : Cx L chk σ D l r p e s m args below meth c A Q K n0 ρ0) (V : Iv σ D s A r n0 ρ0 H locs ρ γ ls lo w fa) (hd : decode r.2.1 pc = .ok (.arraylength, n)) (h : xlen L ih r pc lo sk w cs ss fa K n = true) : W p l e (xrm r) s m args below meth c H locs cs ss Q (F0 m (pc) ls ((sk.map (dV ρ σ)))) := by
  unfold xlen at h
  split at h
  rotate_left
  · cases h
  rename_i i rest
  cases e1 : Nat.beq i xz_SC with
  | true =>
    rw [e1] at h
    dsimp only at h
    rw [Bool.and_eq_true] at h
    have e2 := Nat.eq_of_beq_eq_true e1
    obtain ⟨g1, g2, g3⟩ := C.2.2.2.2.2.2.2.2.2.2.1 (Nat.eq_of_beq_eq_true h.1)
    obtain ⟨rfl, k⟩ := ok_push IH C V h.2
    have e3 : ρ i = ρ0 xz_SC := by rw [e2]; exact V.1.2 xz_SC (Or.inr rfl)
    show W p l e (xrm r) s m args below meth c H locs cs ss Q (F0 m (pc) ls (.ref (ρ i) :: rest.map (dV ρ σ)))
    rw [e3]
    exact va_slen C.1 C.2.1 g1 g2 g3 V.2.2.2.2.1 hd k
  | false =>
    rw [e1] at h
    dsimp only at h
    split at h
    rotate_left
    · cases h
    rename_i ty m us e2
    obtain ⟨rfl, k⟩ := ok_push IH C V h
    have hT := V.2.1 i ty m us (by rw [← gt_eq]; exact e2)
    have hk := kArr C.2.2.2.2.2.1 hT
    rcases us with us | us
    · exact va_alen (D := D) (cl := vwCl) C.1 C.2.1 hk V.2.2.1 i 0 (cw_gt e2) rfl rfl hd k
    · exact va_alen (D := D) (cl := vwCl) C.1 C.2.1 hk V.2.2.1 i 0 (cw_gt e2) rfl rfl hd k
set_option maxHeartbeats 1000000 in
theorem ok_iaload {L : Nat} {chk : xCk} {σ : Nat → Int32} {D : va_G} {l : Launch} {ih : xS} {r : xR} {p : Program} {e : Env} {s : State} {m : MethodId} {args : Array Value} {below : List Frame} {meth : Method} {c : Code} {A : Nat → Prop} {Q : State → Prop} {K : xK} {n0 : Nat} {ρ0 : Nat → Nat} {pc : Nat} {lo : xL} {sk : List xV} {w : List xC} {cs ss : Nat} {fa : xFa} {n : Nat} {H : Heap} {locs : List Loc} {ρ : Nat → Nat} {γ : Nat → ClassId} {ls : Array Slot} (IH : Gd L chk σ D l ih) (C : Cx L chk σ D l r p e s m args below meth c A Q K n0 ρ0) (V : Iv σ D s A r n0 ρ0 H locs ρ γ ls lo w fa) (hd : decode r.2.1 pc = .ok (.iaload, n)) (h : xald L ih r pc lo sk w cs ss fa K n [.int] = true) : W p l e (xrm r) s m args below meth c H locs cs ss Q (F0 m (pc) ls ((sk.map (dV ρ σ)))) := by
  unfold xald at h
  split at h
  · rename_i z i rest
    cases e1 : Nat.beq i xz_SC with
    | true =>
      rw [e1] at h
      dsimp only at h
      rw [Bool.and_eq_true, Bool.and_eq_true, Bool.and_eq_true, Bool.and_eq_true, Bool.and_eq_true] at h
      obtain ⟨h1, h2, h3, h4, h5, h6⟩ := h
      have e2 := Nat.eq_of_beq_eq_true e1
      obtain ⟨g1, g2, g3⟩ := C.2.2.2.2.2.2.2.2.2.2.1 (Nat.eq_of_beq_eq_true h1)
      obtain ⟨rfl, k⟩ := ok_push IH C V h6
      have e3 : ρ i = ρ0 xz_SC := by rw [e2]; exact V.1.2 xz_SC (Or.inr rfl)
      show W p l e (xrm r) s m args below meth c H locs cs ss Q (F0 m (pc) ls (.int (Int32.ofInt z) :: .ref (ρ i) :: rest.map (dV ρ σ)))
      rw [e3]
      have h5 : z.toNat < 50 := Nat.le_of_ble_eq_true h5
      rw [decide_eq_true_eq] at h3 h4
      have hz : xin z = true := by
        unfold xin
        rw [Bool.and_eq_true, decide_eq_true_eq, decide_eq_true_eq]
        constructor <;> omega
      obtain ⟨v1, v2⟩ := ofZ_in hz h3 h4
      refine va_sld C.1 C.2.1 g1 g2 g3 V.2.2.2.2.1 v1 hd ?_
      rw [v2]
      have ej : dV ρ σ (.inl (.inr (z.toNat, fun _ => 0))) = .int (σ z.toNat) := congrArg Value.int (dI_sym (by show Nat.ble (z.toNat + 1) 100 = true; exact Nat.ble_eq_true_of_le (by omega)))
      rw [ej] at k
      exact k
    | false =>
    rw [e1] at h
    dsimp only at h
    split at h
    rotate_left
    · cases h
    rename_i ty m us e2
    rw [Bool.and_eq_true, Bool.and_eq_true, Bool.and_eq_true, Bool.and_eq_true] at h
    obtain ⟨h1, h2, h3, h4, h6⟩ := h
    rw [decide_eq_true_eq] at h3 h4
    obtain ⟨rfl, k⟩ := ok_push IH C V h6
    obtain ⟨v1, v2⟩ := ofZ_in h2 h3 h4
    have v2 : (dI σ (.inl z)).toNatClampNeg = z.toNat := v2
    have hk := kArr C.2.2.2.2.2.1 (V.2.1 i ty m _ (by rw [← gt_eq]; exact e2))
    have ht := List.mem_singleton.mp (of_decide_eq_true h1)
    subst ht
    refine va_iald (D := D) (cl := vwCl) C.1 C.2.1 hk V.2.2.1 i 0 (cw_gt e2) rfl v1 hd ?_
    rw [v2]
    exact k
  · rename_i q i rest
    rcases xcn_ok V.2.2.2.2.2.2 h with h | ⟨fa', z, h1, h2, h3⟩
    · cases h
    · have k := IH _ _ _ _ _ _ _ _ _ _ _ _ _ _ C _ _ _ _ _ _ _ h3 H locs ρ γ ls (V.fa h1)
      have e5 : dV ρ σ (.inl (.inl z)) = dV ρ σ (.inl (.inr q)) := congrArg Value.int h2
      rw [List.map_cons, e5] at k
      exact k
  · cases h
set_option maxHeartbeats 1000000 in
theorem ok_baload {L : Nat} {chk : xCk} {σ : Nat → Int32} {D : va_G} {l : Launch} {ih : xS} {r : xR} {p : Program} {e : Env} {s : State} {m : MethodId} {args : Array Value} {below : List Frame} {meth : Method} {c : Code} {A : Nat → Prop} {Q : State → Prop} {K : xK} {n0 : Nat} {ρ0 : Nat → Nat} {pc : Nat} {lo : xL} {sk : List xV} {w : List xC} {cs ss : Nat} {fa : xFa} {n : Nat} {H : Heap} {locs : List Loc} {ρ : Nat → Nat} {γ : Nat → ClassId} {ls : Array Slot} (IH : Gd L chk σ D l ih) (C : Cx L chk σ D l r p e s m args below meth c A Q K n0 ρ0) (V : Iv σ D s A r n0 ρ0 H locs ρ γ ls lo w fa) (hd : decode r.2.1 pc = .ok (.baload, n)) (h : xald L ih r pc lo sk w cs ss fa K n [.byte, .boolean] = true) : W p l e (xrm r) s m args below meth c H locs cs ss Q (F0 m (pc) ls ((sk.map (dV ρ σ)))) := by
  unfold xald at h
  split at h
  · rename_i z i rest
    cases e1 : Nat.beq i xz_SC with
    | true =>
      rw [e1] at h
      dsimp only at h
      rw [Bool.and_eq_true, Bool.and_eq_true] at h
      exact absurd (of_decide_eq_true h.2.1) (by decide)
    | false =>
    rw [e1] at h
    dsimp only at h
    split at h
    rotate_left
    · cases h
    rename_i ty m us e2
    rw [Bool.and_eq_true, Bool.and_eq_true, Bool.and_eq_true, Bool.and_eq_true] at h
    obtain ⟨h1, h2, h3, h4, h6⟩ := h
    rw [decide_eq_true_eq] at h3 h4
    obtain ⟨rfl, k⟩ := ok_push IH C V h6
    obtain ⟨v1, v2⟩ := ofZ_in h2 h3 h4
    have v2 : (dI σ (.inl z)).toNatClampNeg = z.toNat := v2
    have hk := kArr C.2.2.2.2.2.1 (V.2.1 i ty m _ (by rw [← gt_eq]; exact e2))
    rcases List.mem_cons.mp (of_decide_eq_true h1) with ht | ht
    · subst ht
      refine va_bald (D := D) (cl := vwCl) C.1 C.2.1 hk V.2.2.1 i 0 (cw_gt e2) rfl v1 hd ?_
      rw [v2]
      exact k
    · have ht := List.mem_singleton.mp ht
      subst ht
      refine va_zald (D := D) (cl := vwCl) C.1 C.2.1 hk V.2.2.1 i 0 (cw_gt e2) rfl v1 hd ?_
      rw [v2]
      exact k
  · rename_i q i rest
    rcases xcn_ok V.2.2.2.2.2.2 h with h | ⟨fa', z, h1, h2, h3⟩
    · cases h
    · have k := IH _ _ _ _ _ _ _ _ _ _ _ _ _ _ C _ _ _ _ _ _ _ h3 H locs ρ γ ls (V.fa h1)
      have e5 : dV ρ σ (.inl (.inl z)) = dV ρ σ (.inl (.inr q)) := congrArg Value.int h2
      rw [List.map_cons, e5] at k
      exact k
  · cases h
set_option maxHeartbeats 1000000 in
theorem ok_astK {L : Nat} {chk : xCk} {σ : Nat → Int32} {D : va_G} {l : Launch} {ih : xS} {r : xR} {p : Program} {e : Env} {s : State} {m : MethodId} {args : Array Value} {below : List Frame} {meth : Method} {c : Code} {A : Nat → Prop} {Q : State → Prop} {K : xK} {n0 : Nat} {ρ0 : Nat → Nat} {pc : Nat} {lo : xL} {w : List xC} {cs ss : Nat} {fa : xFa} {H : Heap} {locs : List Loc} {ρ : Nat → Nat} {γ : Nat → ClassId} {ls : Array Slot} (IH : Gd L chk σ D l ih) (C : Cx L chk σ D l r p e s m args below meth c A Q K n0 ρ0) (V : Iv σ D s A r n0 ρ0 H locs ρ γ ls lo w fa) {i k0 : Nat} {ty : FieldType} {us : List (Nat × xI)} {j : Nat} {v : xI} {rest : List xV} {x : Int32} (e2 : gt w i = some (.inl (ty, k0, .inl us))) (hx : dI σ v = x) (h : ih r (pc + 1) lo rest (w.set i (.inl (ty, k0, .inl ((j, v) :: us)))) cs ss fa K = true) : ∀ (H1 : Heap) (locs1 : List Loc), va_P D vwCl ((cw ρ γ σ w).set i (ρ i, .inl (γ i, k0, .inl (upd (fun k => dI σ (xlk us k)) j x)))) H1 → va_D A ((cw ρ γ σ w).set i (ρ i, .inl (γ i, k0, .inl (upd (fun k => dI σ (xlk us k)) j x)))) → va_S A s.heap H1 locs1 → W p l e (xrm r) s m args below meth c H1 locs1 cs ss Q (F0 m (pc + 1) ls (rest.map (dV ρ σ))) := by
  intro H1 locs1 hP hD hS
  have e5 : dE ρ γ σ i (.inl (ty, k0, .inl ((j, v) :: us))) = (ρ i, .inl (γ i, k0, .inl (upd (fun k => dI σ (xlk us k)) j x))) := by
    rw [upd_xlk hx]
    rfl
  rw [cw_set e5] at hP hD
  rw [gt_eq] at e2
  exact IH _ _ _ _ _ _ _ _ _ _ _ _ _ _ C _ _ _ _ _ _ _ h H1 locs1 ρ γ ls ⟨⟨by rw [List.length_set]; exact V.1.1, V.1.2⟩, hT_arr V.2.1 e2, hP, hD, hS, V.2.2.2.2.2.1, V.2.2.2.2.2.2⟩
set_option maxHeartbeats 1000000 in
theorem ok_iastore {L : Nat} {chk : xCk} {σ : Nat → Int32} {D : va_G} {l : Launch} {ih : xS} {r : xR} {p : Program} {e : Env} {s : State} {m : MethodId} {args : Array Value} {below : List Frame} {meth : Method} {c : Code} {A : Nat → Prop} {Q : State → Prop} {K : xK} {n0 : Nat} {ρ0 : Nat → Nat} {pc : Nat} {lo : xL} {sk : List xV} {w : List xC} {cs ss : Nat} {fa : xFa} {n : Nat} {H : Heap} {locs : List Loc} {ρ : Nat → Nat} {γ : Nat → ClassId} {ls : Array Slot} (IH : Gd L chk σ D l ih) (C : Cx L chk σ D l r p e s m args below meth c A Q K n0 ρ0) (V : Iv σ D s A r n0 ρ0 H locs ρ γ ls lo w fa) (hd : decode r.2.1 pc = .ok (.iastore, n)) (h : xast ih r pc lo sk w cs ss fa K n [.int] = true) : W p l e (xrm r) s m args below meth c H locs cs ss Q (F0 m (pc) ls ((sk.map (dV ρ σ)))) := by
  unfold xast at h
  split at h
  · rename_i v z i rest
    split at h
    rotate_left
    · cases h
    rename_i ty m us e2
    cases e3 : xnar ty v with
    | none => rw [e3] at h; cases h
    | some v2 =>
    rw [e3] at h
    dsimp only at h
    rw [Bool.and_eq_true, Bool.and_eq_true, Bool.and_eq_true, Bool.and_eq_true, Bool.and_eq_true, fI_eq, fN_eq, fSet_eq, fN_eq] at h
    obtain ⟨h0, h1, h2, h3, h4, h6⟩ := h
    have h0 := Nat.eq_of_beq_eq_true h0
    subst h0
    rw [decide_eq_true_eq] at h3 h4
    obtain ⟨v1, v2⟩ := ofZ_in h2 h3 h4
    have v2 : (dI σ (.inl z)).toNatClampNeg = z.toNat := v2
    have hk := kArr C.2.2.2.2.2.1 (V.2.1 i ty m _ (by rw [← gt_eq]; exact e2))
    have ht := List.mem_singleton.mp (of_decide_eq_true h1)
    subst ht
    cases e3
    refine va_iast (D := D) (cl := vwCl) C.1 C.2.1 hk V.2.2.1 V.2.2.2.1 V.2.2.2.2.1 i 0 (cw_gt e2) rfl v1 hd ?_
    rw [v2]
    exact ok_astK IH C V e2 rfl h6
  · rename_i v q i rest
    rcases xcn_ok V.2.2.2.2.2.2 h with h | ⟨fa', z, h1, h2, h3⟩
    · cases h
    · have k := IH _ _ _ _ _ _ _ _ _ _ _ _ _ _ C _ _ _ _ _ _ _ h3 H locs ρ γ ls (V.fa h1)
      have e5 : dV ρ σ (.inl (.inl z)) = dV ρ σ (.inl (.inr q)) := congrArg Value.int h2
      rw [List.map_cons, List.map_cons, e5] at k
      exact k
  · cases h
set_option maxHeartbeats 1000000 in
theorem ok_bastore {L : Nat} {chk : xCk} {σ : Nat → Int32} {D : va_G} {l : Launch} {ih : xS} {r : xR} {p : Program} {e : Env} {s : State} {m : MethodId} {args : Array Value} {below : List Frame} {meth : Method} {c : Code} {A : Nat → Prop} {Q : State → Prop} {K : xK} {n0 : Nat} {ρ0 : Nat → Nat} {pc : Nat} {lo : xL} {sk : List xV} {w : List xC} {cs ss : Nat} {fa : xFa} {n : Nat} {H : Heap} {locs : List Loc} {ρ : Nat → Nat} {γ : Nat → ClassId} {ls : Array Slot} (IH : Gd L chk σ D l ih) (C : Cx L chk σ D l r p e s m args below meth c A Q K n0 ρ0) (V : Iv σ D s A r n0 ρ0 H locs ρ γ ls lo w fa) (hd : decode r.2.1 pc = .ok (.bastore, n)) (h : xast ih r pc lo sk w cs ss fa K n [.byte, .boolean] = true) : W p l e (xrm r) s m args below meth c H locs cs ss Q (F0 m (pc) ls ((sk.map (dV ρ σ)))) := by
  unfold xast at h
  split at h
  · rename_i v z i rest
    split at h
    rotate_left
    · cases h
    rename_i ty m us e2
    cases e3 : xnar ty v with
    | none => rw [e3] at h; cases h
    | some v2 =>
    rw [e3] at h
    dsimp only at h
    rw [Bool.and_eq_true, Bool.and_eq_true, Bool.and_eq_true, Bool.and_eq_true, Bool.and_eq_true, fI_eq, fN_eq, fSet_eq, fN_eq] at h
    obtain ⟨h0, h1, h2, h3, h4, h6⟩ := h
    have h0 := Nat.eq_of_beq_eq_true h0
    subst h0
    rw [decide_eq_true_eq] at h3 h4
    obtain ⟨v1, v2⟩ := ofZ_in h2 h3 h4
    have v2 : (dI σ (.inl z)).toNatClampNeg = z.toNat := v2
    have hk := kArr C.2.2.2.2.2.1 (V.2.1 i ty m _ (by rw [← gt_eq]; exact e2))
    rcases List.mem_cons.mp (of_decide_eq_true h1) with ht | ht
    · subst ht
      cases e3
      refine va_bast (D := D) (cl := vwCl) C.1 C.2.1 hk V.2.2.1 V.2.2.2.1 V.2.2.2.2.1 i 0 (cw_gt e2) rfl v1 hd ?_
      rw [v2]
      exact ok_astK IH C V e2 rfl h6
    · have ht := List.mem_singleton.mp ht
      subst ht
      refine va_zast (D := D) (cl := vwCl) C.1 C.2.1 hk V.2.2.1 V.2.2.2.1 V.2.2.2.2.1 i 0 (cw_gt e2) rfl v1 hd ?_
      rw [v2]
      refine ok_astK IH C V e2 ?_ h6
      rcases v with z2 | ⟨j2, f2⟩
      · unfold xnar at e3
        dsimp only at e3
        cases e6 : (decide (z2 = 0) || decide (z2 = 1)) with
        | false => rw [e6] at e3; cases e3
        | true =>
          rw [e6] at e3
          cases e3
          rw [Bool.or_eq_true, decide_eq_true_eq, decide_eq_true_eq] at e6
          rcases e6 with rfl | rfl
          · show Int32.ofInt 0 = vp_nar .boolean (Int32.ofInt 0)
            decide
          · show Int32.ofInt 1 = vp_nar .boolean (Int32.ofInt 1)
            decide
      · cases e3
  · rename_i v q i rest
    rcases xcn_ok V.2.2.2.2.2.2 h with h | ⟨fa', z, h1, h2, h3⟩
    · cases h
    · have k := IH _ _ _ _ _ _ _ _ _ _ _ _ _ _ C _ _ _ _ _ _ _ h3 H locs ρ γ ls (V.fa h1)
      have e5 : dV ρ σ (.inl (.inl z)) = dV ρ σ (.inl (.inr q)) := congrArg Value.int h2
      rw [List.map_cons, List.map_cons, e5] at k
      exact k
  · cases h
set_option maxHeartbeats 1000000 in
theorem ok_lastore {L : Nat} {chk : xCk} {σ : Nat → Int32} {D : va_G} {l : Launch} {ih : xS} {r : xR} {p : Program} {e : Env} {s : State} {m : MethodId} {args : Array Value} {below : List Frame} {meth : Method} {c : Code} {A : Nat → Prop} {Q : State → Prop} {K : xK} {n0 : Nat} {ρ0 : Nat → Nat} {pc : Nat} {lo : xL} {sk : List xV} {w : List xC} {cs ss : Nat} {fa : xFa} {n : Nat} {H : Heap} {locs : List Loc} {ρ : Nat → Nat} {γ : Nat → ClassId} {ls : Array Slot} (IH : Gd L chk σ D l ih) (C : Cx L chk σ D l r p e s m args below meth c A Q K n0 ρ0) (V : Iv σ D s A r n0 ρ0 H locs ρ γ ls lo w fa) (hd : decode r.2.1 pc = .ok (.lastore, n)) (h : xlast ih r pc lo sk w cs ss fa K n = true) : W p l e (xrm r) s m args below meth c H locs cs ss Q (F0 m (pc) ls ((sk.map (dV ρ σ)))) := by
  unfold xlast at h
  split at h
  rotate_left
  · cases h
  rename_i v z i rest
  split at h
  rotate_left
  · cases h
  rename_i m us e2
  rw [Bool.and_eq_true, Bool.and_eq_true, Bool.and_eq_true, Bool.and_eq_true, fN_eq, fSet_eq, fN_eq] at h
  obtain ⟨h0, h2, h3, h4, h6⟩ := h
  have h0 := Nat.eq_of_beq_eq_true h0
  subst h0
  rw [decide_eq_true_eq] at h3 h4
  obtain ⟨v1, v2⟩ := ofZ_in h2 h3 h4
  have v2 : (dI σ (.inl z)).toNatClampNeg = z.toNat := v2
  have hk := kArr C.2.2.2.2.2.1 (V.2.1 i .long m _ (by rw [← gt_eq]; exact e2))
  refine va_last (D := D) (cl := vwCl) C.1 C.2.1 hk V.2.2.1 V.2.2.2.1 V.2.2.2.2.1 i 0 (cw_gt e2) rfl v1 hd ?_
  rw [v2]
  intro H1 locs1 hP hD hS
  have e5 : dE ρ γ σ i (.inl (.long, m, .inr ((z.toNat, v) :: us))) = (ρ i, .inl (γ i, m, .inr (.inl (vp_updL (fun k => Int64.ofInt (xlkL us k)) z.toNat (Int64.ofInt v))))) := by
    rw [upd_xlkL]
    rfl
  rw [cw_set e5] at hP hD
  rw [gt_eq] at e2
  exact IH _ _ _ _ _ _ _ _ _ _ _ _ _ _ C _ _ _ _ _ _ _ h6 H1 locs1 ρ γ ls ⟨⟨by rw [List.length_set]; exact V.1.1, V.1.2⟩, hT_arr V.2.1 e2, hP, hD, hS, V.2.2.2.2.2.1, V.2.2.2.2.2.2⟩
