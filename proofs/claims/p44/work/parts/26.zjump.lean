set_option maxHeartbeats 1000000 in
theorem ok_zgo {T : zTb} {U : zRn} {D : va_G} {l : Launch} {ρ : Nat → Nat} {γ : Nat → ClassId} {es0 : va_W} {ih : zS} {r : zR} {p : Program} {e : Env} {s : State} {m : MethodId} {args : Array Value} {below : List Frame} {meth : Method} {c : Code} {A : Nat → Prop} {Q : State → Prop} {K : zK} {cs ss : Nat} {η0 : zE} {nf0 : Nat} {pc : Nat} {lo : zL} {ca : zCa} {fa : zFa} {nf : Nat} {η : zE} {H : Heap} {locs : List Loc} {ls : Array Slot} {es : va_W} (IH : zGd T U D l ρ γ es0 ih) (C : zCx T U D l ρ γ es0 r p e s m args below meth c A Q K cs ss η0 nf0) (V : zIv T U D ρ γ es0 s A r η0 nf0 η H locs ls lo ca fa nf es) {off : Int} {rest : List zV} (h : zgo ih r pc lo ca nf K off rest fa = true) : ∃ tgt : Nat, (pc : Int) + off = (tgt : Int) ∧ W p l e (xrm r.1) s m args below meth c H locs cs ss Q (F0 m (tgt) ls (rest.map (zv ρ η))) := by
  unfold zgo at h
  by_cases e2 : (pc : Int) + off < 0
  · rw [decide_eq_true e2] at h; cases h
  · rw [decide_eq_false e2] at h
    dsimp only at h
    rw [fN_eq] at h
    exact ⟨((pc : Int) + off).toNat, by omega, IH _ _ _ _ _ _ _ _ _ _ _ _ _ _ _ _ C _ _ _ _ _ _ h η H locs ls es V⟩
set_option maxHeartbeats 1000000 in
theorem ok_zon {T : zTb} {U : zRn} {D : va_G} {l : Launch} {ρ : Nat → Nat} {γ : Nat → ClassId} {es0 : va_W} {ih : zS} {r : zR} {p : Program} {e : Env} {s : State} {m : MethodId} {args : Array Value} {below : List Frame} {meth : Method} {c : Code} {A : Nat → Prop} {Q : State → Prop} {K : zK} {cs ss : Nat} {η0 : zE} {nf0 : Nat} {pc : Nat} {lo : zL} {ca : zCa} {fa : zFa} {nf : Nat} {η : zE} {H : Heap} {locs : List Loc} {ls : Array Slot} {es : va_W} (IH : zGd T U D l ρ γ es0 ih) (C : zCx T U D l ρ γ es0 r p e s m args below meth c A Q K cs ss η0 nf0) (V : zIv T U D ρ γ es0 s A r η0 nf0 η H locs ls lo ca fa nf es) {rest : List zV} (h : zon ih r pc lo ca nf K rest fa = true) : W p l e (xrm r.1) s m args below meth c H locs cs ss Q (F0 m (pc + 3) ls (rest.map (zv ρ η))) := by
  unfold zon at h
  rw [fN_eq] at h
  exact IH _ _ _ _ _ _ _ _ _ _ _ _ _ _ _ _ C _ _ _ _ _ _ h η H locs ls es V
theorem zceq_ok {η : zE} {a b : zI} {fa : zFa} {KT KF : zFa → Bool} (hs : zsat η fa) (h : zceq a b fa KT KF = true) : zpick η (zi η a = zi η b) KT KF := by
  unfold zceq at h
  cases e : z32 fa a && z32 fa b with
  | false => rw [e] at h; exact zpick_both hs h
  | true =>
    rw [e] at h
    rw [Bool.and_eq_true] at e
    have q := zeq_ok hs h
    have e3 : zi η a = zi η b ↔ zd η a = zd η b := by
      rw [i32_eq_iff, z32_ok hs e.1, z32_ok hs e.2]
    exact ⟨fun z => q.1 (e3.mp z), fun z => q.2 (fun y => z (e3.mpr y))⟩
theorem zclt_ok {η : zE} {a b : zI} {fa : zFa} {KT KF : zFa → Bool} (hs : zsat η fa) (h : zclt a b fa KT KF = true) : zpick η (zi η a < zi η b) KT KF := by
  unfold zclt at h
  cases e : z32 fa a && z32 fa b with
  | false => rw [e] at h; exact zpick_both hs h
  | true =>
    rw [e] at h
    rw [Bool.and_eq_true] at e
    have q := zlt_ok hs h
    have e3 : zi η a < zi η b ↔ zd η a < zd η b := by
      rw [Int32.lt_iff_toInt_lt, z32_ok hs e.1, z32_ok hs e.2]
    exact ⟨fun z => q.1 (e3.mp z), fun z => q.2 (fun y => z (e3.mpr y))⟩
set_option maxHeartbeats 1000000 in
theorem oz_if2 {T : zTb} {U : zRn} {D : va_G} {l : Launch} {ρ : Nat → Nat} {γ : Nat → ClassId} {es0 : va_W} {ih : zS} {r : zR} {p : Program} {e : Env} {s : State} {m : MethodId} {args : Array Value} {below : List Frame} {meth : Method} {c : Code} {A : Nat → Prop} {Q : State → Prop} {K : zK} {cs ss : Nat} {η0 : zE} {nf0 : Nat} {pc : Nat} {lo : zL} {sk : List zV} {ca : zCa} {fa : zFa} {nf : Nat} {n : Nat} {η : zE} {H : Heap} {locs : List Loc} {ls : Array Slot} {es : va_W} (IH : zGd T U D l ρ γ es0 ih) (C : zCx T U D l ρ γ es0 r p e s m args below meth c A Q K cs ss η0 nf0) (V : zIv T U D ρ γ es0 s A r η0 nf0 η H locs ls lo ca fa nf es) {cnd : Jvm.ClassFile.Cond} {off : Int} (hd : decode r.1.2.1 pc = .ok (.if_icmp cnd off, n)) (h : zif2 ih r pc lo sk ca fa nf K n cnd off = true) : W p l e (xrm r.1) s m args below meth c H locs cs ss Q (F0 m (pc) ls ((sk.map (zv ρ η)))) := by
  unfold zif2 at h
  split at h
  rotate_left
  · cases h
  rename_i b a rest
  unfold zcmp at h
  rw [Bool.and_eq_true, Bool.and_eq_true, decide_eq_true_eq] at h
  obtain ⟨h1, h2, h⟩ := h
  have h1 := Nat.eq_of_beq_eq_true h1
  subst h1
  obtain ⟨tgt, ht⟩ : ∃ tgt : Nat, (pc : Int) + off = (tgt : Int) := ⟨((pc : Int) + off).toNat, by omega⟩
  cases cnd
  · have q := zceq_ok V.2.2.2.2.1 h
    refine lv_icmp_eq (tgt := tgt) C.1 C.2.1 hd ht (fun z => ?_) (fun z => ?_)
    · obtain ⟨fa', h1, h2⟩ := q.1 z
      obtain ⟨tg, h3, k⟩ := ok_zgo IH C (V.fa h1) h2
      have h3 : tg = tgt := by omega
      subst h3
      exact k
    · obtain ⟨fa', h1, h2⟩ := q.2 z
      exact ok_zon IH C (V.fa h1) h2
  · have q := zceq_ok V.2.2.2.2.1 h
    refine lv_icmp_ne (tgt := tgt) C.1 C.2.1 hd ht (fun z => ?_) (fun z => ?_)
    · obtain ⟨fa', h1, h2⟩ := q.2 z
      obtain ⟨tg, h3, k⟩ := ok_zgo IH C (V.fa h1) h2
      have h3 : tg = tgt := by omega
      subst h3
      exact k
    · obtain ⟨fa', h1, h2⟩ := q.1 z
      exact ok_zon IH C (V.fa h1) h2
  · have q := zclt_ok V.2.2.2.2.1 h
    refine lv_icmp_lt (tgt := tgt) C.1 C.2.1 hd ht (fun z => ?_) (fun z => ?_)
    · obtain ⟨fa', h1, h2⟩ := q.1 z
      obtain ⟨tg, h3, k⟩ := ok_zgo IH C (V.fa h1) h2
      have h3 : tg = tgt := by omega
      subst h3
      exact k
    · obtain ⟨fa', h1, h2⟩ := q.2 z
      exact ok_zon IH C (V.fa h1) h2
  · have q := zclt_ok V.2.2.2.2.1 h
    refine lv_icmp_ge (tgt := tgt) C.1 C.2.1 hd ht (fun z => ?_) (fun z => ?_)
    · obtain ⟨fa', h1, h2⟩ := q.2 (Int32.not_lt.mpr z)
      obtain ⟨tg, h3, k⟩ := ok_zgo IH C (V.fa h1) h2
      have h3 : tg = tgt := by omega
      subst h3
      exact k
    · obtain ⟨fa', h1, h2⟩ := q.1 (Int32.not_le.mp z)
      exact ok_zon IH C (V.fa h1) h2
  · have q := zclt_ok V.2.2.2.2.1 h
    refine lv_icmp_gt (tgt := tgt) C.1 C.2.1 hd ht (fun z => ?_) (fun z => ?_)
    · obtain ⟨fa', h1, h2⟩ := q.1 z
      obtain ⟨tg, h3, k⟩ := ok_zgo IH C (V.fa h1) h2
      have h3 : tg = tgt := by omega
      subst h3
      exact k
    · obtain ⟨fa', h1, h2⟩ := q.2 z
      exact ok_zon IH C (V.fa h1) h2
  · have q := zclt_ok V.2.2.2.2.1 h
    refine lv_icmp_le (tgt := tgt) C.1 C.2.1 hd ht (fun z => ?_) (fun z => ?_)
    · obtain ⟨fa', h1, h2⟩ := q.2 (Int32.not_lt.mpr z)
      obtain ⟨tg, h3, k⟩ := ok_zgo IH C (V.fa h1) h2
      have h3 : tg = tgt := by omega
      subst h3
      exact k
    · obtain ⟨fa', h1, h2⟩ := q.1 (Int32.not_le.mp z)
      exact ok_zon IH C (V.fa h1) h2

set_option maxHeartbeats 1000000 in
theorem oz_if1 {T : zTb} {U : zRn} {D : va_G} {l : Launch} {ρ : Nat → Nat} {γ : Nat → ClassId} {es0 : va_W} {ih : zS} {r : zR} {p : Program} {e : Env} {s : State} {m : MethodId} {args : Array Value} {below : List Frame} {meth : Method} {c : Code} {A : Nat → Prop} {Q : State → Prop} {K : zK} {cs ss : Nat} {η0 : zE} {nf0 : Nat} {pc : Nat} {lo : zL} {sk : List zV} {ca : zCa} {fa : zFa} {nf : Nat} {n : Nat} {η : zE} {H : Heap} {locs : List Loc} {ls : Array Slot} {es : va_W} (IH : zGd T U D l ρ γ es0 ih) (C : zCx T U D l ρ γ es0 r p e s m args below meth c A Q K cs ss η0 nf0) (V : zIv T U D ρ γ es0 s A r η0 nf0 η H locs ls lo ca fa nf es) {cnd : Jvm.ClassFile.Cond} {off : Int} (hd : decode r.1.2.1 pc = .ok (.ifCond cnd off, n)) (h : zif1 ih r pc lo sk ca fa nf K n cnd off = true) : W p l e (xrm r.1) s m args below meth c H locs cs ss Q (F0 m (pc) ls ((sk.map (zv ρ η)))) := by
  unfold zif1 at h
  split at h
  rotate_left
  · cases h
  rename_i a rest
  have z0 : zi η (.inl 0) = 0 := by show Int32.ofInt 0 = 0; decide
  unfold zcmp at h
  rw [Bool.and_eq_true, Bool.and_eq_true, decide_eq_true_eq] at h
  obtain ⟨h1, h2, h⟩ := h
  have h1 := Nat.eq_of_beq_eq_true h1
  subst h1
  obtain ⟨tgt, ht⟩ : ∃ tgt : Nat, (pc : Int) + off = (tgt : Int) := ⟨((pc : Int) + off).toNat, by omega⟩
  cases cnd
  · have q := zceq_ok V.2.2.2.2.1 h
    rw [z0] at q
    refine lv_if_eq (tgt := tgt) C.1 C.2.1 hd ht (fun z => ?_) (fun z => ?_)
    · obtain ⟨fa', h1, h2⟩ := q.1 z
      obtain ⟨tg, h3, k⟩ := ok_zgo IH C (V.fa h1) h2
      have h3 : tg = tgt := by omega
      subst h3
      exact k
    · obtain ⟨fa', h1, h2⟩ := q.2 z
      exact ok_zon IH C (V.fa h1) h2
  · have q := zceq_ok V.2.2.2.2.1 h
    rw [z0] at q
    refine lv_if_ne (tgt := tgt) C.1 C.2.1 hd ht (fun z => ?_) (fun z => ?_)
    · obtain ⟨fa', h1, h2⟩ := q.2 z
      obtain ⟨tg, h3, k⟩ := ok_zgo IH C (V.fa h1) h2
      have h3 : tg = tgt := by omega
      subst h3
      exact k
    · obtain ⟨fa', h1, h2⟩ := q.1 z
      exact ok_zon IH C (V.fa h1) h2
  · have q := zclt_ok V.2.2.2.2.1 h
    rw [z0] at q
    refine lv_if_lt (tgt := tgt) C.1 C.2.1 hd ht (fun z => ?_) (fun z => ?_)
    · obtain ⟨fa', h1, h2⟩ := q.1 z
      obtain ⟨tg, h3, k⟩ := ok_zgo IH C (V.fa h1) h2
      have h3 : tg = tgt := by omega
      subst h3
      exact k
    · obtain ⟨fa', h1, h2⟩ := q.2 z
      exact ok_zon IH C (V.fa h1) h2
  · have q := zclt_ok V.2.2.2.2.1 h
    rw [z0] at q
    refine lv_if_ge (tgt := tgt) C.1 C.2.1 hd ht (fun z => ?_) (fun z => ?_)
    · obtain ⟨fa', h1, h2⟩ := q.2 (Int32.not_lt.mpr z)
      obtain ⟨tg, h3, k⟩ := ok_zgo IH C (V.fa h1) h2
      have h3 : tg = tgt := by omega
      subst h3
      exact k
    · obtain ⟨fa', h1, h2⟩ := q.1 (Int32.not_le.mp z)
      exact ok_zon IH C (V.fa h1) h2
  · have q := zclt_ok V.2.2.2.2.1 h
    rw [z0] at q
    refine lv_if_gt (tgt := tgt) C.1 C.2.1 hd ht (fun z => ?_) (fun z => ?_)
    · obtain ⟨fa', h1, h2⟩ := q.1 z
      obtain ⟨tg, h3, k⟩ := ok_zgo IH C (V.fa h1) h2
      have h3 : tg = tgt := by omega
      subst h3
      exact k
    · obtain ⟨fa', h1, h2⟩ := q.2 z
      exact ok_zon IH C (V.fa h1) h2
  · have q := zclt_ok V.2.2.2.2.1 h
    rw [z0] at q
    refine lv_if_le (tgt := tgt) C.1 C.2.1 hd ht (fun z => ?_) (fun z => ?_)
    · obtain ⟨fa', h1, h2⟩ := q.2 (Int32.not_lt.mpr z)
      obtain ⟨tg, h3, k⟩ := ok_zgo IH C (V.fa h1) h2
      have h3 : tg = tgt := by omega
      subst h3
      exact k
    · obtain ⟨fa', h1, h2⟩ := q.1 (Int32.not_le.mp z)
      exact ok_zon IH C (V.fa h1) h2

set_option maxHeartbeats 1000000 in
theorem oz_goto {T : zTb} {U : zRn} {D : va_G} {l : Launch} {ρ : Nat → Nat} {γ : Nat → ClassId} {es0 : va_W} {ih : zS} {r : zR} {p : Program} {e : Env} {s : State} {m : MethodId} {args : Array Value} {below : List Frame} {meth : Method} {c : Code} {A : Nat → Prop} {Q : State → Prop} {K : zK} {cs ss : Nat} {η0 : zE} {nf0 : Nat} {pc : Nat} {lo : zL} {sk : List zV} {ca : zCa} {fa : zFa} {nf : Nat} {n : Nat} {η : zE} {H : Heap} {locs : List Loc} {ls : Array Slot} {es : va_W} (IH : zGd T U D l ρ γ es0 ih) (C : zCx T U D l ρ γ es0 r p e s m args below meth c A Q K cs ss η0 nf0) (V : zIv T U D ρ γ es0 s A r η0 nf0 η H locs ls lo ca fa nf es) {off : Int} (hd : decode r.1.2.1 pc = .ok (.goto off, n)) (h : zgoto U ih r pc lo sk ca fa nf K n off = true) : W p l e (xrm r.1) s m args below meth c H locs cs ss Q (F0 m (pc) ls ((sk.map (zv ρ η)))) := by
  unfold zgoto at h
  rw [Bool.and_eq_true] at h
  have h1 := Nat.eq_of_beq_eq_true h.1
  subst h1
  have h2 := h.2
  split at h2
  · rw [gFil_eq] at h2
    have V2 := zIv.fa V (fa2 := (fa.1.filter (zlive lo sk ca fa), fa.2)) ⟨V.2.2.2.2.1.1, fun q hq => V.2.2.2.2.1.2.1 q (List.mem_filter.mp hq).1, V.2.2.2.2.1.2.2⟩
    obtain ⟨tg, h3, k⟩ := ok_zgo IH C V2 h2
    exact lv_goto C.1 C.2.1 hd h3 k
  · obtain ⟨tg, h3, k⟩ := ok_zgo IH C V h2
    exact lv_goto C.1 C.2.1 hd h3 k
set_option maxHeartbeats 1000000 in
theorem ok_zswL {ih : zS} {r : zR} {pc : Nat} {lo : zL} {ca : zCa} {nf : Nat} {K : zK} {η : zE} {v : zI} {rest : List zV} {d : Int} : ∀ (ps : List (Int × Int)) (fa : zFa), zsat η fa → zswL ih r pc lo ca nf K v rest d ps fa = true → ∃ (off : Int) (fa2 : zFa), zsat η fa2 ∧ zgo ih r pc lo ca nf K off rest fa2 = true ∧ ((off = d ∧ ∀ q ∈ ps, zd η v ≠ q.1) ∨ ∃ (k : Nat) (c : Int), ps[k]? = some (c, off) ∧ zd η v = c ∧ ∀ (j : Nat) (q : Int × Int), j < k → ps[j]? = some q → zd η v ≠ q.1) := by
  intro ps
  induction ps with
  | nil =>
    intro fa hs h
    exact ⟨d, fa, hs, h, Or.inl ⟨rfl, fun q hq => by cases hq⟩⟩
  | cons q t iht =>
    intro fa hs h
    obtain ⟨c, o⟩ := q
    unfold zswL at h
    have z := zeq_ok hs h
    by_cases e1 : zd η v = zd η (.inl c)
    · obtain ⟨fa2, s2, h2⟩ := z.1 e1
      exact ⟨o, fa2, s2, h2, Or.inr ⟨0, c, rfl, e1, fun j q hj => absurd hj (Nat.not_lt_zero j)⟩⟩
    · obtain ⟨fa2, s2, h2⟩ := z.2 e1
      obtain ⟨off, fa3, s3, h3, h4⟩ := iht fa2 s2 h2
      refine ⟨off, fa3, s3, h3, ?_⟩
      rcases h4 with ⟨h5, h6⟩ | ⟨k, c2, h5, h6, h7⟩
      · refine Or.inl ⟨h5, fun q hq => ?_⟩
        rcases List.mem_cons.mp hq with e2 | e2
        · rw [e2]; exact e1
        · exact h6 q e2
      · refine Or.inr ⟨k + 1, c2, by simpa using h5, h6, fun j q hj hq => ?_⟩
        cases j with
        | zero => cases hq; exact e1
        | succ j => exact h7 j q (by omega) (by simpa using hq)
theorem zkeys_get : ∀ (offs : List Int) (l : Int) (k : Nat), (zkeys l offs)[k]? = (offs[k]?).map (fun o => (l + (k : Int), o)) := by
  intro offs
  induction offs with
  | nil => intro l k; simp [zkeys]
  | cons o t ih =>
    intro l k
    cases k with
    | zero => simp [zkeys]
    | succ k =>
      show (zkeys (l + 1) t)[k]? = _
      rw [ih]
      have : (l + 1 + (k : Int)) = l + ((k + 1 : Nat) : Int) := by omega
      rw [this]
      rfl
set_option maxHeartbeats 1000000 in
theorem oz_tab {T : zTb} {U : zRn} {D : va_G} {l : Launch} {ρ : Nat → Nat} {γ : Nat → ClassId} {es0 : va_W} {ih : zS} {r : zR} {p : Program} {e : Env} {s : State} {m : MethodId} {args : Array Value} {below : List Frame} {meth : Method} {c : Code} {A : Nat → Prop} {Q : State → Prop} {K : zK} {cs ss : Nat} {η0 : zE} {nf0 : Nat} {pc : Nat} {lo : zL} {sk : List zV} {ca : zCa} {fa : zFa} {nf : Nat} {n : Nat} {η : zE} {H : Heap} {locs : List Loc} {ls : Array Slot} {es : va_W} (IH : zGd T U D l ρ γ es0 ih) (C : zCx T U D l ρ γ es0 r p e s m args below meth c A Q K cs ss η0 nf0) (V : zIv T U D ρ γ es0 s A r η0 nf0 η H locs ls lo ca fa nf es) {d lw hw : Int} {offs : Array Int} (hd : decode r.1.2.1 pc = .ok (.tableswitch d lw hw offs, n)) (h : ztab ih r pc lo sk ca fa nf K d lw hw offs = true) : W p l e (xrm r.1) s m args below meth c H locs cs ss Q (F0 m (pc) ls ((sk.map (zv ρ η)))) := by
  unfold ztab at h
  split at h
  rotate_left
  · cases h
  rename_i v rest
  rw [Bool.and_eq_true, Bool.and_eq_true, decide_eq_true_eq] at h
  obtain ⟨h1, h2, h⟩ := h
  have hv := z32_ok V.2.2.2.2.1 h1
  obtain ⟨off, fa2, s2, h3, h4⟩ := ok_zswL (η := η) _ _ V.2.2.2.2.1 h
  obtain ⟨tg, b1, k⟩ := ok_zgo IH C (V.fa s2) h3
  rcases h4 with ⟨rfl, h6⟩ | ⟨j, c0, h5, h6, -⟩
  · refine lv_tableOut C.1 C.2.1 hd ?_ b1 k
    rw [hv]
    by_cases c1 : zd η v < lw
    · exact Or.inl c1
    · by_cases c2 : hw < zd η v
      · exact Or.inr c2
      · exfalso
        have hlt : (zd η v - lw).toNat < offs.toList.length := by omega
        have hg := zkeys_get offs.toList lw (zd η v - lw).toNat
        rw [List.getElem?_eq_getElem hlt] at hg
        have := h6 _ (List.mem_of_getElem? hg)
        dsimp only at this
        omega
  · rw [zkeys_get] at h5
    cases e9 : offs.toList[j]? with
    | none => rw [e9] at h5; cases h5
    | some o1 =>
      rw [e9] at h5
      cases h5
      have hj : j < offs.toList.length := (List.getElem?_eq_some_iff.mp e9).1
      refine lv_tableIn C.1 C.2.1 hd (by rw [hv]; omega) (by rw [hv]; omega) ?_ b1 k
      rw [hv, ← Array.getElem?_toList]
      have : (zd η v - lw).toNat = j := by omega
      rw [this]
      exact e9
theorem lks_none {k d : Int} : ∀ {ps : List (Int × Int)}, (∀ q ∈ ps, k ≠ q.1) → Op.lookupswitch.offset ps d k = d := by
  intro ps
  induction ps with
  | nil => intro _; rfl
  | cons q t ih =>
    intro h
    obtain ⟨a, o1⟩ := q
    rw [Op.lookupswitch.offset_cons, if_neg (fun z => h _ List.mem_cons_self z.symm)]
    exact ih (fun q hq => h q (List.mem_cons_of_mem _ hq))
theorem lks_some {k d off c0 : Int} : ∀ {ps : List (Int × Int)} {j : Nat}, ps[j]? = some (c0, off) → k = c0 → (∀ (i : Nat) (q : Int × Int), i < j → ps[i]? = some q → k ≠ q.1) → Op.lookupswitch.offset ps d k = off := by
  intro ps
  induction ps with
  | nil => intro j h; cases h
  | cons q t ih =>
    intro j h hk hq
    obtain ⟨a, o1⟩ := q
    rw [Op.lookupswitch.offset_cons]
    cases j with
    | zero =>
      cases h
      rw [if_pos hk.symm]
    | succ j =>
      rw [if_neg (fun z => hq 0 _ (Nat.succ_pos j) rfl z.symm)]
      exact ih (by simpa using h) hk (fun i q hi h9 => hq (i + 1) q (by omega) (by simpa using h9))
set_option maxHeartbeats 1000000 in
theorem oz_lks {T : zTb} {U : zRn} {D : va_G} {l : Launch} {ρ : Nat → Nat} {γ : Nat → ClassId} {es0 : va_W} {ih : zS} {r : zR} {p : Program} {e : Env} {s : State} {m : MethodId} {args : Array Value} {below : List Frame} {meth : Method} {c : Code} {A : Nat → Prop} {Q : State → Prop} {K : zK} {cs ss : Nat} {η0 : zE} {nf0 : Nat} {pc : Nat} {lo : zL} {sk : List zV} {ca : zCa} {fa : zFa} {nf : Nat} {n : Nat} {η : zE} {H : Heap} {locs : List Loc} {ls : Array Slot} {es : va_W} (IH : zGd T U D l ρ γ es0 ih) (C : zCx T U D l ρ γ es0 r p e s m args below meth c A Q K cs ss η0 nf0) (V : zIv T U D ρ γ es0 s A r η0 nf0 η H locs ls lo ca fa nf es) {d : Int} {ps : Array (Int × Int)} (hd : decode r.1.2.1 pc = .ok (.lookupswitch d ps, n)) (h : zlks ih r pc lo sk ca fa nf K d ps = true) : W p l e (xrm r.1) s m args below meth c H locs cs ss Q (F0 m (pc) ls ((sk.map (zv ρ η)))) := by
  unfold zlks at h
  split at h
  rotate_left
  · cases h
  rename_i v rest
  rw [Bool.and_eq_true, Bool.and_eq_true] at h
  obtain ⟨h1, h2, h⟩ := h
  have hv := z32_ok V.2.2.2.2.1 h1
  obtain ⟨off, fa2, s2, h3, h4⟩ := ok_zswL (η := η) _ _ V.2.2.2.2.1 h
  obtain ⟨tg, b1, k⟩ := ok_zgo IH C (V.fa s2) h3
  refine lv_lookup (x := zi η v) C.1 C.2.1 hd h2 ?_ b1 k
  rw [hv]
  rcases h4 with ⟨rfl, h6⟩ | ⟨j, c0, h5, h6, h7⟩
  · exact lks_none h6
  · exact lks_some h5 h6 h7
