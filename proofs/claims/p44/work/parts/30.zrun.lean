theorem ztk_ok : ∀ (n : Nat) (sk acc : List zV) (k : List zV → List zV → Bool), ztk n sk acc k = true → ∃ vs rest, sk = vs.reverse ++ rest ∧ vs.length = n ∧ k (vs ++ acc) rest = true := by
  intro n
  induction n with
  | zero => intro sk acc k h; exact ⟨[], sk, rfl, rfl, h⟩
  | succ n ih =>
    intro sk acc k h
    cases sk with
    | nil => cases h
    | cons v l =>
      obtain ⟨vs, rest, a1, a2, a3⟩ := ih l (v :: acc) k h
      refine ⟨vs ++ [v], rest, ?_, by rw [List.length_append, a2]; rfl, by rw [List.append_assoc]; exact a3⟩
      rw [List.reverse_append, a1]
      rfl
set_option maxHeartbeats 1000000 in
theorem oz_invokevirtual {T : zTb} {U : zRn} {D : va_G} {l : Launch} {ρ : Nat → Nat} {γ : Nat → ClassId} {es0 : va_W} {ih : zS} {r : zR} {p : Program} {e : Env} {s : State} {m : MethodId} {args : Array Value} {below : List Frame} {meth : Method} {c : Code} {A : Nat → Prop} {Q : State → Prop} {K : zK} {cs ss : Nat} {η0 : zE} {nf0 : Nat} {pc : Nat} {lo : zL} {sk : List zV} {ca : zCa} {fa : zFa} {nf : Nat} {n : Nat} {η : zE} {H : Heap} {locs : List Loc} {ls : Array Slot} {es : va_W} (IH : zGd T U D l ρ γ es0 ih) (C : zCx T U D l ρ γ es0 r p e s m args below meth c A Q K cs ss η0 nf0) (V : zIv T U D ρ γ es0 s A r η0 nf0 η H locs ls lo ca fa nf es) (HS : ∀ (es1 : va_W), zfrm U.2.2.2 es0 es1 → ∀ (j : Nat) (sm : zSm), j < U.2.2.1 → T.1[j]? = some sm → zSOe T D l sm es1) {x : Nat} (hd : decode r.1.2.1 pc = .ok (.invokevirtual x, n)) (h : zinv T U ih r pc lo sk ca fa nf K n 0 x = true) : W p l e (xrm r.1) s m args below meth c H locs cs ss Q (F0 m (pc) ls ((sk.map (zv ρ η)))) := by
  unfold zinv at h
  cases e1 : xfi (xml r.1.2.2.2.2.1) x with
  | none =>
    rw [e1] at h
    dsimp only at h
    split at h
    · rw [Bool.and_eq_true] at h
      exact absurd h.1 (by decide)
    · cases h
  | some q =>
  rw [e1] at h
  dsimp only at h
  have hw := xml_ok (xfi_ok e1)
  obtain ⟨kd, mi, g1, g2, g3⟩ := q
  dsimp only at h
  match kd, h, hw, e1 with
  | 0, h, hw, e1 =>
    cases e2 : (gt xmt mi).bind xrow with
    | none => rw [e2] at h; cases h
    | some r2 =>
    rw [e2] at h
    dsimp only at h
    obtain ⟨vs, rest, a1, a2, a3⟩ := ztk_ok _ _ _ _ h
    rw [List.append_nil] at a3
    obtain ⟨b1, b2, b3, b4, b5, b6, b7⟩ := xrow_ok e2
    have hw := xlk_0 hw e2
    rw [Bool.and_eq_true, Bool.and_eq_true] at hw
    try dsimp only at a3
    split at a3
    rotate_left
    · cases a3
    rename_i i0 rest0
    split at a3
    rotate_left
    · cases a3
    rename_i ci fs e4
    rw [Bool.and_eq_true] at a3
    have e5 := Nat.eq_of_beq_eq_true a3.1
    subst e5
    subst a1
    refine ok_zdo IH C V HS e2 (fun hn hc8 hR hz hM hp => ?_) a3.2
    subst hn
    rw [gt_eq] at e4
    obtain ⟨vs0, hes, -⟩ := V.2.2.2.2.2.2.2.1.2.2.1 i0 _ fs e4
    obtain ⟨c9, c91, c92⟩ := V.1 i0 _ hes
    refine va_runV (C := r2.1.cls) (As := vs.map (zv ρ η)) (rest := rest0.map (zv ρ η)) ⟨C.1, C.2.1, C.2.2.1, C.2.2.2.1, C.2.2.2.2.1⟩ hM ⟨callB_of _ C.2.2.2.2.1 (goodG b1) rfl hz.1 hz.2 (C.2.2.2.2.1 _ b2) (C.2.2.2.2.1 _ (inG _ (of_decide_eq_true hw.1) rfl)) ⟨b6.1, b6.2, b4⟩ hR, C.2.2.2.2.1 _ (inG _ (of_decide_eq_true hw.2.1) rfl), C.2.2.2.2.1 _ (inG _ (of_decide_eq_true hw.2.2) rfl)⟩ ⟨hp.1, ?_, hp.2⟩ rfl (by rw [List.length_map]; exact a2) V.2.2.2.1.1 (by show (vs.reverse ++ Sum.inr (Sum.inl (some i0)) :: rest0).map (zv ρ η) = _; rw [List.map_append, List.map_reverse]; rfl) (lv_room (by rw [zcats_eq]; exact hc8)) hd C.2.2.2.2.2.2.1.2
    obtain ⟨cell, d1, d2, d3⟩ := va_recv C.2.2.2.2.2.1 V.1 c91 hes
    exact ⟨cell, d1, d2, by rw [b3, ← nm_ok c91]; exact d3⟩
  | k + 1, h, hw, e1 =>
    exfalso
    revert h
    match k with
    | 0 => exact fun h => absurd h Bool.false_ne_true
    | 1 => exact fun h => absurd h Bool.false_ne_true
    | 2 => exact fun h => absurd h Bool.false_ne_true
    | 3 => exact fun h => absurd h Bool.false_ne_true
    | 4 => exact fun h => absurd h Bool.false_ne_true
    | 5 => exact fun h => absurd h Bool.false_ne_true
    | 6 => exact fun h => absurd h Bool.false_ne_true
    | k + 7 => exact fun h => absurd h Bool.false_ne_true
set_option maxHeartbeats 1000000 in
theorem oz_invokestatic {T : zTb} {U : zRn} {D : va_G} {l : Launch} {ρ : Nat → Nat} {γ : Nat → ClassId} {es0 : va_W} {ih : zS} {r : zR} {p : Program} {e : Env} {s : State} {m : MethodId} {args : Array Value} {below : List Frame} {meth : Method} {c : Code} {A : Nat → Prop} {Q : State → Prop} {K : zK} {cs ss : Nat} {η0 : zE} {nf0 : Nat} {pc : Nat} {lo : zL} {sk : List zV} {ca : zCa} {fa : zFa} {nf : Nat} {n : Nat} {η : zE} {H : Heap} {locs : List Loc} {ls : Array Slot} {es : va_W} (IH : zGd T U D l ρ γ es0 ih) (C : zCx T U D l ρ γ es0 r p e s m args below meth c A Q K cs ss η0 nf0) (V : zIv T U D ρ γ es0 s A r η0 nf0 η H locs ls lo ca fa nf es) (HS : ∀ (es1 : va_W), zfrm U.2.2.2 es0 es1 → ∀ (j : Nat) (sm : zSm), j < U.2.2.1 → T.1[j]? = some sm → zSOe T D l sm es1) {x : Nat} (hd : decode r.1.2.1 pc = .ok (.invokestatic x, n)) (h : zinv T U ih r pc lo sk ca fa nf K n 1 x = true) : W p l e (xrm r.1) s m args below meth c H locs cs ss Q (F0 m (pc) ls ((sk.map (zv ρ η)))) := by
  unfold zinv at h
  cases e1 : xfi (xml r.1.2.2.2.2.1) x with
  | none =>
    rw [e1] at h
    dsimp only at h
    cases e2 : xfi (xab r.1.2.2.2.2.1) x with
    | none => rw [e2] at h; cases h
    | some g =>
      rw [e2] at h
      dsimp only at h
      rw [Bool.and_eq_true] at h
      exact ok_zab IH C V (C.2.2.2.2.1 _ (xab_ok (xfi_ok e2))) hd h.2
  | some q =>
  rw [e1] at h
  dsimp only at h
  have hw := xml_ok (xfi_ok e1)
  obtain ⟨kd, mi, g1, g2, g3⟩ := q
  dsimp only at h
  match kd, h, hw, e1 with
  | 0, h, hw, e1 =>
    exact absurd h Bool.false_ne_true
  | 1, h, hw, e1 =>
    cases e2 : (gt xmt mi).bind xrow with
    | none => rw [e2] at h; cases h
    | some r2 =>
    rw [e2] at h
    dsimp only at h
    obtain ⟨vs, rest, a1, a2, a3⟩ := ztk_ok _ _ _ _ h
    rw [List.append_nil] at a3
    obtain ⟨b1, b2, b3, b4, b5, b6, b7⟩ := xrow_ok e2
    have hw := xlk_1 hw e2
    rw [Bool.and_eq_true] at hw
    subst a1
    refine ok_zdo IH C V HS e2 (fun hn hc8 hR hz hM hp => ?_) a3
    subst hn
    exact va_runS (As := vs.map (zv ρ η)) (rest := rest.map (zv ρ η)) ⟨C.1, C.2.1, C.2.2.1, C.2.2.2.1, C.2.2.2.2.1⟩ hM ⟨callB_of _ C.2.2.2.2.1 (goodG b1) rfl hz.1 hz.2 (C.2.2.2.2.1 _ b2) (C.2.2.2.2.1 _ (inG _ (of_decide_eq_true hw.1) rfl)) ⟨b6.1, b6.2, b4⟩ hR, C.2.2.2.2.1 _ (inG _ (of_decide_eq_true hw.2) rfl)⟩ hp rfl (by rw [List.length_map]; exact a2) V.2.2.2.1.1 (by show (vs.reverse ++ rest).map (zv ρ η) = _; rw [List.map_append, List.map_reverse]) (lv_room (by rw [zcats_eq]; exact hc8)) hd C.2.2.2.2.2.2.1.2
  | 2, h, hw, e1 =>
    exact absurd h Bool.false_ne_true
  | 3, h, hw, e1 =>
    exact absurd h Bool.false_ne_true
  | 4, h, hw, e1 =>
    exact absurd h Bool.false_ne_true
  | 5, h, hw, e1 =>
    exact ok_zcpy IH C V (C.2.2.2.2.1 _ (inG _ (of_decide_eq_true hw) rfl)) hd h
  | 6, h, hw, e1 =>
    exact ok_zmax IH C V (C.2.2.2.2.1 _ (inG _ (of_decide_eq_true hw) rfl)) hd h
  | 7, h, hw, e1 =>
    exact ok_zmin IH C V (C.2.2.2.2.1 _ (inG _ (of_decide_eq_true hw) rfl)) hd h
  | k + 8, h, hw, e1 => exact absurd h Bool.false_ne_true
set_option maxHeartbeats 1000000 in
theorem ok_zret {T : zTb} {U : zRn} {D : va_G} {l : Launch} {ρ : Nat → Nat} {γ : Nat → ClassId} {es0 : va_W} {ih : zS} {r : zR} {p : Program} {e : Env} {s : State} {m : MethodId} {args : Array Value} {below : List Frame} {meth : Method} {c : Code} {A : Nat → Prop} {Q : State → Prop} {K : zK} {cs ss : Nat} {η0 : zE} {nf0 : Nat} {pc : Nat} {lo : zL} {sk : List zV} {ca : zCa} {fa : zFa} {nf : Nat} {n : Nat} {η : zE} {H : Heap} {locs : List Loc} {ls : Array Slot} {es : va_W} (IH : zGd T U D l ρ γ es0 ih) (C : zCx T U D l ρ γ es0 r p e s m args below meth c A Q K cs ss η0 nf0) (V : zIv T U D ρ γ es0 s A r η0 nf0 η H locs ls lo ca fa nf es) {d : Option zV} (hst : sk.map (zv ρ η) = d.toList.map (zv ρ η)) (hx : n = 1 → zrd η r pc d) (h : zret ca fa nf K n d = true) : W p l e (xrm r.1) s m args below meth c H locs cs ss Q (F0 m (pc) ls ((sk.map (zv ρ η)))) := by
  unfold zret at h
  rw [Bool.and_eq_true] at h
  rw [hst]
  exact C.2.2.2.2.2.2.2.2.2.2.2 pc d lo ca fa nf η H locs ls es V h.2 (hx (Nat.eq_of_beq_eq_true h.1))
set_option maxHeartbeats 1000000 in
theorem oz_ireturn {T : zTb} {U : zRn} {D : va_G} {l : Launch} {ρ : Nat → Nat} {γ : Nat → ClassId} {es0 : va_W} {ih : zS} {r : zR} {p : Program} {e : Env} {s : State} {m : MethodId} {args : Array Value} {below : List Frame} {meth : Method} {c : Code} {A : Nat → Prop} {Q : State → Prop} {K : zK} {cs ss : Nat} {η0 : zE} {nf0 : Nat} {pc : Nat} {lo : zL} {sk : List zV} {ca : zCa} {fa : zFa} {nf : Nat} {n : Nat} {η : zE} {H : Heap} {locs : List Loc} {ls : Array Slot} {es : va_W} (IH : zGd T U D l ρ γ es0 ih) (C : zCx T U D l ρ γ es0 r p e s m args below meth c A Q K cs ss η0 nf0) (V : zIv T U D ρ γ es0 s A r η0 nf0 η H locs ls lo ca fa nf es) (hd : decode r.1.2.1 pc = .ok (.ireturn, n)) (h : zreti r sk ca fa nf K n = true) : W p l e (xrm r.1) s m args below meth c H locs cs ss Q (F0 m (pc) ls ((sk.map (zv ρ η)))) := by
  unfold zreti at h
  split at h
  rotate_left
  · cases h
  rename_i a
  split at h
  · rename_i e1
    exact ok_zret IH C V rfl (fun hn => by subst hn; exact ⟨hd, .int, e1, rfl⟩) h
  · rename_i e1
    rw [Bool.and_eq_true, zrk_eq, Bool.and_eq_true, decide_eq_true_eq, decide_eq_true_eq] at h
    refine ok_zret IH C V rfl (fun hn => ?_) h.2
    subst hn
    refine ⟨hd, .boolean, e1, ?_⟩
    have hr := zrg_ok V.2.2.2.2.1 a
    have h01 : zd η a = 0 ∨ zd η a = 1 := by omega
    unfold zi
    rcases h01 with q | q
    · rw [q]
      show narrow .boolean (.int (Int32.ofInt 0)) = .int (Int32.ofInt 0)
      decide
    · rw [q]
      show narrow .boolean (.int (Int32.ofInt 1)) = .int (Int32.ofInt 1)
      decide
  · cases h
set_option maxHeartbeats 1000000 in
theorem oz_lreturn {T : zTb} {U : zRn} {D : va_G} {l : Launch} {ρ : Nat → Nat} {γ : Nat → ClassId} {es0 : va_W} {ih : zS} {r : zR} {p : Program} {e : Env} {s : State} {m : MethodId} {args : Array Value} {below : List Frame} {meth : Method} {c : Code} {A : Nat → Prop} {Q : State → Prop} {K : zK} {cs ss : Nat} {η0 : zE} {nf0 : Nat} {pc : Nat} {lo : zL} {sk : List zV} {ca : zCa} {fa : zFa} {nf : Nat} {n : Nat} {η : zE} {H : Heap} {locs : List Loc} {ls : Array Slot} {es : va_W} (IH : zGd T U D l ρ γ es0 ih) (C : zCx T U D l ρ γ es0 r p e s m args below meth c A Q K cs ss η0 nf0) (V : zIv T U D ρ γ es0 s A r η0 nf0 η H locs ls lo ca fa nf es) (hd : decode r.1.2.1 pc = .ok (.lreturn, n)) (h : zretl r sk ca fa nf K n = true) : W p l e (xrm r.1) s m args below meth c H locs cs ss Q (F0 m (pc) ls ((sk.map (zv ρ η)))) := by
  unfold zretl at h
  split at h
  rotate_left
  · cases h
  rename_i z
  split at h
  · rename_i e1
    exact ok_zret IH C V rfl (fun hn => by subst hn; exact ⟨hd, e1⟩) h
  · cases h
set_option maxHeartbeats 1000000 in
theorem oz_return_ {T : zTb} {U : zRn} {D : va_G} {l : Launch} {ρ : Nat → Nat} {γ : Nat → ClassId} {es0 : va_W} {ih : zS} {r : zR} {p : Program} {e : Env} {s : State} {m : MethodId} {args : Array Value} {below : List Frame} {meth : Method} {c : Code} {A : Nat → Prop} {Q : State → Prop} {K : zK} {cs ss : Nat} {η0 : zE} {nf0 : Nat} {pc : Nat} {lo : zL} {sk : List zV} {ca : zCa} {fa : zFa} {nf : Nat} {n : Nat} {η : zE} {H : Heap} {locs : List Loc} {ls : Array Slot} {es : va_W} (IH : zGd T U D l ρ γ es0 ih) (C : zCx T U D l ρ γ es0 r p e s m args below meth c A Q K cs ss η0 nf0) (V : zIv T U D ρ γ es0 s A r η0 nf0 η H locs ls lo ca fa nf es) (hd : decode r.1.2.1 pc = .ok (.return_, n)) (h : zretv r sk ca fa nf K n = true) : W p l e (xrm r.1) s m args below meth c H locs cs ss Q (F0 m (pc) ls ((sk.map (zv ρ η)))) := by
  unfold zretv at h
  split at h
  · rename_i e1
    exact ok_zret IH C V rfl (fun hn => by subst hn; exact ⟨hd, e1⟩) h
  · cases h
set_option maxHeartbeats 1000000 in
theorem zsi_ok {T : zTb} {U : zRn} {D : va_G} {l : Launch} {ρ : Nat → Nat} {γ : Nat → ClassId} {es0 : va_W} {ih : zS} {r : zR} {p : Program} {e : Env} {s : State} {m : MethodId} {args : Array Value} {below : List Frame} {meth : Method} {c : Code} {A : Nat → Prop} {Q : State → Prop} {K : zK} {cs ss : Nat} {η0 : zE} {nf0 : Nat} {pc : Nat} {lo : zL} {sk : List zV} {ca : zCa} {fa : zFa} {nf : Nat} {n : Nat} {η : zE} {H : Heap} {locs : List Loc} {ls : Array Slot} {es : va_W} (IH : zGd T U D l ρ γ es0 ih) (C : zCx T U D l ρ γ es0 r p e s m args below meth c A Q K cs ss η0 nf0) (V : zIv T U D ρ γ es0 s A r η0 nf0 η H locs ls lo ca fa nf es) (HS : ∀ (es1 : va_W), zfrm U.2.2.2 es0 es1 → ∀ (j : Nat) (sm : zSm), j < U.2.2.1 → T.1[j]? = some sm → zSOe T D l sm es1) {i : Instr} (hd : decode r.1.2.1 pc = .ok (i, n)) (h : zsi T U ih r pc lo sk ca fa nf K n i = true) : W p l e (xrm r.1) s m args below meth c H locs cs ss Q (F0 m (pc) ls ((sk.map (zv ρ η)))) := by
  cases i with
  | iconst z => exact oz_iconst IH C V hd h
  | bipush z => exact oz_bipush IH C V hd h
  | sipush z => exact oz_sipush IH C V hd h
  | lconst z => exact oz_lconst IH C V hd h
  | ldc x => exact oz_ldc IH C V hd h
  | ldc_w x => exact oz_ldc_w IH C V hd h
  | ldc2_w x => exact oz_ldc2_w IH C V hd h
  | iload_n k => exact oz_iload_n IH C V hd h
  | iload k => exact oz_iload IH C V hd h
  | aload_n k => exact oz_aload_n IH C V hd h
  | aload k => exact oz_aload IH C V hd h
  | lload_n k => exact oz_lload_n IH C V hd h
  | lload k => exact oz_lload IH C V hd h
  | istore_n k => exact oz_istore_n IH C V hd h
  | istore k => exact oz_istore IH C V hd h
  | astore_n k => exact oz_astore_n IH C V hd h
  | astore k => exact oz_astore IH C V hd h
  | lstore_n k => exact oz_lstore_n IH C V hd h
  | lstore k => exact oz_lstore IH C V hd h
  | iinc i z => exact oz_iinc IH C V hd h
  | iadd => exact oz_iadd IH C V hd h
  | isub => exact oz_isub IH C V hd h
  | imul => exact oz_imul IH C V hd h
  | iand => exact oz_iand IH C V hd h
  | ior => exact oz_ior IH C V hd h
  | ixor => exact oz_ixor IH C V hd h
  | ishl => exact oz_ishl IH C V hd h
  | ishr => exact oz_ishr IH C V hd h
  | iushr => exact oz_iushr IH C V hd h
  | idiv => exact oz_idiv IH C V hd h
  | irem => exact oz_irem IH C V hd h
  | ineg => exact oz_ineg IH C V hd h
  | i2b => exact oz_i2b IH C V hd h
  | i2c => exact oz_i2c IH C V hd h
  | i2l => exact oz_i2l IH C V hd h
  | l2i => exact oz_l2i IH C V hd h
  | ladd => exact oz_ladd IH C V hd h
  | lsub => exact oz_lsub IH C V hd h
  | lmul => exact oz_lmul IH C V hd h
  | land => exact oz_land IH C V hd h
  | lor => exact oz_lor IH C V hd h
  | lxor => exact oz_lxor IH C V hd h
  | lshl => exact oz_lshl IH C V hd h
  | lshr => exact oz_lshr IH C V hd h
  | lushr => exact oz_lushr IH C V hd h
  | lcmp => exact oz_lcmp IH C V hd h
  | dup => exact oz_dup IH C V hd h
  | dup2 => exact oz_dup2 IH C V hd h
  | pop => exact oz_pop IH C V hd h
  | ifCond cnd off => exact oz_if1 IH C V hd h
  | if_icmp cnd off => exact oz_if2 IH C V hd h
  | goto off => exact oz_goto IH C V hd h
  | tableswitch d lw hw offs => exact oz_tab IH C V hd h
  | lookupswitch d ps => exact oz_lks IH C V hd h
  | arraylength => exact oz_len IH C V hd h
  | iaload => exact oz_iaload IH C V hd h
  | baload => exact oz_baload IH C V hd h
  | laload => exact oz_laload IH C V hd h
  | iastore => exact oz_iastore IH C V hd h
  | bastore => exact oz_bastore IH C V hd h
  | lastore => exact oz_lastore IH C V hd h
  | getfield x => exact oz_getf IH C V hd h
  | putfield x => exact oz_putf IH C V hd h
  | invokevirtual x => exact oz_invokevirtual IH C V HS hd h
  | invokestatic x => exact oz_invokestatic IH C V HS hd h
  | ireturn => exact oz_ireturn IH C V hd h
  | lreturn => exact oz_lreturn IH C V hd h
  | return_ => exact oz_return_ IH C V hd h
  | _ => exact absurd h Bool.false_ne_true
set_option maxHeartbeats 2000000 in
theorem zst_ok {T : zTb} {U : zRn} {D : va_G} {l : Launch} {ρ : Nat → Nat} {γ : Nat → ClassId} {es0 : va_W} {ih : zS} (HS : ∀ (es1 : va_W), zfrm U.2.2.2 es0 es1 → ∀ (j : Nat) (sm : zSm), j < U.2.2.1 → T.1[j]? = some sm → zSOe T D l sm es1) (IH : zGd T U D l ρ γ es0 ih) : zGd T U D l ρ γ es0 (zst T U ih) := by
  intro r p e s m args below meth c A Q K cs ss η0 nf0 C pc lo sk ca fa nf h η H locs ls es V
  unfold zst at h
  cases e1 : xmN r.2 pc with
  | true =>
    rw [e1] at h
    exact C.2.2.2.2.2.2.2.2.2.2.1 pc lo sk ca fa nf η H locs ls es e1 h V
  | false =>
    rw [e1] at h
    dsimp only at h
    cases e2 : xfi r.1.2.2.2.2.2.2.2 pc with
    | none => rw [e2] at h; cases h
    | some q =>
      rw [e2] at h
      exact zsi_ok IH C V HS (C.2.2.2.2.2.2.2.1 (pc, q) (xfi_ok e2)) h
theorem zex_ok {T : zTb} {U : zRn} {D : va_G} {l : Launch} {ρ : Nat → Nat} {γ : Nat → ClassId} {es0 : va_W} (HS : ∀ (es1 : va_W), zfrm U.2.2.2 es0 es1 → ∀ (j : Nat) (sm : zSm), j < U.2.2.1 → T.1[j]? = some sm → zSOe T D l sm es1) : ∀ n : Nat, zGd T U D l ρ γ es0 (zex T U n) := by
  intro n
  induction n with
  | zero =>
    intro r p e s m args below meth c A Q K cs ss η0 nf0 C pc lo sk ca fa nf h
    exact absurd h Bool.false_ne_true
  | succ n ih => exact zst_ok HS ih
