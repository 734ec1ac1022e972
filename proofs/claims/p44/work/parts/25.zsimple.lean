set_option maxHeartbeats 1000000 in
theorem oz_iconst {T : zTb} {U : zRn} {D : va_G} {l : Launch} {ρ : Nat → Nat} {γ : Nat → ClassId} {es0 : va_W} {ih : zS} {r : zR} {p : Program} {e : Env} {s : State} {m : MethodId} {args : Array Value} {below : List Frame} {meth : Method} {c : Code} {A : Nat → Prop} {Q : State → Prop} {K : zK} {cs ss : Nat} {η0 : zE} {nf0 : Nat} {pc : Nat} {lo : zL} {sk : List zV} {ca : zCa} {fa : zFa} {nf : Nat} {n : Nat} {η : zE} {H : Heap} {locs : List Loc} {ls : Array Slot} {es : va_W} (IH : zGd T U D l ρ γ es0 ih) (C : zCx T U D l ρ γ es0 r p e s m args below meth c A Q K cs ss η0 nf0) (V : zIv T U D ρ γ es0 s A r η0 nf0 η H locs ls lo ca fa nf es) {z : Int} (hd : decode r.1.2.1 pc = .ok (.iconst z, n)) (h : zpush ih r pc lo ca fa nf K n 1 (.inl (.inl z)) sk = true) : W p l e (xrm r.1) s m args below meth c H locs cs ss Q (F0 m (pc) ls ((sk.map (zv ρ η)))) := by
  obtain ⟨rfl, k⟩ := ok_zpush IH C V h
  exact lv_iconst C.1 C.2.1 hd rfl k
set_option maxHeartbeats 1000000 in
theorem oz_bipush {T : zTb} {U : zRn} {D : va_G} {l : Launch} {ρ : Nat → Nat} {γ : Nat → ClassId} {es0 : va_W} {ih : zS} {r : zR} {p : Program} {e : Env} {s : State} {m : MethodId} {args : Array Value} {below : List Frame} {meth : Method} {c : Code} {A : Nat → Prop} {Q : State → Prop} {K : zK} {cs ss : Nat} {η0 : zE} {nf0 : Nat} {pc : Nat} {lo : zL} {sk : List zV} {ca : zCa} {fa : zFa} {nf : Nat} {n : Nat} {η : zE} {H : Heap} {locs : List Loc} {ls : Array Slot} {es : va_W} (IH : zGd T U D l ρ γ es0 ih) (C : zCx T U D l ρ γ es0 r p e s m args below meth c A Q K cs ss η0 nf0) (V : zIv T U D ρ γ es0 s A r η0 nf0 η H locs ls lo ca fa nf es) {z : Int} (hd : decode r.1.2.1 pc = .ok (.bipush z, n)) (h : zpush ih r pc lo ca fa nf K n 2 (.inl (.inl (Int8.ofInt z).toInt32.toInt)) sk = true) : W p l e (xrm r.1) s m args below meth c H locs cs ss Q (F0 m (pc) ls ((sk.map (zv ρ η)))) := by
  obtain ⟨rfl, k⟩ := ok_zpush IH C V h
  exact lv_bipush C.1 C.2.1 hd (i32_of _).symm k
set_option maxHeartbeats 1000000 in
theorem oz_sipush {T : zTb} {U : zRn} {D : va_G} {l : Launch} {ρ : Nat → Nat} {γ : Nat → ClassId} {es0 : va_W} {ih : zS} {r : zR} {p : Program} {e : Env} {s : State} {m : MethodId} {args : Array Value} {below : List Frame} {meth : Method} {c : Code} {A : Nat → Prop} {Q : State → Prop} {K : zK} {cs ss : Nat} {η0 : zE} {nf0 : Nat} {pc : Nat} {lo : zL} {sk : List zV} {ca : zCa} {fa : zFa} {nf : Nat} {n : Nat} {η : zE} {H : Heap} {locs : List Loc} {ls : Array Slot} {es : va_W} (IH : zGd T U D l ρ γ es0 ih) (C : zCx T U D l ρ γ es0 r p e s m args below meth c A Q K cs ss η0 nf0) (V : zIv T U D ρ γ es0 s A r η0 nf0 η H locs ls lo ca fa nf es) {z : Int} (hd : decode r.1.2.1 pc = .ok (.sipush z, n)) (h : zpush ih r pc lo ca fa nf K n 3 (.inl (.inl (Int16.ofInt z).toInt32.toInt)) sk = true) : W p l e (xrm r.1) s m args below meth c H locs cs ss Q (F0 m (pc) ls ((sk.map (zv ρ η)))) := by
  obtain ⟨rfl, k⟩ := ok_zpush IH C V h
  exact lv_sipush C.1 C.2.1 hd (i32_of _).symm k
set_option maxHeartbeats 1000000 in
theorem oz_lconst {T : zTb} {U : zRn} {D : va_G} {l : Launch} {ρ : Nat → Nat} {γ : Nat → ClassId} {es0 : va_W} {ih : zS} {r : zR} {p : Program} {e : Env} {s : State} {m : MethodId} {args : Array Value} {below : List Frame} {meth : Method} {c : Code} {A : Nat → Prop} {Q : State → Prop} {K : zK} {cs ss : Nat} {η0 : zE} {nf0 : Nat} {pc : Nat} {lo : zL} {sk : List zV} {ca : zCa} {fa : zFa} {nf : Nat} {n : Nat} {η : zE} {H : Heap} {locs : List Loc} {ls : Array Slot} {es : va_W} (IH : zGd T U D l ρ γ es0 ih) (C : zCx T U D l ρ γ es0 r p e s m args below meth c A Q K cs ss η0 nf0) (V : zIv T U D ρ γ es0 s A r η0 nf0 η H locs ls lo ca fa nf es) {z : Fin 2} (hd : decode r.1.2.1 pc = .ok (.lconst z, n)) (h : zpush ih r pc lo ca fa nf K n 1 (.inr (.inr (.inl (Int64.ofNat (z : Nat)).toInt))) sk = true) : W p l e (xrm r.1) s m args below meth c H locs cs ss Q (F0 m (pc) ls ((sk.map (zv ρ η)))) := by
  obtain ⟨rfl, k⟩ := ok_zpush IH C V h
  exact lv_lconst C.1 C.2.1 hd (i64_of _).symm k
set_option maxHeartbeats 1000000 in
theorem ok_zload {T : zTb} {U : zRn} {D : va_G} {l : Launch} {ρ : Nat → Nat} {γ : Nat → ClassId} {es0 : va_W} {ih : zS} {r : zR} {p : Program} {e : Env} {s : State} {m : MethodId} {args : Array Value} {below : List Frame} {meth : Method} {c : Code} {A : Nat → Prop} {Q : State → Prop} {K : zK} {cs ss : Nat} {η0 : zE} {nf0 : Nat} {pc : Nat} {lo : zL} {sk : List zV} {ca : zCa} {fa : zFa} {nf : Nat} {n : Nat} {η : zE} {H : Heap} {locs : List Loc} {ls : Array Slot} {es : va_W} (IH : zGd T U D l ρ γ es0 ih) (C : zCx T U D l ρ γ es0 r p e s m args below meth c A Q K cs ss η0 nf0) (V : zIv T U D ρ γ es0 s A r η0 nf0 η H locs ls lo ca fa nf es) {d i : Nat} {ok : zV → Bool} (h : zload ih r pc lo sk ca fa nf K n d i ok = true) : ∃ v, ok v = true ∧ ls[i]? = some (.val (zv ρ η v)) ∧ n = d ∧ W p l e (xrm r.1) s m args below meth c H locs cs ss Q (F0 m (pc + d) ls (zv ρ η v :: sk.map (zv ρ η))) := by
  unfold zload at h
  cases e : zll lo i with
  | none => rw [e] at h; cases h
  | some v =>
    rw [e] at h
    dsimp only at h
    rw [Bool.and_eq_true] at h
    obtain ⟨a, b⟩ := ok_zpush IH C V h.2
    exact ⟨v, h.1, V.2.2.2.1.2.2 _ (zll_ok e), a, b⟩
set_option maxHeartbeats 1000000 in
theorem oz_iload_n {T : zTb} {U : zRn} {D : va_G} {l : Launch} {ρ : Nat → Nat} {γ : Nat → ClassId} {es0 : va_W} {ih : zS} {r : zR} {p : Program} {e : Env} {s : State} {m : MethodId} {args : Array Value} {below : List Frame} {meth : Method} {c : Code} {A : Nat → Prop} {Q : State → Prop} {K : zK} {cs ss : Nat} {η0 : zE} {nf0 : Nat} {pc : Nat} {lo : zL} {sk : List zV} {ca : zCa} {fa : zFa} {nf : Nat} {n : Nat} {η : zE} {H : Heap} {locs : List Loc} {ls : Array Slot} {es : va_W} (IH : zGd T U D l ρ γ es0 ih) (C : zCx T U D l ρ γ es0 r p e s m args below meth c A Q K cs ss η0 nf0) (V : zIv T U D ρ γ es0 s A r η0 nf0 η H locs ls lo ca fa nf es) {k : Fin 4} (hd : decode r.1.2.1 pc = .ok (.iload_n k, n)) (h : zload ih r pc lo sk ca fa nf K n 1 (k : Nat) zisI = true) : W p l e (xrm r.1) s m args below meth c H locs cs ss Q (F0 m (pc) ls ((sk.map (zv ρ η)))) := by
  obtain ⟨v, hv, hl, rfl, kk⟩ := ok_zload IH C V h
  rcases v with a | b
  · exact lv_iload_n C.1 C.2.1 hd rfl hl kk
  · rcases b with b | b <;> cases hv
set_option maxHeartbeats 1000000 in
theorem oz_iload {T : zTb} {U : zRn} {D : va_G} {l : Launch} {ρ : Nat → Nat} {γ : Nat → ClassId} {es0 : va_W} {ih : zS} {r : zR} {p : Program} {e : Env} {s : State} {m : MethodId} {args : Array Value} {below : List Frame} {meth : Method} {c : Code} {A : Nat → Prop} {Q : State → Prop} {K : zK} {cs ss : Nat} {η0 : zE} {nf0 : Nat} {pc : Nat} {lo : zL} {sk : List zV} {ca : zCa} {fa : zFa} {nf : Nat} {n : Nat} {η : zE} {H : Heap} {locs : List Loc} {ls : Array Slot} {es : va_W} (IH : zGd T U D l ρ γ es0 ih) (C : zCx T U D l ρ γ es0 r p e s m args below meth c A Q K cs ss η0 nf0) (V : zIv T U D ρ γ es0 s A r η0 nf0 η H locs ls lo ca fa nf es) {k : Nat} (hd : decode r.1.2.1 pc = .ok (.iload k, n)) (h : zload ih r pc lo sk ca fa nf K n 2 k zisI = true) : W p l e (xrm r.1) s m args below meth c H locs cs ss Q (F0 m (pc) ls ((sk.map (zv ρ η)))) := by
  obtain ⟨v, hv, hl, rfl, kk⟩ := ok_zload IH C V h
  rcases v with a | b
  · exact lv_iload C.1 C.2.1 hd hl kk
  · rcases b with b | b <;> cases hv
set_option maxHeartbeats 1000000 in
theorem oz_lload_n {T : zTb} {U : zRn} {D : va_G} {l : Launch} {ρ : Nat → Nat} {γ : Nat → ClassId} {es0 : va_W} {ih : zS} {r : zR} {p : Program} {e : Env} {s : State} {m : MethodId} {args : Array Value} {below : List Frame} {meth : Method} {c : Code} {A : Nat → Prop} {Q : State → Prop} {K : zK} {cs ss : Nat} {η0 : zE} {nf0 : Nat} {pc : Nat} {lo : zL} {sk : List zV} {ca : zCa} {fa : zFa} {nf : Nat} {n : Nat} {η : zE} {H : Heap} {locs : List Loc} {ls : Array Slot} {es : va_W} (IH : zGd T U D l ρ γ es0 ih) (C : zCx T U D l ρ γ es0 r p e s m args below meth c A Q K cs ss η0 nf0) (V : zIv T U D ρ γ es0 s A r η0 nf0 η H locs ls lo ca fa nf es) {k : Fin 4} (hd : decode r.1.2.1 pc = .ok (.lload_n k, n)) (h : zload ih r pc lo sk ca fa nf K n 1 (k : Nat) zisL = true) : W p l e (xrm r.1) s m args below meth c H locs cs ss Q (F0 m (pc) ls ((sk.map (zv ρ η)))) := by
  obtain ⟨v, hv, hl, rfl, kk⟩ := ok_zload IH C V h
  rcases v with a | b | b
  · cases hv
  · cases hv
  · exact lv_lload_n C.1 C.2.1 hd rfl hl kk
set_option maxHeartbeats 1000000 in
theorem oz_lload {T : zTb} {U : zRn} {D : va_G} {l : Launch} {ρ : Nat → Nat} {γ : Nat → ClassId} {es0 : va_W} {ih : zS} {r : zR} {p : Program} {e : Env} {s : State} {m : MethodId} {args : Array Value} {below : List Frame} {meth : Method} {c : Code} {A : Nat → Prop} {Q : State → Prop} {K : zK} {cs ss : Nat} {η0 : zE} {nf0 : Nat} {pc : Nat} {lo : zL} {sk : List zV} {ca : zCa} {fa : zFa} {nf : Nat} {n : Nat} {η : zE} {H : Heap} {locs : List Loc} {ls : Array Slot} {es : va_W} (IH : zGd T U D l ρ γ es0 ih) (C : zCx T U D l ρ γ es0 r p e s m args below meth c A Q K cs ss η0 nf0) (V : zIv T U D ρ γ es0 s A r η0 nf0 η H locs ls lo ca fa nf es) {k : Nat} (hd : decode r.1.2.1 pc = .ok (.lload k, n)) (h : zload ih r pc lo sk ca fa nf K n 2 k zisL = true) : W p l e (xrm r.1) s m args below meth c H locs cs ss Q (F0 m (pc) ls ((sk.map (zv ρ η)))) := by
  obtain ⟨v, hv, hl, rfl, kk⟩ := ok_zload IH C V h
  rcases v with a | b | b
  · cases hv
  · cases hv
  · exact lv_lload C.1 C.2.1 hd hl kk
set_option maxHeartbeats 1000000 in
theorem oz_aload_n {T : zTb} {U : zRn} {D : va_G} {l : Launch} {ρ : Nat → Nat} {γ : Nat → ClassId} {es0 : va_W} {ih : zS} {r : zR} {p : Program} {e : Env} {s : State} {m : MethodId} {args : Array Value} {below : List Frame} {meth : Method} {c : Code} {A : Nat → Prop} {Q : State → Prop} {K : zK} {cs ss : Nat} {η0 : zE} {nf0 : Nat} {pc : Nat} {lo : zL} {sk : List zV} {ca : zCa} {fa : zFa} {nf : Nat} {n : Nat} {η : zE} {H : Heap} {locs : List Loc} {ls : Array Slot} {es : va_W} (IH : zGd T U D l ρ γ es0 ih) (C : zCx T U D l ρ γ es0 r p e s m args below meth c A Q K cs ss η0 nf0) (V : zIv T U D ρ γ es0 s A r η0 nf0 η H locs ls lo ca fa nf es) {k : Fin 4} (hd : decode r.1.2.1 pc = .ok (.aload_n k, n)) (h : zload ih r pc lo sk ca fa nf K n 1 (k : Nat) zisR = true) : W p l e (xrm r.1) s m args below meth c H locs cs ss Q (F0 m (pc) ls ((sk.map (zv ρ η)))) := by
  obtain ⟨v, hv, hl, rfl, kk⟩ := ok_zload IH C V h
  rcases v with a | (_ | b) | b
  · cases hv
  · exact lv_aload_nN C.1 C.2.1 hd rfl hl kk
  · exact lv_aload_n C.1 C.2.1 hd rfl hl kk
  · cases hv
set_option maxHeartbeats 1000000 in
theorem oz_aload {T : zTb} {U : zRn} {D : va_G} {l : Launch} {ρ : Nat → Nat} {γ : Nat → ClassId} {es0 : va_W} {ih : zS} {r : zR} {p : Program} {e : Env} {s : State} {m : MethodId} {args : Array Value} {below : List Frame} {meth : Method} {c : Code} {A : Nat → Prop} {Q : State → Prop} {K : zK} {cs ss : Nat} {η0 : zE} {nf0 : Nat} {pc : Nat} {lo : zL} {sk : List zV} {ca : zCa} {fa : zFa} {nf : Nat} {n : Nat} {η : zE} {H : Heap} {locs : List Loc} {ls : Array Slot} {es : va_W} (IH : zGd T U D l ρ γ es0 ih) (C : zCx T U D l ρ γ es0 r p e s m args below meth c A Q K cs ss η0 nf0) (V : zIv T U D ρ γ es0 s A r η0 nf0 η H locs ls lo ca fa nf es) {k : Nat} (hd : decode r.1.2.1 pc = .ok (.aload k, n)) (h : zload ih r pc lo sk ca fa nf K n 2 k zisR = true) : W p l e (xrm r.1) s m args below meth c H locs cs ss Q (F0 m (pc) ls ((sk.map (zv ρ η)))) := by
  obtain ⟨v, hv, hl, rfl, kk⟩ := ok_zload IH C V h
  rcases v with a | (_ | b) | b
  · cases hv
  · exact lv_aloadN C.1 C.2.1 hd hl kk
  · exact lv_aload C.1 C.2.1 hd hl kk
  · cases hv
set_option maxHeartbeats 1000000 in
theorem ok_zstore {T : zTb} {U : zRn} {D : va_G} {l : Launch} {ρ : Nat → Nat} {γ : Nat → ClassId} {es0 : va_W} {ih : zS} {r : zR} {p : Program} {e : Env} {s : State} {m : MethodId} {args : Array Value} {below : List Frame} {meth : Method} {c : Code} {A : Nat → Prop} {Q : State → Prop} {K : zK} {cs ss : Nat} {η0 : zE} {nf0 : Nat} {pc : Nat} {lo : zL} {sk : List zV} {ca : zCa} {fa : zFa} {nf : Nat} {n : Nat} {η : zE} {H : Heap} {locs : List Loc} {ls : Array Slot} {es : va_W} (IH : zGd T U D l ρ γ es0 ih) (C : zCx T U D l ρ γ es0 r p e s m args below meth c A Q K cs ss η0 nf0) (V : zIv T U D ρ γ es0 s A r η0 nf0 η H locs ls lo ca fa nf es) {d i : Nat} {ok : zV → Bool} (h : zstore ih r pc lo sk ca fa nf K n d i ok = true) : ∃ v rest, sk = v :: rest ∧ ok v = true ∧ n = d ∧ i < r.1.2.2.1 ∧ ∀ ls2, lv_has ls2 r.1.2.2.1 ((i, zv ρ η v) :: (zdL ρ η lo).filter (fun q => !(q.1 == i) && !(q.1 + 1 == i && q.2.category == 2))) → W p l e (xrm r.1) s m args below meth c H locs cs ss Q (F0 m (pc + d) ls2 (rest.map (zv ρ η))) := by
  cases sk with
  | nil => cases h
  | cons v rest =>
    unfold zstore at h
    dsimp only at h
    rw [Bool.and_eq_true, Bool.and_eq_true, Bool.and_eq_true, gFil_eq, fN_eq] at h
    refine ⟨v, rest, rfl, h.2.1, Nat.eq_of_beq_eq_true h.1, Nat.le_of_ble_eq_true h.2.2.1, fun ls2 h2 => ?_⟩
    refine IH _ _ _ _ _ _ _ _ _ _ _ _ _ _ _ _ C _ _ _ _ _ _ h.2.2.2 η H locs ls2 es (V.lo ?_)
    rw [zdL_p1] at h2
    exact h2
set_option maxHeartbeats 1000000 in
theorem oz_istore_n {T : zTb} {U : zRn} {D : va_G} {l : Launch} {ρ : Nat → Nat} {γ : Nat → ClassId} {es0 : va_W} {ih : zS} {r : zR} {p : Program} {e : Env} {s : State} {m : MethodId} {args : Array Value} {below : List Frame} {meth : Method} {c : Code} {A : Nat → Prop} {Q : State → Prop} {K : zK} {cs ss : Nat} {η0 : zE} {nf0 : Nat} {pc : Nat} {lo : zL} {sk : List zV} {ca : zCa} {fa : zFa} {nf : Nat} {n : Nat} {η : zE} {H : Heap} {locs : List Loc} {ls : Array Slot} {es : va_W} (IH : zGd T U D l ρ γ es0 ih) (C : zCx T U D l ρ γ es0 r p e s m args below meth c A Q K cs ss η0 nf0) (V : zIv T U D ρ γ es0 s A r η0 nf0 η H locs ls lo ca fa nf es) {k : Fin 4} (hd : decode r.1.2.1 pc = .ok (.istore_n k, n)) (h : zstore ih r pc lo sk ca fa nf K n 1 (k : Nat) zisI = true) : W p l e (xrm r.1) s m args below meth c H locs cs ss Q (F0 m (pc) ls ((sk.map (zv ρ η)))) := by
  obtain ⟨v, rest, rfl, hv, rfl, hi, kk⟩ := ok_zstore IH C V h
  rcases v with a | b
  · exact lv_istore_n C.1 C.2.1 hd rfl V.2.2.2.1 hi rfl kk
  · rcases b with b | b <;> cases hv
set_option maxHeartbeats 1000000 in
theorem oz_istore {T : zTb} {U : zRn} {D : va_G} {l : Launch} {ρ : Nat → Nat} {γ : Nat → ClassId} {es0 : va_W} {ih : zS} {r : zR} {p : Program} {e : Env} {s : State} {m : MethodId} {args : Array Value} {below : List Frame} {meth : Method} {c : Code} {A : Nat → Prop} {Q : State → Prop} {K : zK} {cs ss : Nat} {η0 : zE} {nf0 : Nat} {pc : Nat} {lo : zL} {sk : List zV} {ca : zCa} {fa : zFa} {nf : Nat} {n : Nat} {η : zE} {H : Heap} {locs : List Loc} {ls : Array Slot} {es : va_W} (IH : zGd T U D l ρ γ es0 ih) (C : zCx T U D l ρ γ es0 r p e s m args below meth c A Q K cs ss η0 nf0) (V : zIv T U D ρ γ es0 s A r η0 nf0 η H locs ls lo ca fa nf es) {k : Nat} (hd : decode r.1.2.1 pc = .ok (.istore k, n)) (h : zstore ih r pc lo sk ca fa nf K n 2 k zisI = true) : W p l e (xrm r.1) s m args below meth c H locs cs ss Q (F0 m (pc) ls ((sk.map (zv ρ η)))) := by
  obtain ⟨v, rest, rfl, hv, rfl, hi, kk⟩ := ok_zstore IH C V h
  rcases v with a | b
  · exact lv_istore C.1 C.2.1 hd V.2.2.2.1 hi rfl kk
  · rcases b with b | b <;> cases hv
set_option maxHeartbeats 1000000 in
theorem oz_astore_n {T : zTb} {U : zRn} {D : va_G} {l : Launch} {ρ : Nat → Nat} {γ : Nat → ClassId} {es0 : va_W} {ih : zS} {r : zR} {p : Program} {e : Env} {s : State} {m : MethodId} {args : Array Value} {below : List Frame} {meth : Method} {c : Code} {A : Nat → Prop} {Q : State → Prop} {K : zK} {cs ss : Nat} {η0 : zE} {nf0 : Nat} {pc : Nat} {lo : zL} {sk : List zV} {ca : zCa} {fa : zFa} {nf : Nat} {n : Nat} {η : zE} {H : Heap} {locs : List Loc} {ls : Array Slot} {es : va_W} (IH : zGd T U D l ρ γ es0 ih) (C : zCx T U D l ρ γ es0 r p e s m args below meth c A Q K cs ss η0 nf0) (V : zIv T U D ρ γ es0 s A r η0 nf0 η H locs ls lo ca fa nf es) {k : Fin 4} (hd : decode r.1.2.1 pc = .ok (.astore_n k, n)) (h : zstore ih r pc lo sk ca fa nf K n 1 (k : Nat) zisR = true) : W p l e (xrm r.1) s m args below meth c H locs cs ss Q (F0 m (pc) ls ((sk.map (zv ρ η)))) := by
  obtain ⟨v, rest, rfl, hv, rfl, hi, kk⟩ := ok_zstore IH C V h
  rcases v with a | (_ | b) | b
  · cases hv
  · exact lv_astore_nN C.1 C.2.1 hd rfl V.2.2.2.1 hi rfl kk
  · exact lv_astore_n C.1 C.2.1 hd rfl V.2.2.2.1 hi rfl kk
  · cases hv
set_option maxHeartbeats 1000000 in
theorem oz_astore {T : zTb} {U : zRn} {D : va_G} {l : Launch} {ρ : Nat → Nat} {γ : Nat → ClassId} {es0 : va_W} {ih : zS} {r : zR} {p : Program} {e : Env} {s : State} {m : MethodId} {args : Array Value} {below : List Frame} {meth : Method} {c : Code} {A : Nat → Prop} {Q : State → Prop} {K : zK} {cs ss : Nat} {η0 : zE} {nf0 : Nat} {pc : Nat} {lo : zL} {sk : List zV} {ca : zCa} {fa : zFa} {nf : Nat} {n : Nat} {η : zE} {H : Heap} {locs : List Loc} {ls : Array Slot} {es : va_W} (IH : zGd T U D l ρ γ es0 ih) (C : zCx T U D l ρ γ es0 r p e s m args below meth c A Q K cs ss η0 nf0) (V : zIv T U D ρ γ es0 s A r η0 nf0 η H locs ls lo ca fa nf es) {k : Nat} (hd : decode r.1.2.1 pc = .ok (.astore k, n)) (h : zstore ih r pc lo sk ca fa nf K n 2 k zisR = true) : W p l e (xrm r.1) s m args below meth c H locs cs ss Q (F0 m (pc) ls ((sk.map (zv ρ η)))) := by
  obtain ⟨v, rest, rfl, hv, rfl, hi, kk⟩ := ok_zstore IH C V h
  rcases v with a | (_ | b) | b
  · cases hv
  · exact lv_astoreN C.1 C.2.1 hd V.2.2.2.1 hi rfl kk
  · exact lv_astore C.1 C.2.1 hd V.2.2.2.1 hi rfl kk
  · cases hv
set_option maxHeartbeats 1000000 in
theorem ok_zstoreL {T : zTb} {U : zRn} {D : va_G} {l : Launch} {ρ : Nat → Nat} {γ : Nat → ClassId} {es0 : va_W} {ih : zS} {r : zR} {p : Program} {e : Env} {s : State} {m : MethodId} {args : Array Value} {below : List Frame} {meth : Method} {c : Code} {A : Nat → Prop} {Q : State → Prop} {K : zK} {cs ss : Nat} {η0 : zE} {nf0 : Nat} {pc : Nat} {lo : zL} {sk : List zV} {ca : zCa} {fa : zFa} {nf : Nat} {n : Nat} {η : zE} {H : Heap} {locs : List Loc} {ls : Array Slot} {es : va_W} (IH : zGd T U D l ρ γ es0 ih) (C : zCx T U D l ρ γ es0 r p e s m args below meth c A Q K cs ss η0 nf0) (V : zIv T U D ρ γ es0 s A r η0 nf0 η H locs ls lo ca fa nf es) {d i : Nat} (h : zstoreL ih r pc lo sk ca fa nf K n d i = true) : ∃ (z : zI) (rest : List zV), sk = .inr (.inr z) :: rest ∧ n = d ∧ i + 1 < r.1.2.2.1 ∧ ∀ ls2, lv_has ls2 r.1.2.2.1 ((i, Value.long (Int64.ofInt (zd η z))) :: (zdL ρ η lo).filter (fun q => !(q.1 == i) && (!(q.1 == i + 1) && !(q.1 + 1 == i && q.2.category == 2)))) → W p l e (xrm r.1) s m args below meth c H locs cs ss Q (F0 m (pc + d) ls2 (rest.map (zv ρ η))) := by
  unfold zstoreL at h
  split at h
  · rename_i z rest
    rw [Bool.and_eq_true, Bool.and_eq_true, gFil_eq, fN_eq] at h
    refine ⟨z, rest, rfl, Nat.eq_of_beq_eq_true h.1, Nat.le_of_ble_eq_true h.2.1, fun ls2 h2 => ?_⟩
    refine IH _ _ _ _ _ _ _ _ _ _ _ _ _ _ _ _ C _ _ _ _ _ _ h.2.2 η H locs ls2 es (V.lo ?_)
    rw [zdL_p2] at h2
    exact h2
  · cases h
set_option maxHeartbeats 1000000 in
theorem oz_lstore_n {T : zTb} {U : zRn} {D : va_G} {l : Launch} {ρ : Nat → Nat} {γ : Nat → ClassId} {es0 : va_W} {ih : zS} {r : zR} {p : Program} {e : Env} {s : State} {m : MethodId} {args : Array Value} {below : List Frame} {meth : Method} {c : Code} {A : Nat → Prop} {Q : State → Prop} {K : zK} {cs ss : Nat} {η0 : zE} {nf0 : Nat} {pc : Nat} {lo : zL} {sk : List zV} {ca : zCa} {fa : zFa} {nf : Nat} {n : Nat} {η : zE} {H : Heap} {locs : List Loc} {ls : Array Slot} {es : va_W} (IH : zGd T U D l ρ γ es0 ih) (C : zCx T U D l ρ γ es0 r p e s m args below meth c A Q K cs ss η0 nf0) (V : zIv T U D ρ γ es0 s A r η0 nf0 η H locs ls lo ca fa nf es) {k : Fin 4} (hd : decode r.1.2.1 pc = .ok (.lstore_n k, n)) (h : zstoreL ih r pc lo sk ca fa nf K n 1 (k : Nat) = true) : W p l e (xrm r.1) s m args below meth c H locs cs ss Q (F0 m (pc) ls ((sk.map (zv ρ η)))) := by
  obtain ⟨z, rest, rfl, rfl, hi, kk⟩ := ok_zstoreL IH C V h
  exact lv_lstore_n C.1 C.2.1 hd rfl V.2.2.2.1 hi rfl kk
set_option maxHeartbeats 1000000 in
theorem oz_lstore {T : zTb} {U : zRn} {D : va_G} {l : Launch} {ρ : Nat → Nat} {γ : Nat → ClassId} {es0 : va_W} {ih : zS} {r : zR} {p : Program} {e : Env} {s : State} {m : MethodId} {args : Array Value} {below : List Frame} {meth : Method} {c : Code} {A : Nat → Prop} {Q : State → Prop} {K : zK} {cs ss : Nat} {η0 : zE} {nf0 : Nat} {pc : Nat} {lo : zL} {sk : List zV} {ca : zCa} {fa : zFa} {nf : Nat} {n : Nat} {η : zE} {H : Heap} {locs : List Loc} {ls : Array Slot} {es : va_W} (IH : zGd T U D l ρ γ es0 ih) (C : zCx T U D l ρ γ es0 r p e s m args below meth c A Q K cs ss η0 nf0) (V : zIv T U D ρ γ es0 s A r η0 nf0 η H locs ls lo ca fa nf es) {k : Nat} (hd : decode r.1.2.1 pc = .ok (.lstore k, n)) (h : zstoreL ih r pc lo sk ca fa nf K n 2 k = true) : W p l e (xrm r.1) s m args below meth c H locs cs ss Q (F0 m (pc) ls ((sk.map (zv ρ η)))) := by
  obtain ⟨z, rest, rfl, rfl, hi, kk⟩ := ok_zstoreL IH C V h
  exact lv_lstore C.1 C.2.1 hd V.2.2.2.1 hi rfl kk
set_option maxHeartbeats 1000000 in
theorem oz_iinc {T : zTb} {U : zRn} {D : va_G} {l : Launch} {ρ : Nat → Nat} {γ : Nat → ClassId} {es0 : va_W} {ih : zS} {r : zR} {p : Program} {e : Env} {s : State} {m : MethodId} {args : Array Value} {below : List Frame} {meth : Method} {c : Code} {A : Nat → Prop} {Q : State → Prop} {K : zK} {cs ss : Nat} {η0 : zE} {nf0 : Nat} {pc : Nat} {lo : zL} {sk : List zV} {ca : zCa} {fa : zFa} {nf : Nat} {n : Nat} {η : zE} {H : Heap} {locs : List Loc} {ls : Array Slot} {es : va_W} (IH : zGd T U D l ρ γ es0 ih) (C : zCx T U D l ρ γ es0 r p e s m args below meth c A Q K cs ss η0 nf0) (V : zIv T U D ρ γ es0 s A r η0 nf0 η H locs ls lo ca fa nf es) {i : Nat} {z : Int} (hd : decode r.1.2.1 pc = .ok (.iinc i z, n)) (h : ziinc ih r pc lo sk ca fa nf K n i z = true) : W p l e (xrm r.1) s m args below meth c H locs cs ss Q (F0 m (pc) ls ((sk.map (zv ρ η)))) := by
  unfold ziinc at h
  split at h
  · rename_i a e
    rw [Bool.and_eq_true, Bool.and_eq_true] at h
    obtain ⟨h1, h2, h⟩ := h
    have h1 := Nat.eq_of_beq_eq_true h1
    subst h1
    have hm := zll_ok (ρ := ρ) (η := η) e
    obtain ⟨k, hk⟩ := List.getElem?_of_mem hm
    have e3 : zi η (zad a z) = zi η a + Int32.ofInt z := by
      unfold zi
      rw [zd_ad, Int32.ofInt_add]
    refine lv_iinc (v := zi η (zad a z)) C.1 C.2.1 hd V.2.2.2.1 hk e3.symm (Nat.le_of_ble_eq_true h2) rfl (fun ls2 h5 => ?_)
    rw [zdL_p1] at h5
    cases e2 : z32 fa (zad a z) with
    | true =>
      rw [e2] at h
      dsimp only at h
      rw [gI_eq, gFil_eq, fN_eq] at h
      exact IH _ _ _ _ _ _ _ _ _ _ _ _ _ _ _ _ C _ _ _ _ _ _ h η H locs ls2 es (V.lo h5)
    | false =>
      rw [e2] at h
      dsimp only at h
      rw [Bool.and_eq_true, gFil_eq, fN_eq, fN_eq] at h
      obtain ⟨V2, e4⟩ := zIv.up V (g := (zfull.1, zfull.2, [])) (rl := []) (mm := []) (zbd32 (zi η (zad a z))) h.1 ⟨(i32_bd _).1, (i32_bd _).2, fun _ z => by cases z⟩ (fun _ z => by cases z) (fun _ z => by cases z)
      have hb : zbL nf lo = true := by
        have h9 := h.1
        unfold znew at h9
        rw [Bool.and_eq_true, Bool.and_eq_true] at h9
        exact h9.2.1
      have k2 := IH _ _ _ _ _ _ _ _ _ _ _ _ _ _ _ _ C _ _ _ _ _ _ h.2 _ H locs ls2 es (V2.lo (by
        show lv_has ls2 r.1.2.2.1 ((i, zv ρ _ (.inl (zsym nf))) :: zdL ρ _ (lo.filter (zp1 i)))
        rw [zv_sym, zbL_ag (zup_ag η nf _) ρ (zbL_fil _ hb)]
        exact h5))
      rw [e4] at k2
      exact k2
  · cases h
theorem zandr_ok {η : zE} {nf o : Nat} {a b : zI} {lb hb : Int} (h1 : lb ≤ zd η b) (h2 : zd η b ≤ hb) : ∀ z ∈ zandr nf o b lb hb, zrs (zup η nf (xop o (zi η a) (zi η b)).toInt) z := by
  intro z hz
  unfold zandr at hz
  split at hz
  · rename_i k0 m0 c0
    split at hz
    · rename_i e9
      rw [Bool.and_eq_true, Bool.and_eq_true, Bool.and_eq_true, decide_eq_true_eq, decide_eq_true_eq] at e9
      obtain ⟨e1, e2, e3, e4⟩ := e9
      simp only [xin, Bool.and_eq_true, decide_eq_true_eq] at e3
      have hr := and_rel (x := zd η a) (y := zd η (.inr (k0, m0, c0))) (by omega) (by omega)
      rcases List.mem_singleton.mp hz with rfl
      show zup η nf _ nf - zup η nf _ k0 ≤ c0
      rw [zup_n, zup_ag η nf _ k0 (blt_ok e4)]
      have e5 : zd η (.inr (k0, m0, c0)) = 1 * η k0 + c0 := by
        show m0 * η k0 + c0 = _
        rw [e1]
      have hr : (xop 3 (zi η a) (zi η (.inr (k0, m0, c0)))).toInt ≤ zd η (.inr (k0, m0, c0)) := hr
      omega
    · cases hz
  · cases hz
set_option maxHeartbeats 1000000 in
theorem ok_zbin {T : zTb} {U : zRn} {D : va_G} {l : Launch} {ρ : Nat → Nat} {γ : Nat → ClassId} {es0 : va_W} {ih : zS} {r : zR} {p : Program} {e : Env} {s : State} {m : MethodId} {args : Array Value} {below : List Frame} {meth : Method} {c : Code} {A : Nat → Prop} {Q : State → Prop} {K : zK} {cs ss : Nat} {η0 : zE} {nf0 : Nat} {pc : Nat} {lo : zL} {sk : List zV} {ca : zCa} {fa : zFa} {nf : Nat} {n : Nat} {η : zE} {H : Heap} {locs : List Loc} {ls : Array Slot} {es : va_W} (IH : zGd T U D l ρ γ es0 ih) (C : zCx T U D l ρ γ es0 r p e s m args below meth c A Q K cs ss η0 nf0) (V : zIv T U D ρ γ es0 s A r η0 nf0 η H locs ls lo ca fa nf es) {o : Nat} (hrow : ∀ (x y : Int32) (rest : List Value), n = 1 → W p l e (xrm r.1) s m args below meth c H locs cs ss Q (F0 m (pc + 1) ls (.int (xop o x y) :: rest)) → W p l e (xrm r.1) s m args below meth c H locs cs ss Q (F0 m (pc) ls (.int y :: .int x :: rest))) (h : zbin ih r pc lo sk ca fa nf K n o = true) : W p l e (xrm r.1) s m args below meth c H locs cs ss Q (F0 m (pc) ls ((sk.map (zv ρ η)))) := by
  unfold zbin at h
  split at h
  · rename_i b a rest
    have ha := zrg_ok V.2.2.2.2.1 a
    have hb := zrg_ok V.2.2.2.2.1 b
    split at h
    · rename_i v e
      split at h
      · obtain ⟨h1, k⟩ := ok_zpush IH C V h
        refine hrow (zi η a) (zi η b) _ h1 ?_
        rw [← zsy_ok e]
        exact k
      · obtain ⟨h1, k⟩ := ok_zpuF0 IH C V h (xop o (zi η a) (zi η b)) (i32_bd _)
        exact hrow (zi η a) (zi η b) _ h1 k
    · rw [Bool.and_eq_true] at h
      have ho := blt_ok h.1
      have h := h.2
      have e7 : ∀ x y : Int32, zop o x y = xop o x y := fun x y => by
        unfold zop
        split
        · omega
        · omega
        · rfl
      split at h
      · rename_i k0 e
        obtain ⟨h1, k⟩ := ok_zpush IH C V h
        refine hrow (zi η a) (zi η b) _ h1 ?_
        have e5 : zv ρ η (.inl (zsym k0)) = .int (xop o (zi η a) (zi η b)) := by
          show Value.int (Int32.ofInt (1 * η k0 + 0)) = _
          rw [Int.one_mul, Int.add_zero, zmem_ok V.2.2.2.2.1.2.2.2 e, e7]
        rw [e5] at k
        exact k
      · rw [Bool.and_eq_true, Bool.and_eq_true, zrk_eq, zrk_eq] at h
        have hz := zorg_ok o ha.1 ha.2 hb.1 hb.2
        obtain ⟨h1, k⟩ := ok_zpuF IH C V h.2 (xop o (zi η a) (zi η b)) hz.1 hz.2 (fun _ z => by cases z) (zandr_ok hb.1 hb.2) (fun z hz => by
          rcases List.mem_singleton.mp hz with rfl
          show Int32.ofInt (zup η nf _ nf) = zop o (zi _ a) (zi _ b)
          unfold zi
          rw [zup_n, zbI_ag (zup_ag η nf _) h.1.1, zbI_ag (zup_ag η nf _) h.1.2, e7]
          rw [i32_of])
        exact hrow (zi η a) (zi η b) _ h1 k
  · cases h
set_option maxHeartbeats 1000000 in
theorem oz_iadd {T : zTb} {U : zRn} {D : va_G} {l : Launch} {ρ : Nat → Nat} {γ : Nat → ClassId} {es0 : va_W} {ih : zS} {r : zR} {p : Program} {e : Env} {s : State} {m : MethodId} {args : Array Value} {below : List Frame} {meth : Method} {c : Code} {A : Nat → Prop} {Q : State → Prop} {K : zK} {cs ss : Nat} {η0 : zE} {nf0 : Nat} {pc : Nat} {lo : zL} {sk : List zV} {ca : zCa} {fa : zFa} {nf : Nat} {n : Nat} {η : zE} {H : Heap} {locs : List Loc} {ls : Array Slot} {es : va_W} (IH : zGd T U D l ρ γ es0 ih) (C : zCx T U D l ρ γ es0 r p e s m args below meth c A Q K cs ss η0 nf0) (V : zIv T U D ρ γ es0 s A r η0 nf0 η H locs ls lo ca fa nf es) (hd : decode r.1.2.1 pc = .ok (.iadd, n)) (h : zbin ih r pc lo sk ca fa nf K n 0 = true) : W p l e (xrm r.1) s m args below meth c H locs cs ss Q (F0 m (pc) ls ((sk.map (zv ρ η)))) := by
  refine ok_zbin IH C V (fun x y rest hn k => ?_) h
  subst hn
  exact lv_iadd C.1 C.2.1 hd k
set_option maxHeartbeats 1000000 in
theorem oz_isub {T : zTb} {U : zRn} {D : va_G} {l : Launch} {ρ : Nat → Nat} {γ : Nat → ClassId} {es0 : va_W} {ih : zS} {r : zR} {p : Program} {e : Env} {s : State} {m : MethodId} {args : Array Value} {below : List Frame} {meth : Method} {c : Code} {A : Nat → Prop} {Q : State → Prop} {K : zK} {cs ss : Nat} {η0 : zE} {nf0 : Nat} {pc : Nat} {lo : zL} {sk : List zV} {ca : zCa} {fa : zFa} {nf : Nat} {n : Nat} {η : zE} {H : Heap} {locs : List Loc} {ls : Array Slot} {es : va_W} (IH : zGd T U D l ρ γ es0 ih) (C : zCx T U D l ρ γ es0 r p e s m args below meth c A Q K cs ss η0 nf0) (V : zIv T U D ρ γ es0 s A r η0 nf0 η H locs ls lo ca fa nf es) (hd : decode r.1.2.1 pc = .ok (.isub, n)) (h : zbin ih r pc lo sk ca fa nf K n 1 = true) : W p l e (xrm r.1) s m args below meth c H locs cs ss Q (F0 m (pc) ls ((sk.map (zv ρ η)))) := by
  refine ok_zbin IH C V (fun x y rest hn k => ?_) h
  subst hn
  exact lv_isub C.1 C.2.1 hd k
set_option maxHeartbeats 1000000 in
theorem oz_imul {T : zTb} {U : zRn} {D : va_G} {l : Launch} {ρ : Nat → Nat} {γ : Nat → ClassId} {es0 : va_W} {ih : zS} {r : zR} {p : Program} {e : Env} {s : State} {m : MethodId} {args : Array Value} {below : List Frame} {meth : Method} {c : Code} {A : Nat → Prop} {Q : State → Prop} {K : zK} {cs ss : Nat} {η0 : zE} {nf0 : Nat} {pc : Nat} {lo : zL} {sk : List zV} {ca : zCa} {fa : zFa} {nf : Nat} {n : Nat} {η : zE} {H : Heap} {locs : List Loc} {ls : Array Slot} {es : va_W} (IH : zGd T U D l ρ γ es0 ih) (C : zCx T U D l ρ γ es0 r p e s m args below meth c A Q K cs ss η0 nf0) (V : zIv T U D ρ γ es0 s A r η0 nf0 η H locs ls lo ca fa nf es) (hd : decode r.1.2.1 pc = .ok (.imul, n)) (h : zbin ih r pc lo sk ca fa nf K n 2 = true) : W p l e (xrm r.1) s m args below meth c H locs cs ss Q (F0 m (pc) ls ((sk.map (zv ρ η)))) := by
  refine ok_zbin IH C V (fun x y rest hn k => ?_) h
  subst hn
  exact lv_imul C.1 C.2.1 hd k
set_option maxHeartbeats 1000000 in
theorem oz_iand {T : zTb} {U : zRn} {D : va_G} {l : Launch} {ρ : Nat → Nat} {γ : Nat → ClassId} {es0 : va_W} {ih : zS} {r : zR} {p : Program} {e : Env} {s : State} {m : MethodId} {args : Array Value} {below : List Frame} {meth : Method} {c : Code} {A : Nat → Prop} {Q : State → Prop} {K : zK} {cs ss : Nat} {η0 : zE} {nf0 : Nat} {pc : Nat} {lo : zL} {sk : List zV} {ca : zCa} {fa : zFa} {nf : Nat} {n : Nat} {η : zE} {H : Heap} {locs : List Loc} {ls : Array Slot} {es : va_W} (IH : zGd T U D l ρ γ es0 ih) (C : zCx T U D l ρ γ es0 r p e s m args below meth c A Q K cs ss η0 nf0) (V : zIv T U D ρ γ es0 s A r η0 nf0 η H locs ls lo ca fa nf es) (hd : decode r.1.2.1 pc = .ok (.iand, n)) (h : zbin ih r pc lo sk ca fa nf K n 3 = true) : W p l e (xrm r.1) s m args below meth c H locs cs ss Q (F0 m (pc) ls ((sk.map (zv ρ η)))) := by
  refine ok_zbin IH C V (fun x y rest hn k => ?_) h
  subst hn
  exact lv_iand C.1 C.2.1 hd k
set_option maxHeartbeats 1000000 in
theorem oz_ior {T : zTb} {U : zRn} {D : va_G} {l : Launch} {ρ : Nat → Nat} {γ : Nat → ClassId} {es0 : va_W} {ih : zS} {r : zR} {p : Program} {e : Env} {s : State} {m : MethodId} {args : Array Value} {below : List Frame} {meth : Method} {c : Code} {A : Nat → Prop} {Q : State → Prop} {K : zK} {cs ss : Nat} {η0 : zE} {nf0 : Nat} {pc : Nat} {lo : zL} {sk : List zV} {ca : zCa} {fa : zFa} {nf : Nat} {n : Nat} {η : zE} {H : Heap} {locs : List Loc} {ls : Array Slot} {es : va_W} (IH : zGd T U D l ρ γ es0 ih) (C : zCx T U D l ρ γ es0 r p e s m args below meth c A Q K cs ss η0 nf0) (V : zIv T U D ρ γ es0 s A r η0 nf0 η H locs ls lo ca fa nf es) (hd : decode r.1.2.1 pc = .ok (.ior, n)) (h : zbin ih r pc lo sk ca fa nf K n 4 = true) : W p l e (xrm r.1) s m args below meth c H locs cs ss Q (F0 m (pc) ls ((sk.map (zv ρ η)))) := by
  refine ok_zbin IH C V (fun x y rest hn k => ?_) h
  subst hn
  exact lv_ior C.1 C.2.1 hd k
set_option maxHeartbeats 1000000 in
theorem oz_ixor {T : zTb} {U : zRn} {D : va_G} {l : Launch} {ρ : Nat → Nat} {γ : Nat → ClassId} {es0 : va_W} {ih : zS} {r : zR} {p : Program} {e : Env} {s : State} {m : MethodId} {args : Array Value} {below : List Frame} {meth : Method} {c : Code} {A : Nat → Prop} {Q : State → Prop} {K : zK} {cs ss : Nat} {η0 : zE} {nf0 : Nat} {pc : Nat} {lo : zL} {sk : List zV} {ca : zCa} {fa : zFa} {nf : Nat} {n : Nat} {η : zE} {H : Heap} {locs : List Loc} {ls : Array Slot} {es : va_W} (IH : zGd T U D l ρ γ es0 ih) (C : zCx T U D l ρ γ es0 r p e s m args below meth c A Q K cs ss η0 nf0) (V : zIv T U D ρ γ es0 s A r η0 nf0 η H locs ls lo ca fa nf es) (hd : decode r.1.2.1 pc = .ok (.ixor, n)) (h : zbin ih r pc lo sk ca fa nf K n 5 = true) : W p l e (xrm r.1) s m args below meth c H locs cs ss Q (F0 m (pc) ls ((sk.map (zv ρ η)))) := by
  refine ok_zbin IH C V (fun x y rest hn k => ?_) h
  subst hn
  exact lv_ixor C.1 C.2.1 hd k
set_option maxHeartbeats 1000000 in
theorem oz_ishl {T : zTb} {U : zRn} {D : va_G} {l : Launch} {ρ : Nat → Nat} {γ : Nat → ClassId} {es0 : va_W} {ih : zS} {r : zR} {p : Program} {e : Env} {s : State} {m : MethodId} {args : Array Value} {below : List Frame} {meth : Method} {c : Code} {A : Nat → Prop} {Q : State → Prop} {K : zK} {cs ss : Nat} {η0 : zE} {nf0 : Nat} {pc : Nat} {lo : zL} {sk : List zV} {ca : zCa} {fa : zFa} {nf : Nat} {n : Nat} {η : zE} {H : Heap} {locs : List Loc} {ls : Array Slot} {es : va_W} (IH : zGd T U D l ρ γ es0 ih) (C : zCx T U D l ρ γ es0 r p e s m args below meth c A Q K cs ss η0 nf0) (V : zIv T U D ρ γ es0 s A r η0 nf0 η H locs ls lo ca fa nf es) (hd : decode r.1.2.1 pc = .ok (.ishl, n)) (h : zbin ih r pc lo sk ca fa nf K n 6 = true) : W p l e (xrm r.1) s m args below meth c H locs cs ss Q (F0 m (pc) ls ((sk.map (zv ρ η)))) := by
  refine ok_zbin IH C V (fun x y rest hn k => ?_) h
  subst hn
  exact lv_ishl C.1 C.2.1 hd k
set_option maxHeartbeats 1000000 in
theorem oz_ishr {T : zTb} {U : zRn} {D : va_G} {l : Launch} {ρ : Nat → Nat} {γ : Nat → ClassId} {es0 : va_W} {ih : zS} {r : zR} {p : Program} {e : Env} {s : State} {m : MethodId} {args : Array Value} {below : List Frame} {meth : Method} {c : Code} {A : Nat → Prop} {Q : State → Prop} {K : zK} {cs ss : Nat} {η0 : zE} {nf0 : Nat} {pc : Nat} {lo : zL} {sk : List zV} {ca : zCa} {fa : zFa} {nf : Nat} {n : Nat} {η : zE} {H : Heap} {locs : List Loc} {ls : Array Slot} {es : va_W} (IH : zGd T U D l ρ γ es0 ih) (C : zCx T U D l ρ γ es0 r p e s m args below meth c A Q K cs ss η0 nf0) (V : zIv T U D ρ γ es0 s A r η0 nf0 η H locs ls lo ca fa nf es) (hd : decode r.1.2.1 pc = .ok (.ishr, n)) (h : zbin ih r pc lo sk ca fa nf K n 7 = true) : W p l e (xrm r.1) s m args below meth c H locs cs ss Q (F0 m (pc) ls ((sk.map (zv ρ η)))) := by
  refine ok_zbin IH C V (fun x y rest hn k => ?_) h
  subst hn
  exact lv_ishr C.1 C.2.1 hd k
set_option maxHeartbeats 1000000 in
theorem oz_iushr {T : zTb} {U : zRn} {D : va_G} {l : Launch} {ρ : Nat → Nat} {γ : Nat → ClassId} {es0 : va_W} {ih : zS} {r : zR} {p : Program} {e : Env} {s : State} {m : MethodId} {args : Array Value} {below : List Frame} {meth : Method} {c : Code} {A : Nat → Prop} {Q : State → Prop} {K : zK} {cs ss : Nat} {η0 : zE} {nf0 : Nat} {pc : Nat} {lo : zL} {sk : List zV} {ca : zCa} {fa : zFa} {nf : Nat} {n : Nat} {η : zE} {H : Heap} {locs : List Loc} {ls : Array Slot} {es : va_W} (IH : zGd T U D l ρ γ es0 ih) (C : zCx T U D l ρ γ es0 r p e s m args below meth c A Q K cs ss η0 nf0) (V : zIv T U D ρ γ es0 s A r η0 nf0 η H locs ls lo ca fa nf es) (hd : decode r.1.2.1 pc = .ok (.iushr, n)) (h : zbin ih r pc lo sk ca fa nf K n 8 = true) : W p l e (xrm r.1) s m args below meth c H locs cs ss Q (F0 m (pc) ls ((sk.map (zv ρ η)))) := by
  refine ok_zbin IH C V (fun x y rest hn k => ?_) h
  subst hn
  exact lv_iushr C.1 C.2.1 hd rfl k
set_option maxHeartbeats 1000000 in
theorem oz_idiv {T : zTb} {U : zRn} {D : va_G} {l : Launch} {ρ : Nat → Nat} {γ : Nat → ClassId} {es0 : va_W} {ih : zS} {r : zR} {p : Program} {e : Env} {s : State} {m : MethodId} {args : Array Value} {below : List Frame} {meth : Method} {c : Code} {A : Nat → Prop} {Q : State → Prop} {K : zK} {cs ss : Nat} {η0 : zE} {nf0 : Nat} {pc : Nat} {lo : zL} {sk : List zV} {ca : zCa} {fa : zFa} {nf : Nat} {n : Nat} {η : zE} {H : Heap} {locs : List Loc} {ls : Array Slot} {es : va_W} (IH : zGd T U D l ρ γ es0 ih) (C : zCx T U D l ρ γ es0 r p e s m args below meth c A Q K cs ss η0 nf0) (V : zIv T U D ρ γ es0 s A r η0 nf0 η H locs ls lo ca fa nf es) (hd : decode r.1.2.1 pc = .ok (.idiv, n)) (h : zdiv ih r pc lo sk ca fa nf K n false = true) : W p l e (xrm r.1) s m args below meth c H locs cs ss Q (F0 m (pc) ls ((sk.map (zv ρ η)))) := by
  unfold zdiv at h
  split at h
  · rename_i b a rest
    have ha := zrg_ok V.2.2.2.2.1 a
    have hb := zrg_ok V.2.2.2.2.1 b
    rw [Bool.and_eq_true, Bool.and_eq_true] at h
    obtain ⟨h1, h2, h⟩ := h
    have hz := znz_ok V.2.2.2.2.1 h1
    have hy := z32_ok V.2.2.2.2.1 h2
    have hne : zi η b ≠ 0 := fun q => hz (by rw [← hy, q]; decide)
    have hR := (zdvR_ok ha.1 ha.2 hb.1 hb.2).1
    have fin : n = 1 → W p l e (xrm r.1) s m args below meth c H locs cs ss Q (F0 m (pc + 1) ls (.int (Int32.ofInt (zd η a) / Int32.ofInt (zd η b)) :: rest.map (zv ρ η))) → W p l e (xrm r.1) s m args below meth c H locs cs ss Q (F0 m (pc) ls (zv ρ η (.inl b) :: zv ρ η (.inl a) :: rest.map (zv ρ η))) := fun q k => by
      subst q
      exact lv_idiv C.1 C.2.1 hd hne k
    split at h
    · rename_i k0 e
      obtain ⟨h5, k5⟩ := ok_zpush IH C V h
      have e5 : zv ρ η (.inl (zsym k0)) = .int (Int32.ofInt (zd η a) / Int32.ofInt (zd η b)) := by
        show Value.int (Int32.ofInt (1 * η k0 + 0)) = _
        rw [Int.one_mul, Int.add_zero, zmem_ok V.2.2.2.2.1.2.2.2 e]
        rfl
      rw [e5] at k5
      exact fin h5 k5
    · rw [Bool.and_eq_true, Bool.and_eq_true, zrk_eq, zrk_eq] at h
      obtain ⟨hn0, h⟩ := h
      have hmm : ∀ z ∈ [(a, b, nf, 9)], zms (zup η nf (Int32.ofInt (zd η a) / Int32.ofInt (zd η b)).toInt) z := fun z hz => by
        rcases List.mem_singleton.mp hz with rfl
        show Int32.ofInt (zup η nf _ nf) = zop 9 (zi _ a) (zi _ b)
        unfold zi
        rw [zup_n, zbI_ag (zup_ag η nf _) hn0.1, zbI_ag (zup_ag η nf _) hn0.2, i32_of]
        rfl
      rcases b with y | ⟨k, m0, c0⟩
      · rcases a with x | q
        · dsimp only at h
          obtain ⟨h5, k5⟩ := ok_zpush IH C V h
          have e5 : ∀ z : Int32, zv ρ η (.inl (.inl z.toInt)) = .int z := fun z => congrArg Value.int (i32_of z)
          rw [e5] at k5
          exact fin h5 k5
        · dsimp only at h
          obtain ⟨h5, k5⟩ := ok_zpuF IH C V h (Int32.ofInt (zd η (.inr q)) / Int32.ofInt (zd η (.inl y))) hR.1 hR.2 (fun _ z => by cases z) (fun _ z => by cases z) hmm
          exact fin h5 k5
      · dsimp only at h
        split at h
        · rename_i e9
          rw [Bool.and_eq_true] at e9
          exact absurd e9.1 (by decide)
        · obtain ⟨h5, k5⟩ := ok_zpuF IH C V h (Int32.ofInt (zd η a) / Int32.ofInt (zd η (.inr (k, m0, c0)))) hR.1 hR.2 (fun _ z => by cases z) (fun _ z => by cases z) hmm
          exact fin h5 k5
  · cases h
set_option maxHeartbeats 1000000 in
theorem oz_irem {T : zTb} {U : zRn} {D : va_G} {l : Launch} {ρ : Nat → Nat} {γ : Nat → ClassId} {es0 : va_W} {ih : zS} {r : zR} {p : Program} {e : Env} {s : State} {m : MethodId} {args : Array Value} {below : List Frame} {meth : Method} {c : Code} {A : Nat → Prop} {Q : State → Prop} {K : zK} {cs ss : Nat} {η0 : zE} {nf0 : Nat} {pc : Nat} {lo : zL} {sk : List zV} {ca : zCa} {fa : zFa} {nf : Nat} {n : Nat} {η : zE} {H : Heap} {locs : List Loc} {ls : Array Slot} {es : va_W} (IH : zGd T U D l ρ γ es0 ih) (C : zCx T U D l ρ γ es0 r p e s m args below meth c A Q K cs ss η0 nf0) (V : zIv T U D ρ γ es0 s A r η0 nf0 η H locs ls lo ca fa nf es) (hd : decode r.1.2.1 pc = .ok (.irem, n)) (h : zdiv ih r pc lo sk ca fa nf K n true = true) : W p l e (xrm r.1) s m args below meth c H locs cs ss Q (F0 m (pc) ls ((sk.map (zv ρ η)))) := by
  unfold zdiv at h
  split at h
  · rename_i b a rest
    have ha := zrg_ok V.2.2.2.2.1 a
    have hb := zrg_ok V.2.2.2.2.1 b
    rw [Bool.and_eq_true, Bool.and_eq_true] at h
    obtain ⟨h1, h2, h⟩ := h
    have hz := znz_ok V.2.2.2.2.1 h1
    have hy := z32_ok V.2.2.2.2.1 h2
    have hne : zi η b ≠ 0 := fun q => hz (by rw [← hy, q]; decide)
    have hR := (zdvR_ok ha.1 ha.2 hb.1 hb.2).2
    have fin : n = 1 → W p l e (xrm r.1) s m args below meth c H locs cs ss Q (F0 m (pc + 1) ls (.int (Int32.ofInt (zd η a) - Int32.ofInt (zd η a) / Int32.ofInt (zd η b) * Int32.ofInt (zd η b)) :: rest.map (zv ρ η))) → W p l e (xrm r.1) s m args below meth c H locs cs ss Q (F0 m (pc) ls (zv ρ η (.inl b) :: zv ρ η (.inl a) :: rest.map (zv ρ η))) := fun q k => by
      subst q
      exact lv_irem C.1 C.2.1 hd hne k
    split at h
    · rename_i k0 e
      obtain ⟨h5, k5⟩ := ok_zpush IH C V h
      have e5 : zv ρ η (.inl (zsym k0)) = .int (Int32.ofInt (zd η a) - Int32.ofInt (zd η a) / Int32.ofInt (zd η b) * Int32.ofInt (zd η b)) := by
        show Value.int (Int32.ofInt (1 * η k0 + 0)) = _
        rw [Int.one_mul, Int.add_zero, zmem_ok V.2.2.2.2.1.2.2.2 e]
        rfl
      rw [e5] at k5
      exact fin h5 k5
    · rw [Bool.and_eq_true, Bool.and_eq_true, zrk_eq, zrk_eq] at h
      obtain ⟨hn0, h⟩ := h
      have hmm : ∀ z ∈ [(a, b, nf, 10)], zms (zup η nf (Int32.ofInt (zd η a) - Int32.ofInt (zd η a) / Int32.ofInt (zd η b) * Int32.ofInt (zd η b)).toInt) z := fun z hz => by
        rcases List.mem_singleton.mp hz with rfl
        show Int32.ofInt (zup η nf _ nf) = zop 10 (zi _ a) (zi _ b)
        unfold zi
        rw [zup_n, zbI_ag (zup_ag η nf _) hn0.1, zbI_ag (zup_ag η nf _) hn0.2, i32_of]
        rfl
      rcases b with y | ⟨k, m0, c0⟩
      · rcases a with x | q
        · dsimp only at h
          obtain ⟨h5, k5⟩ := ok_zpush IH C V h
          have e5 : ∀ z : Int32, zv ρ η (.inl (.inl z.toInt)) = .int z := fun z => congrArg Value.int (i32_of z)
          rw [e5] at k5
          exact fin h5 k5
        · dsimp only at h
          obtain ⟨h5, k5⟩ := ok_zpuF IH C V h (Int32.ofInt (zd η (.inr q)) - Int32.ofInt (zd η (.inr q)) / Int32.ofInt (zd η (.inl y)) * Int32.ofInt (zd η (.inl y))) hR.1 hR.2 (fun _ z => by cases z) (fun _ z => by cases z) hmm
          exact fin h5 k5
      · dsimp only at h
        split at h
        · rename_i e9
          rw [Bool.and_eq_true, Bool.and_eq_true, Bool.and_eq_true, Bool.and_eq_true, decide_eq_true_eq, decide_eq_true_eq, decide_eq_true_eq] at e9
          obtain ⟨-, e1, e2, e3, e4⟩ := e9
          rw [Bool.and_eq_true, fZ_eq] at h
          have e4b := e4
          simp only [xin, Bool.and_eq_true, decide_eq_true_eq] at e4b
          have hyb := i32_bd (zi η (.inr (k, m0, c0)))
          rw [hy] at hyb
          obtain ⟨r1, r2⟩ := rem_lt (x := zd η a) (y := zd η (.inr (k, m0, c0))) (by omega) (by omega) (by omega) (by omega)
          obtain ⟨h5, k5⟩ := ok_zpuF IH C V h.2 (Int32.ofInt (zd η a) - Int32.ofInt (zd η a) / Int32.ofInt (zd η (.inr (k, m0, c0))) * Int32.ofInt (zd η (.inr (k, m0, c0)))) hR.1 hR.2 (fun _ z => by cases z) (fun z hz => by
            rcases List.mem_singleton.mp hz with rfl
            show zup η nf _ nf - zup η nf _ k ≤ c0 - 1
            rw [zup_n, zup_ag η nf _ k (blt_ok h.1), r1]
            have e5 : zd η (.inr (k, m0, c0)) = 1 * η k + c0 := by
              show m0 * η k + c0 = _
              rw [e1]
            omega) hmm
          exact fin h5 k5
        · obtain ⟨h5, k5⟩ := ok_zpuF IH C V h (Int32.ofInt (zd η a) - Int32.ofInt (zd η a) / Int32.ofInt (zd η (.inr (k, m0, c0))) * Int32.ofInt (zd η (.inr (k, m0, c0)))) hR.1 hR.2 (fun _ z => by cases z) (fun _ z => by cases z) hmm
          exact fin h5 k5
  · cases h
set_option maxHeartbeats 1000000 in
theorem oz_ineg {T : zTb} {U : zRn} {D : va_G} {l : Launch} {ρ : Nat → Nat} {γ : Nat → ClassId} {es0 : va_W} {ih : zS} {r : zR} {p : Program} {e : Env} {s : State} {m : MethodId} {args : Array Value} {below : List Frame} {meth : Method} {c : Code} {A : Nat → Prop} {Q : State → Prop} {K : zK} {cs ss : Nat} {η0 : zE} {nf0 : Nat} {pc : Nat} {lo : zL} {sk : List zV} {ca : zCa} {fa : zFa} {nf : Nat} {n : Nat} {η : zE} {H : Heap} {locs : List Loc} {ls : Array Slot} {es : va_W} (IH : zGd T U D l ρ γ es0 ih) (C : zCx T U D l ρ γ es0 r p e s m args below meth c A Q K cs ss η0 nf0) (V : zIv T U D ρ γ es0 s A r η0 nf0 η H locs ls lo ca fa nf es) (hd : decode r.1.2.1 pc = .ok (.ineg, n)) (h : zine ih r pc lo sk ca fa nf K n = true) : W p l e (xrm r.1) s m args below meth c H locs cs ss Q (F0 m (pc) ls ((sk.map (zv ρ η)))) := by
  unfold zine at h
  split at h
  · rename_i a rest
    have e1 : zi η (zneg a) = - zi η a := by
      unfold zi
      rw [← Int32.ofInt_neg]
      congr 1
      rcases a with z | ⟨k, m0, c0⟩
      · rfl
      · show -m0 * η k + -c0 = -(m0 * η k + c0)
        rw [Int.neg_mul]
        omega
    split at h
    · obtain ⟨rfl, k⟩ := ok_zpush IH C V h
      refine lv_ineg C.1 C.2.1 hd ?_
      rw [← e1]
      exact k
    · obtain ⟨rfl, k⟩ := ok_zpuF0 IH C V h (- zi η a) (i32_bd _)
      exact lv_ineg C.1 C.2.1 hd k
  · cases h
theorem i2b_bd (x : Int32) : -128 ≤ (x.toInt8.toInt32).toInt ∧ (x.toInt8.toInt32).toInt ≤ 127 := by
  have h1 := Int8.le_toInt x.toInt8
  have h2 := Int8.toInt_lt x.toInt8
  rw [Int8.toInt_toInt32]
  constructor <;> omega
theorem i2c_bd (x : Int32) : 0 ≤ ((x.toUInt32 % 65536).toInt32).toInt ∧ ((x.toUInt32 % 65536).toInt32).toInt ≤ 65535 := by
  have h1 : (x.toUInt32 % 65536).toNat < 65536 := by
    rw [UInt32.toNat_mod]
    exact Nat.mod_lt _ (by decide)
  have h2 : ((x.toUInt32 % 65536).toInt32).toInt = ((x.toUInt32 % 65536).toNat : Int) := by
    have h3 : (x.toUInt32 % 65536).toInt32 = Int32.ofInt ((x.toUInt32 % 65536).toNat : Int) := by
      apply Int32.toBitVec_inj.mp
      apply BitVec.eq_of_toNat_eq
      show (x.toUInt32 % 65536).toBitVec.toNat = (BitVec.ofInt 32 _).toNat
      rw [BitVec.toNat_ofInt]
      show (x.toUInt32 % 65536).toNat = _
      omega
    rw [h3, i32_big (by omega) (by omega)]
  rw [h2]
  constructor <;> omega
set_option maxHeartbeats 1000000 in
theorem oz_i2b {T : zTb} {U : zRn} {D : va_G} {l : Launch} {ρ : Nat → Nat} {γ : Nat → ClassId} {es0 : va_W} {ih : zS} {r : zR} {p : Program} {e : Env} {s : State} {m : MethodId} {args : Array Value} {below : List Frame} {meth : Method} {c : Code} {A : Nat → Prop} {Q : State → Prop} {K : zK} {cs ss : Nat} {η0 : zE} {nf0 : Nat} {pc : Nat} {lo : zL} {sk : List zV} {ca : zCa} {fa : zFa} {nf : Nat} {n : Nat} {η : zE} {H : Heap} {locs : List Loc} {ls : Array Slot} {es : va_W} (IH : zGd T U D l ρ γ es0 ih) (C : zCx T U D l ρ γ es0 r p e s m args below meth c A Q K cs ss η0 nf0) (V : zIv T U D ρ γ es0 s A r η0 nf0 η H locs ls lo ca fa nf es) (hd : decode r.1.2.1 pc = .ok (.i2b, n)) (h : zun ih r pc lo sk ca fa nf K n (-128, 127) = true) : W p l e (xrm r.1) s m args below meth c H locs cs ss Q (F0 m (pc) ls ((sk.map (zv ρ η)))) := by
  unfold zun at h
  split at h
  · rename_i a rest
    obtain ⟨rfl, k⟩ := ok_zpuF0 IH C V h ((zi η a).toInt8.toInt32) (i2b_bd _)
    exact lv_i2b C.1 C.2.1 hd rfl k
  · cases h
set_option maxHeartbeats 1000000 in
theorem oz_i2c {T : zTb} {U : zRn} {D : va_G} {l : Launch} {ρ : Nat → Nat} {γ : Nat → ClassId} {es0 : va_W} {ih : zS} {r : zR} {p : Program} {e : Env} {s : State} {m : MethodId} {args : Array Value} {below : List Frame} {meth : Method} {c : Code} {A : Nat → Prop} {Q : State → Prop} {K : zK} {cs ss : Nat} {η0 : zE} {nf0 : Nat} {pc : Nat} {lo : zL} {sk : List zV} {ca : zCa} {fa : zFa} {nf : Nat} {n : Nat} {η : zE} {H : Heap} {locs : List Loc} {ls : Array Slot} {es : va_W} (IH : zGd T U D l ρ γ es0 ih) (C : zCx T U D l ρ γ es0 r p e s m args below meth c A Q K cs ss η0 nf0) (V : zIv T U D ρ γ es0 s A r η0 nf0 η H locs ls lo ca fa nf es) (hd : decode r.1.2.1 pc = .ok (.i2c, n)) (h : zun ih r pc lo sk ca fa nf K n (0, 65535) = true) : W p l e (xrm r.1) s m args below meth c H locs cs ss Q (F0 m (pc) ls ((sk.map (zv ρ η)))) := by
  unfold zun at h
  split at h
  · rename_i a rest
    obtain ⟨rfl, k⟩ := ok_zpuF0 IH C V h (((zi η a).toUInt32 % 65536).toInt32) (i2c_bd _)
    exact lv_i2c C.1 C.2.1 hd rfl k
  · cases h
set_option maxHeartbeats 1000000 in
theorem oz_i2l {T : zTb} {U : zRn} {D : va_G} {l : Launch} {ρ : Nat → Nat} {γ : Nat → ClassId} {es0 : va_W} {ih : zS} {r : zR} {p : Program} {e : Env} {s : State} {m : MethodId} {args : Array Value} {below : List Frame} {meth : Method} {c : Code} {A : Nat → Prop} {Q : State → Prop} {K : zK} {cs ss : Nat} {η0 : zE} {nf0 : Nat} {pc : Nat} {lo : zL} {sk : List zV} {ca : zCa} {fa : zFa} {nf : Nat} {n : Nat} {η : zE} {H : Heap} {locs : List Loc} {ls : Array Slot} {es : va_W} (IH : zGd T U D l ρ γ es0 ih) (C : zCx T U D l ρ γ es0 r p e s m args below meth c A Q K cs ss η0 nf0) (V : zIv T U D ρ γ es0 s A r η0 nf0 η H locs ls lo ca fa nf es) (hd : decode r.1.2.1 pc = .ok (.i2l, n)) (h : zi2l ih r pc lo sk ca fa nf K n = true) : W p l e (xrm r.1) s m args below meth c H locs cs ss Q (F0 m (pc) ls ((sk.map (zv ρ η)))) := by
  unfold zi2l at h
  split at h
  · rename_i a rest
    split at h
    · rename_i e1
      obtain ⟨rfl, k⟩ := ok_zpush IH C V h
      refine lv_i2l C.1 C.2.1 hd ?_ k
      have h9 := z32_ok V.2.2.2.2.1 e1
      apply Int64.toInt_inj.mp
      rw [Int32.toInt_toInt64, h9]
      have := i32_bd (zi η a)
      rw [h9] at this
      rw [i64_big (by omega) (by omega)]
    · obtain ⟨rfl, k⟩ := ok_zpuL IH C V h (zi η a).toInt64
      exact lv_i2l C.1 C.2.1 hd rfl k
  · cases h
set_option maxHeartbeats 1000000 in
theorem oz_l2i {T : zTb} {U : zRn} {D : va_G} {l : Launch} {ρ : Nat → Nat} {γ : Nat → ClassId} {es0 : va_W} {ih : zS} {r : zR} {p : Program} {e : Env} {s : State} {m : MethodId} {args : Array Value} {below : List Frame} {meth : Method} {c : Code} {A : Nat → Prop} {Q : State → Prop} {K : zK} {cs ss : Nat} {η0 : zE} {nf0 : Nat} {pc : Nat} {lo : zL} {sk : List zV} {ca : zCa} {fa : zFa} {nf : Nat} {n : Nat} {η : zE} {H : Heap} {locs : List Loc} {ls : Array Slot} {es : va_W} (IH : zGd T U D l ρ γ es0 ih) (C : zCx T U D l ρ γ es0 r p e s m args below meth c A Q K cs ss η0 nf0) (V : zIv T U D ρ γ es0 s A r η0 nf0 η H locs ls lo ca fa nf es) (hd : decode r.1.2.1 pc = .ok (.l2i, n)) (h : zl2i ih r pc lo sk ca fa nf K n = true) : W p l e (xrm r.1) s m args below meth c H locs cs ss Q (F0 m (pc) ls ((sk.map (zv ρ η)))) := by
  unfold zl2i at h
  split at h
  · rename_i a rest
    obtain ⟨rfl, k⟩ := ok_zpuF0 IH C V h (Int64.ofInt (zd η a)).toInt32 (i32_bd _)
    exact lv_l2i C.1 C.2.1 hd rfl k
  · cases h
set_option maxHeartbeats 1000000 in
theorem oz_ladd {T : zTb} {U : zRn} {D : va_G} {l : Launch} {ρ : Nat → Nat} {γ : Nat → ClassId} {es0 : va_W} {ih : zS} {r : zR} {p : Program} {e : Env} {s : State} {m : MethodId} {args : Array Value} {below : List Frame} {meth : Method} {c : Code} {A : Nat → Prop} {Q : State → Prop} {K : zK} {cs ss : Nat} {η0 : zE} {nf0 : Nat} {pc : Nat} {lo : zL} {sk : List zV} {ca : zCa} {fa : zFa} {nf : Nat} {n : Nat} {η : zE} {H : Heap} {locs : List Loc} {ls : Array Slot} {es : va_W} (IH : zGd T U D l ρ γ es0 ih) (C : zCx T U D l ρ γ es0 r p e s m args below meth c A Q K cs ss η0 nf0) (V : zIv T U D ρ γ es0 s A r η0 nf0 η H locs ls lo ca fa nf es) (hd : decode r.1.2.1 pc = .ok (.ladd, n)) (h : zbinL ih r pc lo sk ca fa nf K n = true) : W p l e (xrm r.1) s m args below meth c H locs cs ss Q (F0 m (pc) ls ((sk.map (zv ρ η)))) := by
  unfold zbinL at h
  split at h
  · rename_i y x rest
    obtain ⟨rfl, k⟩ := ok_zpuL IH C V h (Int64.ofInt (zd η x) + Int64.ofInt (zd η y))
    exact lv_ladd C.1 C.2.1 hd k
  · cases h
set_option maxHeartbeats 1000000 in
theorem oz_lsub {T : zTb} {U : zRn} {D : va_G} {l : Launch} {ρ : Nat → Nat} {γ : Nat → ClassId} {es0 : va_W} {ih : zS} {r : zR} {p : Program} {e : Env} {s : State} {m : MethodId} {args : Array Value} {below : List Frame} {meth : Method} {c : Code} {A : Nat → Prop} {Q : State → Prop} {K : zK} {cs ss : Nat} {η0 : zE} {nf0 : Nat} {pc : Nat} {lo : zL} {sk : List zV} {ca : zCa} {fa : zFa} {nf : Nat} {n : Nat} {η : zE} {H : Heap} {locs : List Loc} {ls : Array Slot} {es : va_W} (IH : zGd T U D l ρ γ es0 ih) (C : zCx T U D l ρ γ es0 r p e s m args below meth c A Q K cs ss η0 nf0) (V : zIv T U D ρ γ es0 s A r η0 nf0 η H locs ls lo ca fa nf es) (hd : decode r.1.2.1 pc = .ok (.lsub, n)) (h : zbinL ih r pc lo sk ca fa nf K n = true) : W p l e (xrm r.1) s m args below meth c H locs cs ss Q (F0 m (pc) ls ((sk.map (zv ρ η)))) := by
  unfold zbinL at h
  split at h
  · rename_i y x rest
    obtain ⟨rfl, k⟩ := ok_zpuL IH C V h (Int64.ofInt (zd η x) - Int64.ofInt (zd η y))
    exact lv_lsub C.1 C.2.1 hd k
  · cases h
set_option maxHeartbeats 1000000 in
theorem oz_lmul {T : zTb} {U : zRn} {D : va_G} {l : Launch} {ρ : Nat → Nat} {γ : Nat → ClassId} {es0 : va_W} {ih : zS} {r : zR} {p : Program} {e : Env} {s : State} {m : MethodId} {args : Array Value} {below : List Frame} {meth : Method} {c : Code} {A : Nat → Prop} {Q : State → Prop} {K : zK} {cs ss : Nat} {η0 : zE} {nf0 : Nat} {pc : Nat} {lo : zL} {sk : List zV} {ca : zCa} {fa : zFa} {nf : Nat} {n : Nat} {η : zE} {H : Heap} {locs : List Loc} {ls : Array Slot} {es : va_W} (IH : zGd T U D l ρ γ es0 ih) (C : zCx T U D l ρ γ es0 r p e s m args below meth c A Q K cs ss η0 nf0) (V : zIv T U D ρ γ es0 s A r η0 nf0 η H locs ls lo ca fa nf es) (hd : decode r.1.2.1 pc = .ok (.lmul, n)) (h : zbinL ih r pc lo sk ca fa nf K n = true) : W p l e (xrm r.1) s m args below meth c H locs cs ss Q (F0 m (pc) ls ((sk.map (zv ρ η)))) := by
  unfold zbinL at h
  split at h
  · rename_i y x rest
    obtain ⟨rfl, k⟩ := ok_zpuL IH C V h (Int64.ofInt (zd η x) * Int64.ofInt (zd η y))
    exact lv_lmul C.1 C.2.1 hd k
  · cases h
set_option maxHeartbeats 1000000 in
theorem oz_land {T : zTb} {U : zRn} {D : va_G} {l : Launch} {ρ : Nat → Nat} {γ : Nat → ClassId} {es0 : va_W} {ih : zS} {r : zR} {p : Program} {e : Env} {s : State} {m : MethodId} {args : Array Value} {below : List Frame} {meth : Method} {c : Code} {A : Nat → Prop} {Q : State → Prop} {K : zK} {cs ss : Nat} {η0 : zE} {nf0 : Nat} {pc : Nat} {lo : zL} {sk : List zV} {ca : zCa} {fa : zFa} {nf : Nat} {n : Nat} {η : zE} {H : Heap} {locs : List Loc} {ls : Array Slot} {es : va_W} (IH : zGd T U D l ρ γ es0 ih) (C : zCx T U D l ρ γ es0 r p e s m args below meth c A Q K cs ss η0 nf0) (V : zIv T U D ρ γ es0 s A r η0 nf0 η H locs ls lo ca fa nf es) (hd : decode r.1.2.1 pc = .ok (.land, n)) (h : zbinL ih r pc lo sk ca fa nf K n = true) : W p l e (xrm r.1) s m args below meth c H locs cs ss Q (F0 m (pc) ls ((sk.map (zv ρ η)))) := by
  unfold zbinL at h
  split at h
  · rename_i y x rest
    obtain ⟨rfl, k⟩ := ok_zpuL IH C V h (Int64.ofInt (zd η x) &&& Int64.ofInt (zd η y))
    exact lv_land C.1 C.2.1 hd k
  · cases h
set_option maxHeartbeats 1000000 in
theorem oz_lor {T : zTb} {U : zRn} {D : va_G} {l : Launch} {ρ : Nat → Nat} {γ : Nat → ClassId} {es0 : va_W} {ih : zS} {r : zR} {p : Program} {e : Env} {s : State} {m : MethodId} {args : Array Value} {below : List Frame} {meth : Method} {c : Code} {A : Nat → Prop} {Q : State → Prop} {K : zK} {cs ss : Nat} {η0 : zE} {nf0 : Nat} {pc : Nat} {lo : zL} {sk : List zV} {ca : zCa} {fa : zFa} {nf : Nat} {n : Nat} {η : zE} {H : Heap} {locs : List Loc} {ls : Array Slot} {es : va_W} (IH : zGd T U D l ρ γ es0 ih) (C : zCx T U D l ρ γ es0 r p e s m args below meth c A Q K cs ss η0 nf0) (V : zIv T U D ρ γ es0 s A r η0 nf0 η H locs ls lo ca fa nf es) (hd : decode r.1.2.1 pc = .ok (.lor, n)) (h : zbinL ih r pc lo sk ca fa nf K n = true) : W p l e (xrm r.1) s m args below meth c H locs cs ss Q (F0 m (pc) ls ((sk.map (zv ρ η)))) := by
  unfold zbinL at h
  split at h
  · rename_i y x rest
    obtain ⟨rfl, k⟩ := ok_zpuL IH C V h (Int64.ofInt (zd η x) ||| Int64.ofInt (zd η y))
    exact lv_lor C.1 C.2.1 hd k
  · cases h
set_option maxHeartbeats 1000000 in
theorem oz_lxor {T : zTb} {U : zRn} {D : va_G} {l : Launch} {ρ : Nat → Nat} {γ : Nat → ClassId} {es0 : va_W} {ih : zS} {r : zR} {p : Program} {e : Env} {s : State} {m : MethodId} {args : Array Value} {below : List Frame} {meth : Method} {c : Code} {A : Nat → Prop} {Q : State → Prop} {K : zK} {cs ss : Nat} {η0 : zE} {nf0 : Nat} {pc : Nat} {lo : zL} {sk : List zV} {ca : zCa} {fa : zFa} {nf : Nat} {n : Nat} {η : zE} {H : Heap} {locs : List Loc} {ls : Array Slot} {es : va_W} (IH : zGd T U D l ρ γ es0 ih) (C : zCx T U D l ρ γ es0 r p e s m args below meth c A Q K cs ss η0 nf0) (V : zIv T U D ρ γ es0 s A r η0 nf0 η H locs ls lo ca fa nf es) (hd : decode r.1.2.1 pc = .ok (.lxor, n)) (h : zbinL ih r pc lo sk ca fa nf K n = true) : W p l e (xrm r.1) s m args below meth c H locs cs ss Q (F0 m (pc) ls ((sk.map (zv ρ η)))) := by
  unfold zbinL at h
  split at h
  · rename_i y x rest
    obtain ⟨rfl, k⟩ := ok_zpuL IH C V h (Int64.ofInt (zd η x) ^^^ Int64.ofInt (zd η y))
    exact lv_lxor C.1 C.2.1 hd k
  · cases h
set_option maxHeartbeats 1000000 in
theorem oz_lshl {T : zTb} {U : zRn} {D : va_G} {l : Launch} {ρ : Nat → Nat} {γ : Nat → ClassId} {es0 : va_W} {ih : zS} {r : zR} {p : Program} {e : Env} {s : State} {m : MethodId} {args : Array Value} {below : List Frame} {meth : Method} {c : Code} {A : Nat → Prop} {Q : State → Prop} {K : zK} {cs ss : Nat} {η0 : zE} {nf0 : Nat} {pc : Nat} {lo : zL} {sk : List zV} {ca : zCa} {fa : zFa} {nf : Nat} {n : Nat} {η : zE} {H : Heap} {locs : List Loc} {ls : Array Slot} {es : va_W} (IH : zGd T U D l ρ γ es0 ih) (C : zCx T U D l ρ γ es0 r p e s m args below meth c A Q K cs ss η0 nf0) (V : zIv T U D ρ γ es0 s A r η0 nf0 η H locs ls lo ca fa nf es) (hd : decode r.1.2.1 pc = .ok (.lshl, n)) (h : zshL ih r pc lo sk ca fa nf K n = true) : W p l e (xrm r.1) s m args below meth c H locs cs ss Q (F0 m (pc) ls ((sk.map (zv ρ η)))) := by
  unfold zshL at h
  split at h
  · rename_i y x rest
    obtain ⟨rfl, k⟩ := ok_zpuL IH C V h (Int64.ofInt (zd η x) <<< ((zi η y).toInt64 &&& 63))
    exact lv_lshl C.1 C.2.1 hd rfl k
  · cases h
set_option maxHeartbeats 1000000 in
theorem oz_lshr {T : zTb} {U : zRn} {D : va_G} {l : Launch} {ρ : Nat → Nat} {γ : Nat → ClassId} {es0 : va_W} {ih : zS} {r : zR} {p : Program} {e : Env} {s : State} {m : MethodId} {args : Array Value} {below : List Frame} {meth : Method} {c : Code} {A : Nat → Prop} {Q : State → Prop} {K : zK} {cs ss : Nat} {η0 : zE} {nf0 : Nat} {pc : Nat} {lo : zL} {sk : List zV} {ca : zCa} {fa : zFa} {nf : Nat} {n : Nat} {η : zE} {H : Heap} {locs : List Loc} {ls : Array Slot} {es : va_W} (IH : zGd T U D l ρ γ es0 ih) (C : zCx T U D l ρ γ es0 r p e s m args below meth c A Q K cs ss η0 nf0) (V : zIv T U D ρ γ es0 s A r η0 nf0 η H locs ls lo ca fa nf es) (hd : decode r.1.2.1 pc = .ok (.lshr, n)) (h : zshL ih r pc lo sk ca fa nf K n = true) : W p l e (xrm r.1) s m args below meth c H locs cs ss Q (F0 m (pc) ls ((sk.map (zv ρ η)))) := by
  unfold zshL at h
  split at h
  · rename_i y x rest
    obtain ⟨rfl, k⟩ := ok_zpuL IH C V h (Int64.ofInt (zd η x) >>> ((zi η y).toInt64 &&& 63))
    exact lv_lshr C.1 C.2.1 hd rfl k
  · cases h
set_option maxHeartbeats 1000000 in
theorem oz_lushr {T : zTb} {U : zRn} {D : va_G} {l : Launch} {ρ : Nat → Nat} {γ : Nat → ClassId} {es0 : va_W} {ih : zS} {r : zR} {p : Program} {e : Env} {s : State} {m : MethodId} {args : Array Value} {below : List Frame} {meth : Method} {c : Code} {A : Nat → Prop} {Q : State → Prop} {K : zK} {cs ss : Nat} {η0 : zE} {nf0 : Nat} {pc : Nat} {lo : zL} {sk : List zV} {ca : zCa} {fa : zFa} {nf : Nat} {n : Nat} {η : zE} {H : Heap} {locs : List Loc} {ls : Array Slot} {es : va_W} (IH : zGd T U D l ρ γ es0 ih) (C : zCx T U D l ρ γ es0 r p e s m args below meth c A Q K cs ss η0 nf0) (V : zIv T U D ρ γ es0 s A r η0 nf0 η H locs ls lo ca fa nf es) (hd : decode r.1.2.1 pc = .ok (.lushr, n)) (h : zshL ih r pc lo sk ca fa nf K n = true) : W p l e (xrm r.1) s m args below meth c H locs cs ss Q (F0 m (pc) ls ((sk.map (zv ρ η)))) := by
  unfold zshL at h
  split at h
  · rename_i y x rest
    obtain ⟨rfl, k⟩ := ok_zpuL IH C V h (((Int64.ofInt (zd η x)).toUInt64 >>> ((zi η y).toInt64.toUInt64 &&& Int64.toUInt64 63)).toInt64)
    exact lv_lushr C.1 C.2.1 hd rfl k
  · cases h
theorem zcmp_bd (x y : Int64) : -1 ≤ (lg_cmp x y).toInt ∧ (lg_cmp x y).toInt ≤ 1 := by
  unfold lg_cmp
  repeat' split
  all_goals decide
theorem zcmp_eq0 {x y : Int64} (h : x = y) : lg_cmp x y = 0 := by
  subst h
  unfold lg_cmp
  simp
theorem zcmp_ne0 {x y : Int64} (h : x ≠ y) : (lg_cmp x y).toInt ≠ 0 := by
  unfold lg_cmp
  repeat' split
  all_goals first | decide | contradiction | (exfalso; apply h; apply Int64.toInt_inj.mp; simp only [Int64.lt_iff_toInt_lt] at *; omega)
set_option maxHeartbeats 1000000 in
theorem oz_lcmp {T : zTb} {U : zRn} {D : va_G} {l : Launch} {ρ : Nat → Nat} {γ : Nat → ClassId} {es0 : va_W} {ih : zS} {r : zR} {p : Program} {e : Env} {s : State} {m : MethodId} {args : Array Value} {below : List Frame} {meth : Method} {c : Code} {A : Nat → Prop} {Q : State → Prop} {K : zK} {cs ss : Nat} {η0 : zE} {nf0 : Nat} {pc : Nat} {lo : zL} {sk : List zV} {ca : zCa} {fa : zFa} {nf : Nat} {n : Nat} {η : zE} {H : Heap} {locs : List Loc} {ls : Array Slot} {es : va_W} (IH : zGd T U D l ρ γ es0 ih) (C : zCx T U D l ρ γ es0 r p e s m args below meth c A Q K cs ss η0 nf0) (V : zIv T U D ρ γ es0 s A r η0 nf0 η H locs ls lo ca fa nf es) (hd : decode r.1.2.1 pc = .ok (.lcmp, n)) (h : zlcmp ih r pc lo sk ca fa nf K n = true) : W p l e (xrm r.1) s m args below meth c H locs cs ss Q (F0 m (pc) ls ((sk.map (zv ρ η)))) := by
  unfold zlcmp at h
  split at h
  · rename_i y x rest
    have hb : -1 ≤ (lg_cmp (Int64.ofInt (zd η x)) (Int64.ofInt (zd η y))).toInt ∧ (lg_cmp (Int64.ofInt (zd η x)) (Int64.ofInt (zd η y))).toInt ≤ 1 := zcmp_bd _ _
    split at h
    · rename_i e1
      rw [Bool.and_eq_true] at e1
      have hx := z64_ok V.2.2.2.2.1 e1.1
      have hy := z64_ok V.2.2.2.2.1 e1.2
      have q := zeq_ok V.2.2.2.2.1 h
      by_cases e2 : zd η x = zd η y
      · obtain ⟨fa2, s2, h2⟩ := q.1 e2
        obtain ⟨rfl, k⟩ := ok_zpush IH C (V.fa s2) h2
        refine W.lcmp C.1 C.2.1 hd ?_
        rw [zcmp_eq0 (by rw [e2])]
        exact k
      · obtain ⟨fa2, s2, h2⟩ := q.2 e2
        obtain ⟨rfl, k⟩ := ok_zpuF IH C (V.fa s2) h2 (lg_cmp (Int64.ofInt (zd η x)) (Int64.ofInt (zd η y))) hb.1 hb.2 (fun z hz => by
          rcases List.mem_singleton.mp hz with rfl
          exact zcmp_ne0 (fun q => e2 (by rw [← hx, ← hy, q]))) (fun _ z => by cases z) (fun _ z => by cases z)
        exact W.lcmp C.1 C.2.1 hd k
    · obtain ⟨rfl, k⟩ := ok_zpuF0 IH C V h _ hb
      exact W.lcmp C.1 C.2.1 hd k
  · cases h
set_option maxHeartbeats 1000000 in
theorem oz_dup {T : zTb} {U : zRn} {D : va_G} {l : Launch} {ρ : Nat → Nat} {γ : Nat → ClassId} {es0 : va_W} {ih : zS} {r : zR} {p : Program} {e : Env} {s : State} {m : MethodId} {args : Array Value} {below : List Frame} {meth : Method} {c : Code} {A : Nat → Prop} {Q : State → Prop} {K : zK} {cs ss : Nat} {η0 : zE} {nf0 : Nat} {pc : Nat} {lo : zL} {sk : List zV} {ca : zCa} {fa : zFa} {nf : Nat} {n : Nat} {η : zE} {H : Heap} {locs : List Loc} {ls : Array Slot} {es : va_W} (IH : zGd T U D l ρ γ es0 ih) (C : zCx T U D l ρ γ es0 r p e s m args below meth c A Q K cs ss η0 nf0) (V : zIv T U D ρ γ es0 s A r η0 nf0 η H locs ls lo ca fa nf es) (hd : decode r.1.2.1 pc = .ok (.dup, n)) (h : zdup ih r pc lo sk ca fa nf K n = true) : W p l e (xrm r.1) s m args below meth c H locs cs ss Q (F0 m (pc) ls ((sk.map (zv ρ η)))) := by
  unfold zdup at h
  split at h
  · rename_i v rest
    rw [Bool.and_eq_true] at h
    obtain ⟨rfl, k⟩ := ok_zpush IH C V h.2
    exact lv_dup C.1 C.2.1 hd (zlg_cat h.1) k
  · cases h
set_option maxHeartbeats 1000000 in
theorem oz_pop {T : zTb} {U : zRn} {D : va_G} {l : Launch} {ρ : Nat → Nat} {γ : Nat → ClassId} {es0 : va_W} {ih : zS} {r : zR} {p : Program} {e : Env} {s : State} {m : MethodId} {args : Array Value} {below : List Frame} {meth : Method} {c : Code} {A : Nat → Prop} {Q : State → Prop} {K : zK} {cs ss : Nat} {η0 : zE} {nf0 : Nat} {pc : Nat} {lo : zL} {sk : List zV} {ca : zCa} {fa : zFa} {nf : Nat} {n : Nat} {η : zE} {H : Heap} {locs : List Loc} {ls : Array Slot} {es : va_W} (IH : zGd T U D l ρ γ es0 ih) (C : zCx T U D l ρ γ es0 r p e s m args below meth c A Q K cs ss η0 nf0) (V : zIv T U D ρ γ es0 s A r η0 nf0 η H locs ls lo ca fa nf es) (hd : decode r.1.2.1 pc = .ok (.pop, n)) (h : zpop ih r pc lo sk ca fa nf K n = true) : W p l e (xrm r.1) s m args below meth c H locs cs ss Q (F0 m (pc) ls ((sk.map (zv ρ η)))) := by
  unfold zpop at h
  split at h
  · rename_i v rest
    rw [Bool.and_eq_true, Bool.and_eq_true, fN_eq] at h
    obtain ⟨h1, h2, h3⟩ := h
    have h2 := Nat.eq_of_beq_eq_true h2
    subst h2
    exact lv_pop C.1 C.2.1 hd (zlg_cat h1) (IH _ _ _ _ _ _ _ _ _ _ _ _ _ _ _ _ C _ _ _ _ _ _ h3 η H locs ls es V)
  · cases h
set_option maxHeartbeats 1000000 in
theorem oz_dup2 {T : zTb} {U : zRn} {D : va_G} {l : Launch} {ρ : Nat → Nat} {γ : Nat → ClassId} {es0 : va_W} {ih : zS} {r : zR} {p : Program} {e : Env} {s : State} {m : MethodId} {args : Array Value} {below : List Frame} {meth : Method} {c : Code} {A : Nat → Prop} {Q : State → Prop} {K : zK} {cs ss : Nat} {η0 : zE} {nf0 : Nat} {pc : Nat} {lo : zL} {sk : List zV} {ca : zCa} {fa : zFa} {nf : Nat} {n : Nat} {η : zE} {H : Heap} {locs : List Loc} {ls : Array Slot} {es : va_W} (IH : zGd T U D l ρ γ es0 ih) (C : zCx T U D l ρ γ es0 r p e s m args below meth c A Q K cs ss η0 nf0) (V : zIv T U D ρ γ es0 s A r η0 nf0 η H locs ls lo ca fa nf es) (hd : decode r.1.2.1 pc = .ok (.dup2, n)) (h : zdup2 ih r pc lo sk ca fa nf K n = true) : W p l e (xrm r.1) s m args below meth c H locs cs ss Q (F0 m (pc) ls ((sk.map (zv ρ η)))) := by
  unfold zdup2 at h
  split at h
  · rename_i v u rest
    rw [Bool.and_eq_true, Bool.and_eq_true] at h
    obtain ⟨rfl, k⟩ := ok_zpush IH C V h.2.2
    exact lv_dup2_11 C.1 C.2.1 hd (zlg_cat h.1) (zlg_cat h.2.1) k
  · cases h
set_option maxHeartbeats 1000000 in
theorem oz_ldc {T : zTb} {U : zRn} {D : va_G} {l : Launch} {ρ : Nat → Nat} {γ : Nat → ClassId} {es0 : va_W} {ih : zS} {r : zR} {p : Program} {e : Env} {s : State} {m : MethodId} {args : Array Value} {below : List Frame} {meth : Method} {c : Code} {A : Nat → Prop} {Q : State → Prop} {K : zK} {cs ss : Nat} {η0 : zE} {nf0 : Nat} {pc : Nat} {lo : zL} {sk : List zV} {ca : zCa} {fa : zFa} {nf : Nat} {n : Nat} {η : zE} {H : Heap} {locs : List Loc} {ls : Array Slot} {es : va_W} (IH : zGd T U D l ρ γ es0 ih) (C : zCx T U D l ρ γ es0 r p e s m args below meth c A Q K cs ss η0 nf0) (V : zIv T U D ρ γ es0 s A r η0 nf0 η H locs ls lo ca fa nf es) {x : Nat} (hd : decode r.1.2.1 pc = .ok (.ldc x, n)) (h : (match xfi (xki r.1.2.2.2.2.1) x with | some q => zpush ih r pc lo ca fa nf K n 2 (.inl (.inl q.1)) sk | none => false) = true) : W p l e (xrm r.1) s m args below meth c H locs cs ss Q (F0 m (pc) ls ((sk.map (zv ρ η)))) := by
  cases e : xfi (xki r.1.2.2.2.2.1) x with
  | none => rw [e] at h; cases h
  | some q =>
    rw [e] at h
    obtain ⟨rfl, k⟩ := ok_zpush IH C V h
    exact lv_ldc C.1 C.2.1 C.2.2.2.1 (C.2.2.2.2.1 _ (xki_ok _ _ _ (xfi_ok e))) hd k
set_option maxHeartbeats 1000000 in
theorem oz_ldc_w {T : zTb} {U : zRn} {D : va_G} {l : Launch} {ρ : Nat → Nat} {γ : Nat → ClassId} {es0 : va_W} {ih : zS} {r : zR} {p : Program} {e : Env} {s : State} {m : MethodId} {args : Array Value} {below : List Frame} {meth : Method} {c : Code} {A : Nat → Prop} {Q : State → Prop} {K : zK} {cs ss : Nat} {η0 : zE} {nf0 : Nat} {pc : Nat} {lo : zL} {sk : List zV} {ca : zCa} {fa : zFa} {nf : Nat} {n : Nat} {η : zE} {H : Heap} {locs : List Loc} {ls : Array Slot} {es : va_W} (IH : zGd T U D l ρ γ es0 ih) (C : zCx T U D l ρ γ es0 r p e s m args below meth c A Q K cs ss η0 nf0) (V : zIv T U D ρ γ es0 s A r η0 nf0 η H locs ls lo ca fa nf es) {x : Nat} (hd : decode r.1.2.1 pc = .ok (.ldc_w x, n)) (h : (match xfi (xki r.1.2.2.2.2.1) x with | some q => zpush ih r pc lo ca fa nf K n 3 (.inl (.inl q.1)) sk | none => false) = true) : W p l e (xrm r.1) s m args below meth c H locs cs ss Q (F0 m (pc) ls ((sk.map (zv ρ η)))) := by
  cases e : xfi (xki r.1.2.2.2.2.1) x with
  | none => rw [e] at h; cases h
  | some q =>
    rw [e] at h
    obtain ⟨rfl, k⟩ := ok_zpush IH C V h
    exact lv_ldcw C.1 C.2.1 C.2.2.2.1 (C.2.2.2.2.1 _ (xki_ok _ _ _ (xfi_ok e))) hd k
set_option maxHeartbeats 1000000 in
theorem oz_ldc2_w {T : zTb} {U : zRn} {D : va_G} {l : Launch} {ρ : Nat → Nat} {γ : Nat → ClassId} {es0 : va_W} {ih : zS} {r : zR} {p : Program} {e : Env} {s : State} {m : MethodId} {args : Array Value} {below : List Frame} {meth : Method} {c : Code} {A : Nat → Prop} {Q : State → Prop} {K : zK} {cs ss : Nat} {η0 : zE} {nf0 : Nat} {pc : Nat} {lo : zL} {sk : List zV} {ca : zCa} {fa : zFa} {nf : Nat} {n : Nat} {η : zE} {H : Heap} {locs : List Loc} {ls : Array Slot} {es : va_W} (IH : zGd T U D l ρ γ es0 ih) (C : zCx T U D l ρ γ es0 r p e s m args below meth c A Q K cs ss η0 nf0) (V : zIv T U D ρ γ es0 s A r η0 nf0 η H locs ls lo ca fa nf es) {x : Nat} (hd : decode r.1.2.1 pc = .ok (.ldc2_w x, n)) (h : (match xfi (xkl r.1.2.2.2.2.1) x with | some q => zpush ih r pc lo ca fa nf K n 3 (.inr (.inr (.inl q.1))) sk | none => false) = true) : W p l e (xrm r.1) s m args below meth c H locs cs ss Q (F0 m (pc) ls ((sk.map (zv ρ η)))) := by
  cases e : xfi (xkl r.1.2.2.2.2.1) x with
  | none => rw [e] at h; cases h
  | some q =>
    rw [e] at h
    obtain ⟨rfl, k⟩ := ok_zpush IH C V h
    exact lv_ldc2 C.1 C.2.1 C.2.2.2.1 (C.2.2.2.2.1 _ (xkl_ok _ _ _ (xfi_ok e))) hd k
