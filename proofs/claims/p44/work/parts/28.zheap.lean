theorem zok_ok {ty : FieldType} {v : zV} (h : zok ty v = true) (ρ : Nat → Nat) (η : zE) : narrow ty (zv ρ η v) = zv ρ η v ∧ fits ty (zv ρ η v) = true := by
  unfold zok at h
  split at h
  · exact ⟨rfl, rfl⟩
  · exact ⟨rfl, rfl⟩
  · rename_i q
    rcases q with _ | q <;> exact ⟨rfl, rfl⟩
  · rename_i q
    rcases q with _ | q <;> exact ⟨rfl, rfl⟩
  · cases h
theorem zpt_ok {i k : Nat} {q : zPr} {b : Bool} : ∀ {l : List zPr}, zpt i k l = some (q, b) → q ∈ l ∧ (b = true → q.2.1 = (i, k)) ∧ (b = false → q.2.2.1 = (i, k)) := by
  intro l
  induction l with
  | nil => intro h; cases h
  | cons x t ih =>
    intro h
    unfold zpt at h
    cases e1 : Nat.beq x.2.1.1 i && Nat.beq x.2.1.2 k with
    | true =>
      rw [e1] at h
      cases h
      rw [Bool.and_eq_true] at e1
      exact ⟨List.mem_cons_self, fun _ => Prod.ext (Nat.eq_of_beq_eq_true e1.1) (Nat.eq_of_beq_eq_true e1.2), fun z => (by cases z)⟩
    | false =>
      rw [e1] at h
      dsimp only at h
      cases e2 : Nat.beq x.2.2.1.1 i && Nat.beq x.2.2.1.2 k with
      | true =>
        rw [e2] at h
        cases h
        rw [Bool.and_eq_true] at e2
        exact ⟨List.mem_cons_self, fun z => (by cases z), fun _ => Prod.ext (Nat.eq_of_beq_eq_true e2.1) (Nat.eq_of_beq_eq_true e2.2)⟩
      | false =>
        rw [e2] at h
        obtain ⟨h1, h2⟩ := ih h
        exact ⟨List.mem_cons_of_mem _ h1, h2⟩
theorem zrgF_ok {dec : List zDc} {i k : Nat} {q : Int × Int} (h : zrgF dec i k = some q) : ∃ ci fs, dec[i]? = some (.inr (ci, fs)) ∧ fs[k]? = some (.inl q) := by
  unfold zrgF at h
  split at h
  · rename_i ci fs e1
    split at h
    · rename_i q2 e2
      cases h
      rw [gt_eq] at e1 e2
      exact ⟨ci, fs, e1, e2⟩
    · cases h
  · cases h
/-- an int field that is not cached lies in its range -/
theorem zCo.fld {T : zTb} {ρ : Nat → Nat} {γ : Nat → ClassId} {η : zE} {ca : zCa} {es : va_W} (C : zCo T ρ γ η ca es) {i ci k : Nat} {fs : List zF} {f : zF} (hd : T.2.1[i]? = some (.inr (ci, fs))) (hf : fs[k]? = some f) (hn : zcF i k ca = none) : ∃ vs v, es[i]? = some (ρ i, .inr (ci, vs)) ∧ vs[k]? = some v ∧ okf ρ f v := by
  obtain ⟨vs, h1, h2, h3⟩ := C.2.2.1 i ci fs hd
  have hk : k < vs.length := by rw [h2]; exact (List.getElem?_eq_some_iff.mp hf).1
  refine ⟨vs, vs[k], h1, List.getElem?_eq_getElem hk, ?_⟩
  rcases h3 k f vs[k] hf (List.getElem?_eq_getElem hk) with h | h
  · exact absurd h (zcF_none hn)
  · exact h
theorem zIv.ca {T : zTb} {U : zRn} {D : va_G} {ρ : Nat → Nat} {γ : Nat → ClassId} {es0 : va_W} {s : State} {A : Nat → Prop} {r : zR} {η0 : zE} {nf0 : Nat} {η : zE} {H : Heap} {locs : List Loc} {ls : Array Slot} {lo : zL} {ca : zCa} {fa : zFa} {nf : Nat} {es : va_W} (V : zIv T U D ρ γ es0 s A r η0 nf0 η H locs ls lo ca fa nf es) {ca2 : zCa} (h : zCo T ρ γ η ca2 es) : zIv T U D ρ γ es0 s A r η0 nf0 η H locs ls lo ca2 fa nf es := ⟨V.1, V.2.1, V.2.2.1, V.2.2.2.1, V.2.2.2.2.1, V.2.2.2.2.2.1, V.2.2.2.2.2.2.1, h, V.2.2.2.2.2.2.2.2⟩
set_option maxHeartbeats 1000000 in
theorem ok_zgetI {T : zTb} {U : zRn} {D : va_G} {l : Launch} {ρ : Nat → Nat} {γ : Nat → ClassId} {es0 : va_W} {ih : zS} {r : zR} {p : Program} {e : Env} {s : State} {m : MethodId} {args : Array Value} {below : List Frame} {meth : Method} {c : Code} {A : Nat → Prop} {Q : State → Prop} {K : zK} {cs ss : Nat} {η0 : zE} {nf0 : Nat} {pc : Nat} {lo : zL} {ca : zCa} {fa : zFa} {nf : Nat} {η : zE} {H : Heap} {locs : List Loc} {ls : Array Slot} {es : va_W} (IH : zGd T U D l ρ γ es0 ih) (C : zCx T U D l ρ γ es0 r p e s m args below meth c A Q K cs ss η0 nf0) (V : zIv T U D ρ γ es0 s A r η0 nf0 η H locs ls lo ca fa nf es) {i k : Nat} {a b : Int} {rest : List zV} {x : Int32} (hv : zfv es i k = some (.int x)) (h1 : a ≤ x.toInt) (h2 : x.toInt ≤ b) (h : zgetI ih r pc lo ca fa nf K i k a b rest = true) : W p l e (xrm r.1) s m args below meth c H locs cs ss Q (F0 m (pc + 3) ls (.int x :: rest.map (zv ρ η))) := by
  unfold zgetI at h
  rw [Bool.and_eq_true, fN_eq, fN_eq] at h
  obtain ⟨V2, e2⟩ := zIv.up V (g := (a, b, [])) (rl := []) (mm := []) (zbd32 x) h.1 ⟨h1, h2, fun _ z => by cases z⟩ (fun _ z => by cases z) (fun _ z => by cases z)
  have k2 := IH _ _ _ _ _ _ _ _ _ _ _ _ _ _ _ _ C _ _ _ _ _ _ h.2 _ H locs ls es (zIv.ca V2 (zCo.add V2.2.2.2.2.2.2.2.1 ⟨(by
    show zfv es i k = _
    rw [zv_sym, hv]), fun ix z => (by cases z)⟩))
  rw [List.map_cons, zv_sym, e2] at k2
  exact k2
set_option maxHeartbeats 1000000 in
theorem ok_zgetL {T : zTb} {U : zRn} {D : va_G} {l : Launch} {ρ : Nat → Nat} {γ : Nat → ClassId} {es0 : va_W} {ih : zS} {r : zR} {p : Program} {e : Env} {s : State} {m : MethodId} {args : Array Value} {below : List Frame} {meth : Method} {c : Code} {A : Nat → Prop} {Q : State → Prop} {K : zK} {cs ss : Nat} {η0 : zE} {nf0 : Nat} {pc : Nat} {lo : zL} {ca : zCa} {fa : zFa} {nf : Nat} {η : zE} {H : Heap} {locs : List Loc} {ls : Array Slot} {es : va_W} (IH : zGd T U D l ρ γ es0 ih) (C : zCx T U D l ρ γ es0 r p e s m args below meth c A Q K cs ss η0 nf0) (V : zIv T U D ρ γ es0 s A r η0 nf0 η H locs ls lo ca fa nf es) {i k : Nat} {rest : List zV} {x : Int64} (hv : zfv es i k = some (.long x)) (h : (znew lo ca fa nf rest && fN (pc + 3) fun pc => fN (nf + 1) fun nf1 => ih r pc lo (.inr (.inr (zsym nf)) :: rest) (((i, .inl k), .inr (.inr (zsym nf))) :: ca) fa nf1 K) = true) : W p l e (xrm r.1) s m args below meth c H locs cs ss Q (F0 m (pc + 3) ls (.long x :: rest.map (zv ρ η))) := by
  rw [Bool.and_eq_true, fN_eq, fN_eq] at h
  obtain ⟨V2, e2⟩ := zIv.upL V (zbd64 x) h.1
  have k2 := IH _ _ _ _ _ _ _ _ _ _ _ _ _ _ _ _ C _ _ _ _ _ _ h.2 _ H locs ls es (zIv.ca V2 (zCo.add V2.2.2.2.2.2.2.2.1 ⟨(by
    show zfv es i k = _
    rw [zv_symL, hv]), fun ix z => (by cases z)⟩))
  rw [List.map_cons, zv_symL, e2] at k2
  exact k2
set_option maxHeartbeats 1000000 in
theorem ok_zgetR {T : zTb} {U : zRn} {D : va_G} {l : Launch} {ρ : Nat → Nat} {γ : Nat → ClassId} {es0 : va_W} {ih : zS} {r : zR} {p : Program} {e : Env} {s : State} {m : MethodId} {args : Array Value} {below : List Frame} {meth : Method} {c : Code} {A : Nat → Prop} {Q : State → Prop} {K : zK} {cs ss : Nat} {η0 : zE} {nf0 : Nat} {pc : Nat} {lo : zL} {ca : zCa} {fa : zFa} {nf : Nat} {η : zE} {H : Heap} {locs : List Loc} {ls : Array Slot} {es : va_W} (IH : zGd T U D l ρ γ es0 ih) (C : zCx T U D l ρ γ es0 r p e s m args below meth c A Q K cs ss η0 nf0) (V : zIv T U D ρ γ es0 s A r η0 nf0 η H locs ls lo ca fa nf es) {i k : Nat} {rest : List zV} {w : Value} (hv : zfv es i k = some w) : ∀ (cs2 : List (Option Nat)), zgetR ih r pc lo ca fa nf K i k rest cs2 = true → (∃ c2 ∈ cs2, w = zv ρ (fun _ => 0) (.inr (.inl c2))) → W p l e (xrm r.1) s m args below meth c H locs cs ss Q (F0 m (pc + 3) ls (w :: rest.map (zv ρ η))) := by
  intro cs2
  induction cs2 with
  | nil => intro _ h; obtain ⟨c2, hc, -⟩ := h; cases hc
  | cons c1 t iht =>
    intro h hw
    unfold zgetR at h
    rw [Bool.and_eq_true, fN_eq] at h
    obtain ⟨c2, hc, e⟩ := hw
    rcases List.mem_cons.mp hc with e2 | e2
    · subst e2
      have e3 : w = zv ρ η (.inr (.inl c2)) := by
        rw [e]
        rcases c2 with _ | c2 <;> rfl
      have k2 := IH _ _ _ _ _ _ _ _ _ _ _ _ _ _ _ _ C _ _ _ _ _ _ h.1 η H locs ls es (zIv.ca V (zCo.add V.2.2.2.2.2.2.2.1 ⟨(by
        show zfv es i k = _
        rw [hv, e3]), fun ix z => (by cases z)⟩))
      rw [List.map_cons, ← e3] at k2
      exact k2
    · exact iht h.2 ⟨c2, e2, e⟩
set_option maxHeartbeats 1000000 in
theorem ok_zgetP {T : zTb} {U : zRn} {D : va_G} {l : Launch} {ρ : Nat → Nat} {γ : Nat → ClassId} {es0 : va_W} {ih : zS} {r : zR} {p : Program} {e : Env} {s : State} {m : MethodId} {args : Array Value} {below : List Frame} {meth : Method} {c : Code} {A : Nat → Prop} {Q : State → Prop} {K : zK} {cs ss : Nat} {η0 : zE} {nf0 : Nat} {pc : Nat} {lo : zL} {ca : zCa} {fa : zFa} {nf : Nat} {η : zE} {H : Heap} {locs : List Loc} {ls : Array Slot} {es : va_W} (IH : zGd T U D l ρ γ es0 ih) (C : zCx T U D l ρ γ es0 r p e s m args below meth c A Q K cs ss η0 nf0) (V : zIv T U D ρ γ es0 s A r η0 nf0 η H locs ls lo ca fa nf es) {i k i2 k2 : Nat} {a b a2 b2 : Int} {rl : Nat → zRl} {rest : List zV} {x y : Int32} (hv : zfv es i k = some (.int x)) (hw : zfv es i2 k2 = some (.int y)) (h1 : a ≤ x.toInt) (h2 : x.toInt ≤ b) (h3 : a2 ≤ y.toInt) (h4 : y.toInt ≤ b2) (hr : zrs (zup (zup η nf x.toInt) (nf + 1) y.toInt) (rl (nf + 1))) (h : zgetP ih r pc lo ca fa nf K i k a b i2 k2 a2 b2 rl rest = true) : W p l e (xrm r.1) s m args below meth c H locs cs ss Q (F0 m (pc + 3) ls (.int x :: rest.map (zv ρ η))) := by
  unfold zgetP at h
  rw [Bool.and_eq_true, fN_eq, fN_eq, fN_eq] at h
  have hn := h.1
  unfold znew at hn
  rw [Bool.and_eq_true, Bool.and_eq_true, Bool.and_eq_true] at hn
  obtain ⟨n1, n2, n3, n4⟩ := hn
  have e1 : zup (zup η nf x.toInt) (nf + 1) y.toInt nf = x.toInt := by
    unfold zup
    rw [if_neg (by omega), if_pos rfl]
  have e2 : zup (zup η nf x.toInt) (nf + 1) y.toInt (nf + 1) = y.toInt := zup_n _ _ _
  have hb : ∀ q, zbd (zup (zup η nf x.toInt) (nf + 1) y.toInt q) := zup_bd (zup_bd V.2.2.2.2.1.1 (zbd32 x)) (zbd32 y)
  have ha : zag nf η (zup (zup η nf x.toInt) (nf + 1) y.toInt) := fun q hq => by
    unfold zup
    rw [if_neg (by omega), if_neg (by omega)]
  generalize zup (zup η nf x.toInt) (nf + 1) y.toInt = η2 at hr e1 e2 hb ha
  have s2 := zbF_ag ha hb n4 V.2.2.2.2.1
  have es1 : zv ρ η2 (.inl (zsym nf)) = .int x := by
    show Value.int (Int32.ofInt (1 * η2 nf + 0)) = _
    rw [e1, Int.one_mul, Int.add_zero, i32_of]
  have es2 : zv ρ η2 (.inl (zsym (nf + 1))) = .int y := by
    show Value.int (Int32.ofInt (1 * η2 (nf + 1) + 0)) = _
    rw [e2, Int.one_mul, Int.add_zero, i32_of]
  have c1 : zCo T ρ γ η2 ca es := zCo.ag ha n3 V.2.2.2.2.2.2.2.1
  have c2 := zCo.add c1 (q := ((i2, .inl k2), .inl (zsym (nf + 1)))) ⟨(by show zfv es i2 k2 = _; rw [es2, hw]), fun ix z => (by cases z)⟩
  have c3 := zCo.add c2 (q := ((i, .inl k), .inl (zsym nf))) ⟨(by show zfv es i k = _; rw [es1, hv]), fun ix z => (by cases z)⟩
  have kk := IH _ _ _ _ _ _ _ _ _ _ _ _ _ _ _ _ C _ _ _ _ _ _ h.2 η2 H locs ls es ⟨V.1, V.2.1, V.2.2.1, by rw [zbL_ag ha ρ n2]; exact V.2.2.2.1, ⟨hb, fun q hq => ?_, fun q hq => ?_, s2.2.2.2⟩, by have := V.2.2.2.2.2.1; omega, fun q hq => by rw [ha q (Nat.lt_of_lt_of_le hq V.2.2.2.2.2.1)]; exact V.2.2.2.2.2.2.1 q hq, c3, V.2.2.2.2.2.2.2.2⟩
  · rw [List.map_cons, es1, zbS_ag ha ρ n1] at kk
    exact kk
  · rcases List.mem_cons.mp hq with e9 | e9
    · rw [e9]
      show zgs (η2 nf) (a, b, [])
      rw [e1]
      exact ⟨h1, h2, fun _ z => by cases z⟩
    · rcases List.mem_cons.mp e9 with e9 | e9
      · rw [e9]
        show zgs (η2 (nf + 1)) (a2, b2, [])
        rw [e2]
        exact ⟨h3, h4, fun _ z => by cases z⟩
      · exact s2.2.1 q e9
  · rcases List.mem_cons.mp hq with e9 | e9
    · rw [e9]; exact hr
    · exact s2.2.2.1 q e9
set_option maxHeartbeats 1000000 in
theorem oz_getf {T : zTb} {U : zRn} {D : va_G} {l : Launch} {ρ : Nat → Nat} {γ : Nat → ClassId} {es0 : va_W} {ih : zS} {r : zR} {p : Program} {e : Env} {s : State} {m : MethodId} {args : Array Value} {below : List Frame} {meth : Method} {c : Code} {A : Nat → Prop} {Q : State → Prop} {K : zK} {cs ss : Nat} {η0 : zE} {nf0 : Nat} {pc : Nat} {lo : zL} {sk : List zV} {ca : zCa} {fa : zFa} {nf : Nat} {n : Nat} {η : zE} {H : Heap} {locs : List Loc} {ls : Array Slot} {es : va_W} (IH : zGd T U D l ρ γ es0 ih) (C : zCx T U D l ρ γ es0 r p e s m args below meth c A Q K cs ss η0 nf0) (V : zIv T U D ρ γ es0 s A r η0 nf0 η H locs ls lo ca fa nf es) {x : Nat} (hd : decode r.1.2.1 pc = .ok (.getfield x, n)) (h : zgetf T ih r pc lo sk ca fa nf K n x = true) : W p l e (xrm r.1) s m args below meth c H locs cs ss Q (F0 m (pc) ls ((sk.map (zv ρ η)))) := by
  unfold zgetf at h
  split at h
  rotate_left
  · cases h
  rename_i i rest
  cases e1 : xfi (xfl r.1.2.2.2.2.1) x with
  | none => rw [e1] at h; cases h
  | some q =>
  rw [e1] at h
  dsimp only at h
  split at h
  rotate_left
  · cases h
  rename_i ci fs e2
  rw [Bool.and_eq_true, Bool.and_eq_true] at h
  obtain ⟨h0, h1, h⟩ := h
  have h0 := Nat.eq_of_beq_eq_true h0
  have h1 := Nat.eq_of_beq_eq_true h1
  subst h0
  subst h1
  rw [gt_eq] at e2
  obtain ⟨⟨C1, T1, N1⟩, b1, b2, b3⟩ := xfl_ok _ _ _ (xfi_ok e1)
  obtain ⟨vs0, hes0, hlen, -⟩ := V.2.2.2.2.2.2.2.1.2.2.1 i q.1 fs e2
  have rowv : ∀ {w : Value}, vs0[q.2.1]? = some w → W p l e (xrm r.1) s m args below meth c H locs cs ss Q (F0 m (pc + 3) ls (w :: rest.map (zv ρ η))) → W p l e (xrm r.1) s m args below meth c H locs cs ss Q (F0 m (pc) ls (zv ρ η (.inr (.inl (some i))) :: rest.map (zv ρ η))) := fun {w} hw k => va_get (D := D) (cl := vwCl) (tys := []) (ci := q.1) (v := w) (C := C1) (T := T1) (N := N1) (Ts := xGd) C.1 C.2.1 C.2.2.2.2.1 (u_ok b1) C.2.2.2.1 C.2.2.2.2.2.1 V.1 i hes0 b1 q.2.1 b2 (C.2.2.2.2.1 _ b3) (fun _ h9 => h9) hw hd k
  cases e3 : zcF i q.2.1 ca with
  | some v =>
    rw [e3] at h
    obtain ⟨-, k⟩ := ok_zpush IH C V h
    have hv : zfv es i q.2.1 = some (zv ρ η v) := (V.2.2.2.2.2.2.2.1.2.2.2.2 _ (zcF_some e3)).1
    rw [zfv_get hes0] at hv
    exact rowv hv k
  | none =>
    rw [e3] at h
    dsimp only at h
    cases e4 : gt fs q.2.1 with
    | none => rw [e4] at h; cases h
    | some f =>
      rw [e4] at h
      rw [gt_eq] at e4
      obtain ⟨vs, w, hes, hvv, hok⟩ := zCo.fld V.2.2.2.2.2.2.2.1 e2 e4 e3
      rw [hes0] at hes
      have hvs : vs0 = vs := by cases hes; rfl
      subst hvs
      have hes := hes0
      rcases f with ⟨a, b⟩ | cs2 | u
      · obtain ⟨x0, ex, hx1, hx2⟩ := hok
        subst ex
        have fin := rowv hvv
        dsimp only at h hx1 hx2
        split at h
        · exact fin (ok_zgetI IH C V (by rw [zfv_get hes]; exact hvv) hx1 hx2 h)
        · rename_i pr e6
          obtain ⟨hm, hp1, hp2⟩ := zpt_ok e6
          have hpl := hp1 rfl
          cases e7 : zcF pr.2.2.1.1 pr.2.2.1.2 ca with
          | some u =>
            rw [e7] at h
            exact fin (ok_zgetI IH C V (by rw [zfv_get hes]; exact hvv) hx1 hx2 h)
          | none =>
            rw [e7] at h
            dsimp only at h
            cases e8 : zrgF T.2.1 pr.2.2.1.1 pr.2.2.1.2 with
            | none => rw [e8] at h; cases h
            | some q2 =>
            rw [e8] at h
            obtain ⟨a2, b2⟩ := q2
            dsimp only at h
            obtain ⟨ci2, fs2, g1, g2⟩ := zrgF_ok e8
            obtain ⟨vs2, w2, g3, g4, y, g5, g6, g7⟩ := zCo.fld V.2.2.2.2.2.2.2.1 g1 g2 e7
            subst g5
            have hw2 : zfv es pr.2.2.1.1 pr.2.2.1.2 = some (.int y) := by rw [zfv_get g3]; exact g4
            have hv2 : zfv es i q.2.1 = some (.int x0) := by rw [zfv_get hes]; exact hvv
            refine fin (ok_zgetP IH C V hv2 hw2 hx1 hx2 g6 g7 ?_ h)
            have hmine : zfv es pr.2.1.1 pr.2.1.2 = some (.int x0) := by rw [hpl]; exact hv2
            have hmn : zcF pr.2.1.1 pr.2.1.2 ca = none := by rw [hpl]; exact e3
            rcases V.2.2.2.2.2.2.2.1.2.2.2.1 pr hm with z | z | ⟨x1, y1, z1, z2, z3⟩
            · exact absurd z (zcF_none hmn)
            · exact absurd z (zcF_none e7)
            · rw [hmine] at z1
              rw [hw2] at z2
              cases z1
              cases z2
              unfold zrs
              unfold zpR at z3
              have w1 : zup (zup η nf x0.toInt) (nf + 1) y.toInt nf = x0.toInt := by
                unfold zup
                rw [if_neg (by omega), if_pos rfl]
              dsimp only
              rw [w1, zup_n]
              cases e9 : pr.1 with
              | true => rw [e9] at z3; exact z3
              | false => rw [e9] at z3; exact z3
        · rename_i pr e6
          obtain ⟨hm, hp1, hp2⟩ := zpt_ok e6
          have hpl := hp2 rfl
          cases e7 : zcF pr.2.1.1 pr.2.1.2 ca with
          | some u =>
            rw [e7] at h
            exact fin (ok_zgetI IH C V (by rw [zfv_get hes]; exact hvv) hx1 hx2 h)
          | none =>
            rw [e7] at h
            dsimp only at h
            cases e8 : zrgF T.2.1 pr.2.1.1 pr.2.1.2 with
            | none => rw [e8] at h; cases h
            | some q2 =>
            rw [e8] at h
            obtain ⟨a2, b2⟩ := q2
            dsimp only at h
            obtain ⟨ci2, fs2, g1, g2⟩ := zrgF_ok e8
            obtain ⟨vs2, w2, g3, g4, y, g5, g6, g7⟩ := zCo.fld V.2.2.2.2.2.2.2.1 g1 g2 e7
            subst g5
            have hw2 : zfv es pr.2.1.1 pr.2.1.2 = some (.int y) := by rw [zfv_get g3]; exact g4
            have hv2 : zfv es i q.2.1 = some (.int x0) := by rw [zfv_get hes]; exact hvv
            refine fin (ok_zgetP IH C V hv2 hw2 hx1 hx2 g6 g7 ?_ h)
            have hmine : zfv es pr.2.2.1.1 pr.2.2.1.2 = some (.int x0) := by rw [hpl]; exact hv2
            have hmn : zcF pr.2.2.1.1 pr.2.2.1.2 ca = none := by rw [hpl]; exact e3
            rcases V.2.2.2.2.2.2.2.1.2.2.2.1 pr hm with z | z | ⟨x1, y1, z1, z2, z3⟩
            · exact absurd z (zcF_none e7)
            · exact absurd z (zcF_none hmn)
            · rw [hw2] at z1
              rw [hmine] at z2
              cases z1
              cases z2
              unfold zrs
              unfold zpR at z3
              have w1 : zup (zup η nf x0.toInt) (nf + 1) y.toInt nf = x0.toInt := by
                unfold zup
                rw [if_neg (by omega), if_pos rfl]
              dsimp only
              rw [w1, zup_n]
              cases e9 : pr.1 with
              | true => rw [e9] at z3; exact z3
              | false => rw [e9] at z3; exact z3
      · dsimp only at h
        obtain ⟨c2, hc2, ew⟩ := hok
        exact rowv hvv (ok_zgetR IH C V (by rw [zfv_get hes]; exact hvv) cs2 h ⟨c2, hc2, ew⟩)
      · dsimp only at h
        obtain ⟨x0, ex⟩ := hok
        subst ex
        exact rowv hvv (ok_zgetL IH C V (by rw [zfv_get hes]; exact hvv) h)
theorem zpok_ok {ρ : Nat → Nat} {η : zE} {fa : zFa} (hs : zsat η fa) {es : va_W} {i a b ci k : Nat} {vs : List Value} {v : zV} (hg : es[i]? = some (a, .inr (ci, vs))) (hl : k < vs.length) (h : zpok fa i k v = true) : pN es → pN (es.set i (b, .inr (ci, vs.set k (zv ρ η v)))) := by
  unfold zpok at h
  cases e : Nat.beq i 56 with
  | false =>
    have hi : i ≠ 56 := fun z => by subst z; cases e
    exact pN.obj hg hl (fun z => hi z.1) (fun z => hi z.1) (fun z => absurd z.1 hi)
  | true =>
    rw [e] at h
    dsimp only at h
    split at h
    · split at h
      · rename_i x
        rw [zrk_eq, Bool.and_eq_true, Bool.and_eq_true, decide_eq_true_eq] at h
        obtain ⟨h1, h2, h3⟩ := h
        simp only [xin, Bool.and_eq_true, decide_eq_true_eq] at h2 h3
        have h4 := zrg_ok hs x
        refine pN.obj hg hl (fun z => absurd z.2 (by decide)) (fun z => absurd z.2 (by decide)) (fun _ => ⟨zi η x, rfl, ?_⟩)
        have h5 : (zi η x).toInt = zd η x := i32_big (by omega) (by omega)
        rw [h5]
        omega
      · cases h
    · cases h
    · cases h
    · rename_i n1 n2 n3
      exact pN.obj hg hl (fun z => n2 z.2) (fun z => n3 z.2) (fun z => absurd z.2 n1)
set_option maxHeartbeats 1000000 in
theorem oz_putf {T : zTb} {U : zRn} {D : va_G} {l : Launch} {ρ : Nat → Nat} {γ : Nat → ClassId} {es0 : va_W} {ih : zS} {r : zR} {p : Program} {e : Env} {s : State} {m : MethodId} {args : Array Value} {below : List Frame} {meth : Method} {c : Code} {A : Nat → Prop} {Q : State → Prop} {K : zK} {cs ss : Nat} {η0 : zE} {nf0 : Nat} {pc : Nat} {lo : zL} {sk : List zV} {ca : zCa} {fa : zFa} {nf : Nat} {n : Nat} {η : zE} {H : Heap} {locs : List Loc} {ls : Array Slot} {es : va_W} (IH : zGd T U D l ρ γ es0 ih) (C : zCx T U D l ρ γ es0 r p e s m args below meth c A Q K cs ss η0 nf0) (V : zIv T U D ρ γ es0 s A r η0 nf0 η H locs ls lo ca fa nf es) {x : Nat} (hd : decode r.1.2.1 pc = .ok (.putfield x, n)) (h : zputf T U ih r pc lo sk ca fa nf K n x = true) : W p l e (xrm r.1) s m args below meth c H locs cs ss Q (F0 m (pc) ls ((sk.map (zv ρ η)))) := by
  unfold zputf at h
  split at h
  rotate_left
  · cases h
  rename_i v i rest
  cases e1 : xfi (xfl r.1.2.2.2.2.1) x with
  | none => rw [e1] at h; cases h
  | some q =>
  rw [e1] at h
  dsimp only at h
  split at h
  rotate_left
  · cases h
  rename_i ci fs e2
  rw [Bool.and_eq_true, Bool.and_eq_true, Bool.and_eq_true, Bool.and_eq_true, Bool.and_eq_true, Bool.and_eq_true, Bool.and_eq_true, Bool.and_eq_true, gFil_eq, fN_eq] at h
  obtain ⟨h1, h2, h3, h4, h5, h6, h7, hpo, h8⟩ := h
  have h1 := Nat.eq_of_beq_eq_true h1
  have h2 := Nat.eq_of_beq_eq_true h2
  subst h1
  subst h2
  rw [gt_eq] at e2
  obtain ⟨⟨C1, T1, N1⟩, b1, b2, b3⟩ := xfl_ok _ _ _ (xfi_ok e1)
  obtain ⟨t1, t2, t3, t4⟩ := t_ok b1 q.2.1 b2
  obtain ⟨n1, n2⟩ := zok_ok h3 ρ η
  obtain ⟨vs, hes, hlen, -⟩ := V.2.2.2.2.2.2.2.1.2.2.1 i q.1 fs e2
  have hl : q.2.1 < vs.length := by rw [hlen]; exact blt_ok h4
  have hf2 : (T1 q.2.1).2.2.2 = false := by
    cases hf : xfin q.1 q.2.1 with
    | true => rw [hf] at h6; cases h6
    | false =>
      unfold xfin at hf
      rw [b1] at hf
      exact hf
  refine va_put (D := D) (cl := vwCl) (tys := []) (ci := q.1) (v := zv ρ η v) (ty := xty q.1 q.2.1) (C := C1) (T := T1) (N := N1) (Ts := xGd) C.1 C.2.1 C.2.2.2.2.1 (u_ok b1) (xty q.1) (fun k hk => (t_ok b1 k hk).1) (n_ok b1) C.2.2.2.1 C.2.2.2.2.2.1 V.1 V.2.1 V.2.2.1 i hes b1 q.2.1 b2 (C.2.2.2.2.1 _ b3) (fun _ h9 => h9) hf2 t1 n1 n2 hl hd ?_
  intro H1 locs1 hP hD hS
  exact IH _ _ _ _ _ _ _ _ _ _ _ _ _ _ _ _ C _ _ _ _ _ _ h8 η H1 locs1 ls _ ⟨hP, hD, hS, V.2.2.2.1, V.2.2.2.2.1, V.2.2.2.2.2.1, V.2.2.2.2.2.2.1, zCo.setF V.2.2.2.2.2.2.2.1 e2 hes hl, zfrm.setF V.2.2.2.2.2.2.2.2 hes (blt_ok h5) h7 (fun hy => zpok_ok V.2.2.2.2.1 hes hl (by rw [hy] at hpo; exact hpo))⟩
theorem zidx_ok {η : zE} {fa : zFa} (hs : zsat η fa) {ix : zI} {m : Nat} (h : zidx fa ix m = true) : 0 ≤ zd η ix ∧ zd η ix < (m : Int) ∧ vp_in (zi η ix) m ∧ (zi η ix).toNatClampNeg = (zd η ix).toNat := by
  unfold zidx at h
  rw [zrk_eq, Bool.and_eq_true, Bool.and_eq_true, decide_eq_true_eq, decide_eq_true_eq] at h
  obtain ⟨h1, h2, h3⟩ := h
  simp only [xin, Bool.and_eq_true, decide_eq_true_eq] at h3
  have hr := zrg_ok hs ix
  have hx : xin (zd η ix) = true := by
    unfold xin
    rw [Bool.and_eq_true, decide_eq_true_eq, decide_eq_true_eq]
    constructor <;> omega
  obtain ⟨a1, a2⟩ := ofZ_in hx (by omega) (show zd η ix < (m : Int) by omega)
  exact ⟨by omega, by omega, a1, a2⟩
set_option maxHeartbeats 1000000 in
theorem oz_len {T : zTb} {U : zRn} {D : va_G} {l : Launch} {ρ : Nat → Nat} {γ : Nat → ClassId} {es0 : va_W} {ih : zS} {r : zR} {p : Program} {e : Env} {s : State} {m : MethodId} {args : Array Value} {below : List Frame} {meth : Method} {c : Code} {A : Nat → Prop} {Q : State → Prop} {K : zK} {cs ss : Nat} {η0 : zE} {nf0 : Nat} {pc : Nat} {lo : zL} {sk : List zV} {ca : zCa} {fa : zFa} {nf : Nat} {n : Nat} {η : zE} {H : Heap} {locs : List Loc} {ls : Array Slot} {es : va_W} (IH : zGd T U D l ρ γ es0 ih) (C : zCx T U D l ρ γ es0 r p e s m args below meth c A Q K cs ss η0 nf0) (V : zIv T U D ρ γ es0 s A r η0 nf0 η H locs ls lo ca fa nf es) (hd : decode r.1.2.1 pc = .ok (.arraylength, n)) (h : zlen T ih r pc lo sk ca fa nf K n = true) : W p l e (xrm r.1) s m args below meth c H locs cs ss Q (F0 m (pc) ls ((sk.map (zv ρ η)))) := by
  unfold zlen at h
  split at h
  rotate_left
  · cases h
  rename_i i rest
  cases e1 : Nat.beq i xz_SC with
  | true =>
    rw [e1] at h
    dsimp only at h
    rw [Bool.and_eq_true] at h
    have e2 := Nat.eq_of_beq_eq_true e1
    obtain ⟨L, xs, g1, g2, g3, g4, g5, g6⟩ := C.2.2.2.2.2.2.2.2.2.1.1 (Nat.eq_of_beq_eq_true h.1)
    obtain ⟨rfl, k⟩ := ok_zpush IH C V h.2
    subst e2
    have e3 : zv ρ η (.inl (zsym 0)) = .int (Int32.ofNat L) := by
      show Value.int (Int32.ofInt (1 * η 0 + 0)) = _
      rw [Int.one_mul, Int.add_zero, V.2.2.2.2.2.2.1 0 g3, g1]
      rfl
    rw [e3] at k
    exact va_slen C.1 C.2.1 g4 g5 g6 V.2.2.1 hd k
  | false =>
    rw [e1] at h
    dsimp only at h
    split at h
    rotate_left
    · cases h
    rename_i ty m us e2
    obtain ⟨rfl, k⟩ := ok_zpush IH C V h
    rw [gt_eq] at e2
    have hT := C.2.2.2.2.2.2.2.2.1 i ty m us e2
    have hk := kArr C.2.2.2.2.2.1 hT
    by_cases ht : ty = .long
    · subst ht
      obtain ⟨f, h1⟩ := V.2.2.2.2.2.2.2.1.2.1 i m us e2
      exact va_alen (D := D) (cl := vwCl) C.1 C.2.1 hk V.1 i 0 h1 rfl rfl hd k
    · obtain ⟨f, h1, -⟩ := V.2.2.2.2.2.2.2.1.1 i ty m us e2 ht
      exact va_alen (D := D) (cl := vwCl) C.1 C.2.1 hk V.1 i 0 h1 rfl rfl hd k
set_option maxHeartbeats 1000000 in
theorem ok_zald {T : zTb} {U : zRn} {D : va_G} {l : Launch} {ρ : Nat → Nat} {γ : Nat → ClassId} {es0 : va_W} {ih : zS} {r : zR} {p : Program} {e : Env} {s : State} {m : MethodId} {args : Array Value} {below : List Frame} {meth : Method} {c : Code} {A : Nat → Prop} {Q : State → Prop} {K : zK} {cs ss : Nat} {η0 : zE} {nf0 : Nat} {pc : Nat} {lo : zL} {sk : List zV} {ca : zCa} {fa : zFa} {nf : Nat} {n : Nat} {η : zE} {H : Heap} {locs : List Loc} {ls : Array Slot} {es : va_W} (IH : zGd T U D l ρ γ es0 ih) (C : zCx T U D l ρ γ es0 r p e s m args below meth c A Q K cs ss η0 nf0) (V : zIv T U D ρ γ es0 s A r η0 nf0 η H locs ls lo ca fa nf es) {ts : List FieldType} (hts : ts = [.int] ∨ ts = [.byte, .boolean]) (rowS : ∀ (L : Nat) (xs : Nat → Int32) (i : Int32) (rest : List Value), ts = [.int] → n = 1 → va_X (ρ xz_SC) L xs s s.heap → ρ xz_SC < s.heap.size → ¬ A (ρ xz_SC) → vp_in i L → W p l e (xrm r.1) s m args below meth c H locs cs ss Q (F0 m (pc + 1) ls (.int (xs i.toNatClampNeg) :: rest)) → W p l e (xrm r.1) s m args below meth c H locs cs ss Q (F0 m (pc) ls (.int i :: .ref (ρ xz_SC) :: rest))) (rowA : ∀ (ty : FieldType) (i q0 : Nat) (m0 : Nat) (f : Nat → Int32) (j : Int32) (rest : List Value), ty ∈ ts → n = 1 → va_K D vwCl [(γ i, ty)] s → es[q0]? = some (ρ i, .inl (γ i, m0, .inl f)) → vp_in j m0 → W p l e (xrm r.1) s m args below meth c H locs cs ss Q (F0 m (pc + 1) ls (.int (f j.toNatClampNeg) :: rest)) → W p l e (xrm r.1) s m args below meth c H locs cs ss Q (F0 m (pc) ls (.int j :: .ref (ρ i) :: rest))) (h : zald T ih r pc lo sk ca fa nf K n ts = true) : W p l e (xrm r.1) s m args below meth c H locs cs ss Q (F0 m (pc) ls ((sk.map (zv ρ η)))) := by
  unfold zald at h
  split at h
  rotate_left
  · cases h
  rename_i ix i rest
  cases e1 : Nat.beq i xz_SC with
  | true =>
    rw [e1] at h
    dsimp only at h
    rw [Bool.and_eq_true, Bool.and_eq_true, Bool.and_eq_true, Bool.and_eq_true] at h
    obtain ⟨h1, h2, h3, h4, h5⟩ := h
    have e2 := Nat.eq_of_beq_eq_true e1
    subst e2
    obtain ⟨L, xs, g1, g2, g3, g4, g5, g6⟩ := C.2.2.2.2.2.2.2.2.2.1.1 (Nat.eq_of_beq_eq_true h1)
    have a1 := zleB_ok V.2.2.2.2.1 h3
    have a2 := zlB_ok V.2.2.2.2.1 h4
    have a3 : zd η (zsym 0) = (L : Int) := by
      show 1 * η 0 + 0 = _
      rw [Int.one_mul, Int.add_zero, V.2.2.2.2.2.2.1 0 g3, g1]
    have a1 : 0 ≤ zd η ix := a1
    rw [a3] at a2
    have hx : xin (zd η ix) = true := by
      unfold xin
      rw [Bool.and_eq_true, decide_eq_true_eq, decide_eq_true_eq]
      constructor <;> omega
    obtain ⟨v1, v2⟩ := ofZ_in hx a1 a2
    obtain ⟨hn, k⟩ := ok_zpuF0 IH C V h5 (xs (zi η ix).toNatClampNeg) (i32_bd _)
    exact rowS L xs (zi η ix) _ (of_decide_eq_true h2) hn g4 g5 g6 v1 k
  | false =>
    rw [e1] at h
    dsimp only at h
    split at h
    rotate_left
    · cases h
    rename_i ty m us e2
    rw [Bool.and_eq_true, Bool.and_eq_true] at h
    obtain ⟨h1, h2, h3⟩ := h
    have h1 := of_decide_eq_true h1
    rw [gt_eq] at e2
    have ht : ty ≠ .long := fun z => by
      subst z
      rcases hts with z | z <;> rw [z] at h1 <;> simp at h1
    obtain ⟨i0, i1, i2, i3⟩ := zidx_ok V.2.2.2.2.1 h2
    have hk := kArr C.2.2.2.2.2.1 (C.2.2.2.2.2.2.2.2.1 i ty m us e2)
    cases e3 : zcA i ix ca with
    | some v =>
      rw [e3] at h3
      obtain ⟨hn, k⟩ := ok_zpush IH C V h3
      obtain ⟨f, h4, -⟩ := V.2.2.2.2.2.2.2.1.1 i ty m us e2 ht
      obtain ⟨x, hm, hx⟩ := zcA_some (η := η) e3
      have hv : zav es i (zd η x).toNat = some (zv ρ η v) := (V.2.2.2.2.2.2.2.1.2.2.2.2 _ hm).1
      rw [hx, zav_get h4] at hv
      have hv := Option.some.inj hv
      refine rowA ty i i m f (zi η ix) _ h1 hn hk h4 i2 ?_
      rw [i3, hv]
      exact k
    | none =>
      rw [e3] at h3
      dsimp only at h3
      rw [Bool.and_eq_true, Bool.and_eq_true, Bool.and_eq_true, Bool.and_eq_true, fZ_eq, fZ_eq, fN_eq, fN_eq] at h3
      obtain ⟨h5, h6, h7, h8, h9⟩ := h3
      have hn := Nat.eq_of_beq_eq_true h6
      obtain ⟨f, h4, hR⟩ := zCo.arr V.2.2.2.2.1 V.2.2.2.2.2.2.2.1 e2 ht h5
      have hj : (zd η ix).toNat < m := by omega
      have hin := zhl_ok (zcov_ok V.2.2.2.2.1 us i0) (hR _ hj).1 (hR _ hj).2
      obtain ⟨V2, e5⟩ := zIv.up V (g := ((zhl (zcov fa us ix)).1, (zhl (zcov fa us ix)).2, [])) (rl := []) (mm := []) (zbd32 (f (zd η ix).toNat)) h7 ⟨hin.1, hin.2, fun _ z => by cases z⟩ (fun _ z => by cases z) (fun _ z => by cases z)
      have hag := zbI_ag (zup_ag η nf (f (zd η ix).toNat).toInt) h8
      have k2 := IH _ _ _ _ _ _ _ _ _ _ _ _ _ _ _ _ C _ _ _ _ _ _ h9 _ H locs ls es (zIv.ca V2 (zCo.add V2.2.2.2.2.2.2.2.1 ⟨(by
        show zav es i _ = _
        rw [hag, zv_sym, zav_get h4]), fun ix2 z => (by cases z; rw [hag]; exact i0)⟩))
      rw [List.map_cons, zv_sym, e5] at k2
      refine rowA ty i i m f (zi η ix) _ h1 hn hk h4 i2 ?_
      rw [i3]
      exact k2
set_option maxHeartbeats 1000000 in
theorem oz_iaload {T : zTb} {U : zRn} {D : va_G} {l : Launch} {ρ : Nat → Nat} {γ : Nat → ClassId} {es0 : va_W} {ih : zS} {r : zR} {p : Program} {e : Env} {s : State} {m : MethodId} {args : Array Value} {below : List Frame} {meth : Method} {c : Code} {A : Nat → Prop} {Q : State → Prop} {K : zK} {cs ss : Nat} {η0 : zE} {nf0 : Nat} {pc : Nat} {lo : zL} {sk : List zV} {ca : zCa} {fa : zFa} {nf : Nat} {n : Nat} {η : zE} {H : Heap} {locs : List Loc} {ls : Array Slot} {es : va_W} (IH : zGd T U D l ρ γ es0 ih) (C : zCx T U D l ρ γ es0 r p e s m args below meth c A Q K cs ss η0 nf0) (V : zIv T U D ρ γ es0 s A r η0 nf0 η H locs ls lo ca fa nf es) (hd : decode r.1.2.1 pc = .ok (.iaload, n)) (h : zald T ih r pc lo sk ca fa nf K n [.int] = true) : W p l e (xrm r.1) s m args below meth c H locs cs ss Q (F0 m (pc) ls ((sk.map (zv ρ η)))) := by
  refine ok_zald IH C V (Or.inl rfl) (fun L xs i rest _ hn g4 g5 g6 hi k => ?_) (fun ty i q0 m0 f j rest ht hn hk hg hi k => ?_) h
  · subst hn
    exact va_sld C.1 C.2.1 g4 g5 g6 V.2.2.1 hi hd k
  · subst hn
    have ht := List.mem_singleton.mp ht
    subst ht
    exact va_iald (D := D) (cl := vwCl) C.1 C.2.1 hk V.1 q0 0 hg rfl hi hd k
set_option maxHeartbeats 1000000 in
theorem oz_baload {T : zTb} {U : zRn} {D : va_G} {l : Launch} {ρ : Nat → Nat} {γ : Nat → ClassId} {es0 : va_W} {ih : zS} {r : zR} {p : Program} {e : Env} {s : State} {m : MethodId} {args : Array Value} {below : List Frame} {meth : Method} {c : Code} {A : Nat → Prop} {Q : State → Prop} {K : zK} {cs ss : Nat} {η0 : zE} {nf0 : Nat} {pc : Nat} {lo : zL} {sk : List zV} {ca : zCa} {fa : zFa} {nf : Nat} {n : Nat} {η : zE} {H : Heap} {locs : List Loc} {ls : Array Slot} {es : va_W} (IH : zGd T U D l ρ γ es0 ih) (C : zCx T U D l ρ γ es0 r p e s m args below meth c A Q K cs ss η0 nf0) (V : zIv T U D ρ γ es0 s A r η0 nf0 η H locs ls lo ca fa nf es) (hd : decode r.1.2.1 pc = .ok (.baload, n)) (h : zald T ih r pc lo sk ca fa nf K n [.byte, .boolean] = true) : W p l e (xrm r.1) s m args below meth c H locs cs ss Q (F0 m (pc) ls ((sk.map (zv ρ η)))) := by
  refine ok_zald IH C V (Or.inr rfl) (fun L xs i rest z hn g4 g5 g6 hi k => absurd z (by decide)) (fun ty i q0 m0 f j rest ht hn hk hg hi k => ?_) h
  subst hn
  rcases List.mem_cons.mp ht with ht | ht
  · subst ht
    exact va_bald (D := D) (cl := vwCl) C.1 C.2.1 hk V.1 q0 0 hg rfl hi hd k
  · have ht := List.mem_singleton.mp ht
    subst ht
    exact va_zald (D := D) (cl := vwCl) C.1 C.2.1 hk V.1 q0 0 hg rfl hi hd k
set_option maxHeartbeats 1000000 in
theorem oz_laload {T : zTb} {U : zRn} {D : va_G} {l : Launch} {ρ : Nat → Nat} {γ : Nat → ClassId} {es0 : va_W} {ih : zS} {r : zR} {p : Program} {e : Env} {s : State} {m : MethodId} {args : Array Value} {below : List Frame} {meth : Method} {c : Code} {A : Nat → Prop} {Q : State → Prop} {K : zK} {cs ss : Nat} {η0 : zE} {nf0 : Nat} {pc : Nat} {lo : zL} {sk : List zV} {ca : zCa} {fa : zFa} {nf : Nat} {n : Nat} {η : zE} {H : Heap} {locs : List Loc} {ls : Array Slot} {es : va_W} (IH : zGd T U D l ρ γ es0 ih) (C : zCx T U D l ρ γ es0 r p e s m args below meth c A Q K cs ss η0 nf0) (V : zIv T U D ρ γ es0 s A r η0 nf0 η H locs ls lo ca fa nf es) (hd : decode r.1.2.1 pc = .ok (.laload, n)) (h : zlald T ih r pc lo sk ca fa nf K n = true) : W p l e (xrm r.1) s m args below meth c H locs cs ss Q (F0 m (pc) ls ((sk.map (zv ρ η)))) := by
  unfold zlald at h
  split at h
  rotate_left
  · cases h
  rename_i ix i rest
  split at h
  rotate_left
  · cases h
  rename_i m us e2
  rw [Bool.and_eq_true] at h
  rw [gt_eq] at e2
  obtain ⟨i0, i1, i2, i3⟩ := zidx_ok V.2.2.2.2.1 h.1
  have hk := kArr C.2.2.2.2.2.1 (C.2.2.2.2.2.2.2.2.1 i .long m us e2)
  obtain ⟨f, h4⟩ := V.2.2.2.2.2.2.2.1.2.1 i m us e2
  obtain ⟨rfl, k⟩ := ok_zpuL IH C V h.2 (f (zi η ix).toNatClampNeg)
  exact va_lald (D := D) (cl := vwCl) C.1 C.2.1 hk V.1 i 0 h4 rfl i2 hd k
/-- an array of longs is written -/
theorem zCo.setL {T : zTb} {ρ : Nat → Nat} {γ : Nat → ClassId} {η : zE} {ca : zCa} {es : va_W} (C : zCo T ρ γ η ca es) {i n : Nat} {rs : List (Int × Int)} (hd : T.2.1[i]? = some (.inl (.long, n, rs))) {f g : Nat → Int64} (hg : es[i]? = some (ρ i, .inl (γ i, n, .inr (.inl f)))) : zCo T ρ γ η ca (es.set i (ρ i, .inl (γ i, n, .inr (.inl g)))) := by
  have hl : i < es.length := (List.getElem?_eq_some_iff.mp hg).1
  have hoth : ∀ i2, i2 ≠ i → (es.set i (ρ i, Sum.inl (γ i, n, Sum.inr (Sum.inl g))))[i2]? = es[i2]? := fun i2 h => by
    rw [List.getElem?_set, if_neg (fun z => h z.symm)]
  have hfv : ∀ a b, zfv (es.set i (ρ i, Sum.inl (γ i, n, Sum.inr (Sum.inl g)))) a b = zfv es a b := fun a b => by
    unfold zfv
    by_cases e : a = i
    · subst e
      rw [List.getElem?_set, if_pos rfl, if_pos hl, hg]
    · rw [hoth a e]
  have hav : ∀ a b, zav (es.set i (ρ i, Sum.inl (γ i, n, Sum.inr (Sum.inl g)))) a b = zav es a b := fun a b => by
    unfold zav
    by_cases e : a = i
    · subst e
      rw [List.getElem?_set, if_pos rfl, if_pos hl, hg]
    · rw [hoth a e]
  refine ⟨fun i2 ty2 n2 rs2 hi2 ht2 => ?_, fun i2 n2 rs2 hi2 => ?_, fun i2 ci fs hi2 => ?_, fun q hq => ?_, fun q hq => ?_⟩
  · have e : i2 ≠ i := fun z => by
      subst z
      rw [hd] at hi2
      cases hi2
      exact ht2 rfl
    rw [hoth i2 e]
    exact C.1 i2 ty2 n2 rs2 hi2 ht2
  · by_cases e : i2 = i
    · subst e
      rw [hd] at hi2
      cases hi2
      exact ⟨g, by rw [List.getElem?_set, if_pos rfl, if_pos hl]⟩
    · rw [hoth i2 e]
      exact C.2.1 i2 n2 rs2 hi2
  · have e : i2 ≠ i := fun z => by
      subst z
      rw [hd] at hi2
      cases hi2
    rw [hoth i2 e]
    exact C.2.2.1 i2 ci fs hi2
  · rw [hfv, hfv]
    exact C.2.2.2.1 q hq
  · obtain ⟨h1, h2⟩ := C.2.2.2.2 q hq
    refine ⟨?_, h2⟩
    rw [← h1]
    obtain ⟨⟨a, b | ix⟩, v⟩ := q
    · exact hfv a b
    · exact hav a _
set_option maxHeartbeats 1000000 in
theorem oz_lastore {T : zTb} {U : zRn} {D : va_G} {l : Launch} {ρ : Nat → Nat} {γ : Nat → ClassId} {es0 : va_W} {ih : zS} {r : zR} {p : Program} {e : Env} {s : State} {m : MethodId} {args : Array Value} {below : List Frame} {meth : Method} {c : Code} {A : Nat → Prop} {Q : State → Prop} {K : zK} {cs ss : Nat} {η0 : zE} {nf0 : Nat} {pc : Nat} {lo : zL} {sk : List zV} {ca : zCa} {fa : zFa} {nf : Nat} {n : Nat} {η : zE} {H : Heap} {locs : List Loc} {ls : Array Slot} {es : va_W} (IH : zGd T U D l ρ γ es0 ih) (C : zCx T U D l ρ γ es0 r p e s m args below meth c A Q K cs ss η0 nf0) (V : zIv T U D ρ γ es0 s A r η0 nf0 η H locs ls lo ca fa nf es) (hd : decode r.1.2.1 pc = .ok (.lastore, n)) (h : zlast T U ih r pc lo sk ca fa nf K n = true) : W p l e (xrm r.1) s m args below meth c H locs cs ss Q (F0 m (pc) ls ((sk.map (zv ρ η)))) := by
  unfold zlast at h
  split at h
  rotate_left
  · cases h
  rename_i v ix i rest
  split at h
  rotate_left
  · cases h
  rename_i m us e2
  rw [Bool.and_eq_true, Bool.and_eq_true, Bool.and_eq_true, fN_eq] at h
  obtain ⟨h0, h1, h2, h3⟩ := h
  have h0 := Nat.eq_of_beq_eq_true h0
  subst h0
  rw [gt_eq] at e2
  obtain ⟨i0, i1, i2, i3⟩ := zidx_ok V.2.2.2.2.1 h1
  have hk := kArr C.2.2.2.2.2.1 (C.2.2.2.2.2.2.2.2.1 i .long m us e2)
  obtain ⟨f, h4⟩ := V.2.2.2.2.2.2.2.1.2.1 i m us e2
  refine va_last (D := D) (cl := vwCl) C.1 C.2.1 hk V.1 V.2.1 V.2.2.1 i 0 h4 rfl i2 hd ?_
  intro H1 locs1 hP hD hS
  exact IH _ _ _ _ _ _ _ _ _ _ _ _ _ _ _ _ C _ _ _ _ _ _ h3 η H1 locs1 ls _ ⟨hP, hD, hS, V.2.2.2.1, V.2.2.2.2.1, V.2.2.2.2.2.1, V.2.2.2.2.2.2.1, zCo.setL V.2.2.2.2.2.2.2.1 e2 h4, zfrm.setA V.2.2.2.2.2.2.2.2 h4 h2 (fun _ => pN.long h4 ⟨_, _, _, rfl⟩)⟩
theorem nar_b (x : Int32) : inR (-128, 127) (vp_nar .byte x) := i2b_bd x
theorem nar_z (x : Int32) : inR (0, 1) (vp_nar .boolean x) := by
  have := and_le x 1 (by decide)
  exact this
set_option maxHeartbeats 1000000 in
theorem ok_zast {T : zTb} {U : zRn} {D : va_G} {l : Launch} {ρ : Nat → Nat} {γ : Nat → ClassId} {es0 : va_W} {ih : zS} {r : zR} {p : Program} {e : Env} {s : State} {m : MethodId} {args : Array Value} {below : List Frame} {meth : Method} {c : Code} {A : Nat → Prop} {Q : State → Prop} {K : zK} {cs ss : Nat} {η0 : zE} {nf0 : Nat} {pc : Nat} {lo : zL} {sk : List zV} {ca : zCa} {fa : zFa} {nf : Nat} {n : Nat} {η : zE} {H : Heap} {locs : List Loc} {ls : Array Slot} {es : va_W} (IH : zGd T U D l ρ γ es0 ih) (C : zCx T U D l ρ γ es0 r p e s m args below meth c A Q K cs ss η0 nf0) (V : zIv T U D ρ γ es0 s A r η0 nf0 η H locs ls lo ca fa nf es) {ts : List FieldType} (hts : ts = [.int] ∨ ts = [.byte, .boolean]) (rowA : ∀ (ty : FieldType) (i m0 : Nat) (f : Nat → Int32) (j x : Int32) (rest : List Value), ty ∈ ts → n = 1 → va_K D vwCl [(γ i, ty)] s → es[i]? = some (ρ i, .inl (γ i, m0, .inl f)) → vp_in j m0 → (∀ (H1 : Heap) (locs1 : List Loc), va_P D vwCl (es.set i (ρ i, .inl (γ i, m0, .inl (upd f j.toNatClampNeg (vp_nar ty x))))) H1 → va_D A (es.set i (ρ i, .inl (γ i, m0, .inl (upd f j.toNatClampNeg (vp_nar ty x))))) → va_S A s.heap H1 locs1 → W p l e (xrm r.1) s m args below meth c H1 locs1 cs ss Q (F0 m (pc + 1) ls (rest))) → W p l e (xrm r.1) s m args below meth c H locs cs ss Q (F0 m (pc) ls (.int x :: .int j :: .ref (ρ i) :: rest))) (h : zast T U ih r pc lo sk ca fa nf K n ts = true) : W p l e (xrm r.1) s m args below meth c H locs cs ss Q (F0 m (pc) ls ((sk.map (zv ρ η)))) := by
  unfold zast at h
  split at h
  rotate_left
  · cases h
  rename_i v ix i rest
  split at h
  rotate_left
  · cases h
  rename_i ty m1 us e2
  rw [Bool.and_eq_true, Bool.and_eq_true, Bool.and_eq_true, Bool.and_eq_true, Bool.and_eq_true, Bool.and_eq_true, gFil_eq, fN_eq] at h
  obtain ⟨h0, h1, h2, h3, hsp, h4, h5⟩ := h
  have h0 := Nat.eq_of_beq_eq_true h0
  have h1 := of_decide_eq_true h1
  rw [gt_eq] at e2
  have ht : ty ≠ .long := fun z => by
    subst z
    rcases hts with z | z <;> rw [z] at h1 <;> simp at h1
  obtain ⟨i0, i1, i2, i3⟩ := zidx_ok V.2.2.2.2.1 h2
  have hk := kArr C.2.2.2.2.2.1 (C.2.2.2.2.2.2.2.2.1 i ty m1 us e2)
  obtain ⟨f, h6, hR⟩ := zCo.arr V.2.2.2.2.1 V.2.2.2.2.2.2.2.1 e2 ht h4
  have hl : i < es.length := (List.getElem?_eq_some_iff.mp h6).1
  refine rowA ty i m1 f (zi η ix) (zi η v) _ h1 h0 hk h6 i2 (fun H1 locs1 hP hD hS => ?_)
  rw [i3] at hP hD
  have hup : ∀ j, j < m1 → j ≠ (zd η ix).toNat → inR (zrj us j) (upd f (zd η ix).toNat (vp_nar ty (zi η v)) j) := fun j hj hne => by
    unfold upd
    rw [if_neg hne]
    exact hR j hj
  have hat : upd f (zd η ix).toNat (vp_nar ty (zi η v)) (zd η ix).toNat = vp_nar ty (zi η v) := by
    unfold upd
    rw [if_pos rfl]
  have hW := zfrm.setA (x2 := (γ i, m1, .inl (upd f (zd η ix).toNat (vp_nar ty (zi η v))))) V.2.2.2.2.2.2.2.2 h6 h3 (fun hy => pN.ne h6 (by rw [hy] at hsp; exact hsp))
  have fin : ∀ {rr : Int × Int}, us = [rr] → inR rr (vp_nar ty (zi η v)) → ih r (pc + 1) lo rest (ca.filter (znA i)) fa nf K = true → W p l e (xrm r.1) s m args below meth c H1 locs1 cs ss Q (F0 m (pc + 1) ls (rest.map (zv ρ η))) := fun {rr} e9 hin hh => by
    have hc := zCo.setA (cx := []) (f := upd f (zd η ix).toNat (vp_nar ty (zi η v))) V.2.2.2.2.2.2.2.1 e2 ht hl (fun q hq => by cases hq) (fun j hj => Or.inr (by
      by_cases e5 : j = (zd η ix).toNat
      · rw [e5, hat]
        have e6 : zrj us (zd η ix).toNat = rr := by
          rw [e9]
          unfold zrj
          rw [gt_eq]
          have e7 : (zd η ix).toNat % [rr].length = 0 := Nat.mod_one _
          rw [e7]
          rfl
        rw [e6]
        exact hin
      · exact hup j hj e5))
    rw [List.nil_append] at hc
    exact IH _ _ _ _ _ _ _ _ _ _ _ _ _ _ _ _ C _ _ _ _ _ _ hh η H1 locs1 ls _ ⟨hP, hD, hS, V.2.2.2.1, V.2.2.2.2.1, V.2.2.2.2.2.1, V.2.2.2.2.2.2.1, hc, hW⟩
  rcases hts with z | z
  · subst z
    have ht2 := List.mem_singleton.mp h1
    subst ht2
    dsimp only at h5
    have hc := zCo.setA (cx := [((i, .inr ix), .inl v)]) (f := upd f (zd η ix).toNat (vp_nar .int (zi η v))) V.2.2.2.2.2.2.2.1 e2 ht hl (fun q hq => by
      rcases List.mem_singleton.mp hq with rfl
      exact ⟨rfl, ix, rfl, i0, by rw [hat]; rfl⟩) (fun j hj => by
      by_cases e5 : j = (zd η ix).toNat
      · exact Or.inl ⟨ix, .inl v, List.mem_cons_self, e5.symm⟩
      · exact Or.inr (hup j hj e5))
    exact IH _ _ _ _ _ _ _ _ _ _ _ _ _ _ _ _ C _ _ _ _ _ _ h5 η H1 locs1 ls _ ⟨hP, hD, hS, V.2.2.2.1, V.2.2.2.2.1, V.2.2.2.2.2.1, V.2.2.2.2.2.2.1, hc, hW⟩
  · subst z
    rcases List.mem_cons.mp h1 with ht2 | ht2
    · subst ht2
      dsimp only at h5
      rw [Bool.and_eq_true] at h5
      exact fin (of_decide_eq_true h5.1) (nar_b _) h5.2
    · have ht2 := List.mem_singleton.mp ht2
      subst ht2
      dsimp only at h5
      rw [Bool.and_eq_true] at h5
      exact fin (of_decide_eq_true h5.1) (nar_z _) h5.2
set_option maxHeartbeats 1000000 in
theorem oz_iastore {T : zTb} {U : zRn} {D : va_G} {l : Launch} {ρ : Nat → Nat} {γ : Nat → ClassId} {es0 : va_W} {ih : zS} {r : zR} {p : Program} {e : Env} {s : State} {m : MethodId} {args : Array Value} {below : List Frame} {meth : Method} {c : Code} {A : Nat → Prop} {Q : State → Prop} {K : zK} {cs ss : Nat} {η0 : zE} {nf0 : Nat} {pc : Nat} {lo : zL} {sk : List zV} {ca : zCa} {fa : zFa} {nf : Nat} {n : Nat} {η : zE} {H : Heap} {locs : List Loc} {ls : Array Slot} {es : va_W} (IH : zGd T U D l ρ γ es0 ih) (C : zCx T U D l ρ γ es0 r p e s m args below meth c A Q K cs ss η0 nf0) (V : zIv T U D ρ γ es0 s A r η0 nf0 η H locs ls lo ca fa nf es) (hd : decode r.1.2.1 pc = .ok (.iastore, n)) (h : zast T U ih r pc lo sk ca fa nf K n [.int] = true) : W p l e (xrm r.1) s m args below meth c H locs cs ss Q (F0 m (pc) ls ((sk.map (zv ρ η)))) := by
  refine ok_zast IH C V (Or.inl rfl) (fun ty i m0 f j x rest ht hn hk hg hi k => ?_) h
  subst hn
  have ht := List.mem_singleton.mp ht
  subst ht
  exact va_iast (D := D) (cl := vwCl) C.1 C.2.1 hk V.1 V.2.1 V.2.2.1 i 0 hg rfl hi hd k
set_option maxHeartbeats 1000000 in
theorem oz_bastore {T : zTb} {U : zRn} {D : va_G} {l : Launch} {ρ : Nat → Nat} {γ : Nat → ClassId} {es0 : va_W} {ih : zS} {r : zR} {p : Program} {e : Env} {s : State} {m : MethodId} {args : Array Value} {below : List Frame} {meth : Method} {c : Code} {A : Nat → Prop} {Q : State → Prop} {K : zK} {cs ss : Nat} {η0 : zE} {nf0 : Nat} {pc : Nat} {lo : zL} {sk : List zV} {ca : zCa} {fa : zFa} {nf : Nat} {n : Nat} {η : zE} {H : Heap} {locs : List Loc} {ls : Array Slot} {es : va_W} (IH : zGd T U D l ρ γ es0 ih) (C : zCx T U D l ρ γ es0 r p e s m args below meth c A Q K cs ss η0 nf0) (V : zIv T U D ρ γ es0 s A r η0 nf0 η H locs ls lo ca fa nf es) (hd : decode r.1.2.1 pc = .ok (.bastore, n)) (h : zast T U ih r pc lo sk ca fa nf K n [.byte, .boolean] = true) : W p l e (xrm r.1) s m args below meth c H locs cs ss Q (F0 m (pc) ls ((sk.map (zv ρ η)))) := by
  refine ok_zast IH C V (Or.inr rfl) (fun ty i m0 f j x rest ht hn hk hg hi k => ?_) h
  subst hn
  rcases List.mem_cons.mp ht with ht | ht
  · subst ht
    exact va_bast (D := D) (cl := vwCl) C.1 C.2.1 hk V.1 V.2.1 V.2.2.1 i 0 hg rfl hi hd k
  · have ht := List.mem_singleton.mp ht
    subst ht
    exact va_zast (D := D) (cl := vwCl) C.1 C.2.1 hk V.1 V.2.1 V.2.2.1 i 0 hg rfl hi hd k
