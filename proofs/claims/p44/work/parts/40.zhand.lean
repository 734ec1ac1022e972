/-! Methods that are proved by hand out of runs: what a frame stands on, a run from any place to the next cuts, the entry. -/
def zhR (r : xR) (q : Nat × Nat) : xR := (r.1, r.2.1, r.2.2.1, r.2.2.2.1, r.2.2.2.2.1, (q.1, q.2, 0, 0), r.2.2.2.2.2.2.1, r.2.2.2.2.2.2.2)
def zBs (T : zTb) (D : va_G) (l : Launch) (γ : Nat → ClassId) (r : xR) (p : Program) (s : State) (m : MethodId) (args : Array Value) (c : Code) (A : Nat → Prop) : Prop :=
  p.tables.exec = Jvm.exec ∧ c.code = r.2.1 ∧ c.maxLocals = r.2.2.1 ∧ s.vm.findClass (xnm r.2.2.2.2.1) = some m.cls ∧ (∀ w ∈ xGd, w.before args s = true) ∧ va_K D vwCl [] s ∧ (∀ q, s.heap.size ≤ q → A q) ∧ (∀ q ∈ r.2.2.2.2.2.2.2, decode r.2.1 q.1 = .ok q.2) ∧ hTz T s γ ∧ ¬ r.2.2.2.2.1 = 12 ∧ zStr A s
/-- a run from a place on, the place's own cut passed -/
def zgo1 (T : zTb) (U : zRn) (n : Nat) (r : zR) (pc : Nat) (lo : zL) (sk : List zV) (ca : zCa) (fa : zFa) (K : zK) : Bool := match xfi r.1.2.2.2.2.2.2.2 pc with
  | some i => zsi T U (zex T U n) r pc lo sk ca fa 100 K i.2 i.1
  | none => false
set_option maxHeartbeats 1000000 in
theorem zseg {T : zTb} {D : va_G} {l : Launch} {ρ : Nat → Nat} {γ : Nat → ClassId} {r : xR} {p : Program} {e : Env} {s : State} {m : MethodId} {args : Array Value} {below : List Frame} {meth : Method} {c : Code} {A : Nat → Prop} {Q : State → Prop} (B : zBs T D l γ r p s m args c A) {hk : zCk} {fin : zK} {cm : List (Nat × List Nat)} {ns : Nat} {wr : List Nat} {n : Nat} {pcs : List Nat} {pc : Nat} {lo : zL} {sk : List zV} {ca : zCa} {fa : zFa} {η : zE} {H : Heap} {locs : List Loc} {ls : Array Slot} {es : va_W}
    (HS : ∀ (es1 : va_W), zfrm wr es es1 → ∀ (j : Nat) (sm : zSm), j < ns → T.1[j]? = some sm → zSOe T D l sm es1)
    (h : zgo1 T (hk, cm, ns, wr) n (r, pcs) pc lo sk ca fa fin = true)
    (hP : va_P D vwCl es H) (hD : va_D A es) (hS : va_S A s.heap H locs) (hl : lv_has ls r.2.2.1 (zdL ρ η lo)) (hs : zsat η fa) (hC : zCo T ρ γ η ca es)
    (hA : ∀ (pc : Nat) (lo : zL) (sk : List zV) (ca : zCa) (fa : zFa) (nf : Nat) (η3 : zE) (H : Heap) (locs : List Loc) (ls : Array Slot) (es3 : va_W), xmN pcs pc = true → hk pc lo sk ca fa nf = true → zIv T (hk, cm, ns, wr) D ρ γ es s A (r, pcs) η 100 η3 H locs ls lo ca fa nf es3 → W p l e (xrm r) s m args below meth c H locs 0 0 Q (F0 m pc ls (sk.map (zv ρ η3))))
    (hR : ∀ (pc : Nat) (v : Option zV) (lo : zL) (ca : zCa) (fa : zFa) (nf : Nat) (η3 : zE) (H : Heap) (locs : List Loc) (ls : Array Slot) (es3 : va_W), zIv T (hk, cm, ns, wr) D ρ γ es s A (r, pcs) η 100 η3 H locs ls lo ca fa nf es3 → fin fa nf v ca = true → zrd η3 (r, pcs) pc v → W p l e (xrm r) s m args below meth c H locs 0 0 Q (F0 m pc ls (v.toList.map (zv ρ η3)))) :
    W p l e (xrm r) s m args below meth c H locs 0 0 Q (F0 m pc ls (sk.map (zv ρ η))) := by
  obtain ⟨b1, b2, b3, b4, b5, b6, b7, b8, b9, b10, b11⟩ := B
  have CC : zCx T (hk, cm, ns, wr) D l ρ γ es (r, pcs) p e s m args below meth c A Q fin 0 0 η 100 := ⟨b1, b2, b3, b4, b5, b6, ⟨b7, Nat.zero_le _, Nat.zero_le _⟩, b8, b9, ⟨fun z => absurd z b10, b11⟩, hA, fun pc v lo ca fa nf η3 H locs ls es3 V h1 h2 => hR pc v lo ca fa nf η3 H locs ls es3 V h1 h2⟩
  unfold zgo1 at h
  split at h
  · rename_i i e1
    exact zsi_ok (zex_ok HS n) CC (pc := pc) (lo := lo) (sk := sk) (ca := ca) (fa := fa) (nf := 100) (n := i.2) (η := η) (H := H) (locs := locs) (ls := ls) (es := es) ⟨hP, hD, hS, hl, hs, Nat.le_refl _, fun _ _ => rfl, hC, zfrm.refl _ _⟩ HS (i := i.1) (b8 (pc, i) (xfi_ok e1)) h
  · cases h
set_option maxHeartbeats 1000000 in
theorem zent {T : zTb} {D : va_G} {l : Launch} {ρ : Nat → Nat} {γ : Nat → ClassId} {i : Nat} {r : xR} (hr : (gt xmt i).bind xrow = some r) {rm : Nat × Nat} {es : va_W} {vs : List Value} {sz : Nat} {Qc : Array Value → State → Outcome → State → Prop} (hcat : (lg_sl vs).length ≤ r.2.2.1)
    (body : ∀ (p : Program) (e : Env) (s : State) (m : MethodId) (below : List Frame) (meth : Method) (c : Code) (ls : Array Slot), s.heap.size = sz → zBs T D l γ (zhR r rm) p s m vs.toArray c (va_A es sz) → va_P D vwCl es s.heap → va_D (va_A es sz) es → lv_has ls r.2.2.1 (lv_args 0 vs) →
      (∀ (pcs : List Nat) (pc : Nat) (v2 : Option zV) (η2 : zE) (H : Heap) (locs : List Loc) (ls2 : Array Slot), zrd η2 (zhR r rm, pcs) pc v2 → va_S (va_A es sz) s.heap H locs → (∀ t : State, t.heap = H → va_K D vwCl [] t → va_F (va_A es sz) s t → Qc vs.toArray s (.returned (v2.map (zv ρ η2))) t) → W p l e (zrmS rm) s m vs.toArray below meth c H locs 0 0 (MQ below Qc vs.toArray s 0 0 (va_A es sz)) (F0 m pc ls2 (v2.toList.map (zv ρ η2)))) →
      W p l e (zrmS rm) s m vs.toArray below meth c s.heap [] 0 0 (MQ below Qc vs.toArray s 0 0 (va_A es sz)) (F0 m 0 ls [])) :
    Met l r.1 (Jvm.Cond.code r.1 r.2.1 r.2.2.1 r.2.2.2.1 :: xGd) (zrmS rm) (zPs T D γ es vs sz) Qc 0 0 (va_A es sz) := by
  obtain ⟨g1, g2, g3, g4, g5, g6, g7⟩ := xrow_ok hr
  refine Met.ofW (cc := r.2.1) (maxL := r.2.2.1) (ret := r.2.2.2.1) g5 rfl ?_
  intro p e s m args below meth c s₁ B hml hv
  obtain ⟨rfl, hsz, hP, hK, hD0, hT, hSt⟩ := hv
  subst hsz
  have hts := atoms_spec (ws := Jvm.Cond.code r.1 r.2.1 r.2.2.1 r.2.2.2.1 :: xGd) B.pre
  have hown : s.vm.findClass r.1.cls = some m.cls := findClass_of_methodNamed B.named
  have hl := lv_entry vs (n := r.2.2.1) hcat
  rw [lg_entry_eq]
  generalize (lg_sl vs ++ List.replicate (r.2.2.1 - (lg_sl vs).length) Slot.unset).toArray = ls at hl ⊢
  refine body p e s m below meth c ls rfl ⟨B.exec, B.bytes, hml, (by show s.vm.findClass (xnm r.2.2.2.2.1) = some m.cls; rw [← g3]; exact hown), fun x hx => hts x (List.mem_cons_of_mem _ hx), hK, fun q h => Or.inr h, g7, hT, (show ¬ r.2.2.2.2.1 = 12 from own12 hr), hSt⟩ hP hD0.self hl ?_
  intro pcs pc v2 η2 H locs ls2 hx hS hq
  have hq2 : ∀ t : State, t.heap = H → s.WarmedH t.vm → Qc vs.toArray s (.returned (v2.map (zv ρ η2))) t := fun t ht hW => hq t ht (va_K.moved hW.alike hK) (hS.F ht)
  rcases v2 with _ | (a | (b | z))
  · exact W.vret B.exec B.bytes (B.returns.trans hx.2) hq2 hS.2.2 hx.1
  · obtain ⟨hd, ty, ht, hn⟩ := hx
    exact W.zret B.exec B.bytes (B.returns.trans ht) hn hq2 hS.2.2 hd
  · exact hx.elim
  · exact W.lret B.exec B.bytes (B.returns.trans hx.2) hq2 hS.2.2 hx.1
-- what a hook asks of a state
def hI (o : Option zV) (v : zI) : Bool := match o with
  | some (.inl x) => zeB x v
  | _ => false
def hRf (o : Option zV) (i : Nat) : Bool := match o with
  | some (.inr (.inl (some c))) => Nat.beq c i
  | _ => false
def hSm (o o2 : Option zV) : Bool := match o, o2 with
  | some (.inl x), some (.inl y) => zeB x y
  | _, _ => false
def hIn (fa : zFa) (o : Option zV) (a b : Int) : Bool := match o with
  | some (.inl x) => z32 fa x && zrk fa x fun lo hi => decide (a ≤ lo) && decide (hi ≤ b)
  | _ => false
theorem hI_ok {o : Option zV} {v : zI} (h : hI o v = true) : ∃ x, o = some (.inl x) ∧ ∀ η, zd η x = zd η v := by
  unfold hI at h
  split at h
  · rename_i x
    exact ⟨x, rfl, fun η => zeB_ok h⟩
  · cases h
theorem hRf_ok {o : Option zV} {i : Nat} (h : hRf o i = true) : o = some (.inr (.inl (some i))) := by
  unfold hRf at h
  split at h
  · rw [Nat.eq_of_beq_eq_true h]
  · cases h
theorem hSm_ok {o o2 : Option zV} (h : hSm o o2 = true) : ∃ x y, o = some (.inl x) ∧ o2 = some (.inl y) ∧ ∀ η, zd η x = zd η y := by
  unfold hSm at h
  split at h
  · rename_i x y
    exact ⟨x, y, rfl, rfl, fun η => zeB_ok h⟩
  · cases h
theorem hIn_ok {η : zE} {fa : zFa} (hs : zsat η fa) {o : Option zV} {a b : Int} (h : hIn fa o a b = true) : ∃ x, o = some (.inl x) ∧ a ≤ zd η x ∧ zd η x ≤ b ∧ (zi η x).toInt = zd η x := by
  unfold hIn at h
  split at h
  · rename_i x
    rw [Bool.and_eq_true, zrk_eq, Bool.and_eq_true, decide_eq_true_eq, decide_eq_true_eq] at h
    have := zrg_ok hs x
    exact ⟨x, rfl, by omega, by omega, z32_ok hs h.1⟩
  · cases h
theorem lvh {ρ : Nat → Nat} {η3 η : zE} {ls : Array Slot} {n : Nat} {lo tm : zL} (h : lv_has ls n (zdL ρ η3 lo)) (ht : ∀ q ∈ tm, ∃ w, zll lo q.1 = some w ∧ zv ρ η3 w = zv ρ η q.2) : lv_has ls n (zdL ρ η tm) := by
  refine ⟨h.1, h.2.1, fun q hq => ?_⟩
  unfold zdL at hq
  obtain ⟨q0, h0, rfl⟩ := List.mem_map.mp hq
  obtain ⟨w, w1, w2⟩ := ht q0 h0
  rw [← w2]
  exact h.2.2 _ (zll_ok (ρ := ρ) (η := η3) w1)
theorem zv_int {ρ : Nat → Nat} {η η2 : zE} {x y : zI} (h : zd η x = zd η2 y) : zv ρ η (.inl x) = zv ρ η2 (.inl y) := by
  show Value.int (Int32.ofInt (zd η x)) = Value.int (Int32.ofInt (zd η2 y))
  rw [h]
/-- arrays and fields that a run doesn't write -/
theorem zar_kept {wr : List Nat} {es es2 : va_W} (hf : zfrm wr es es2) {i : Nat} (hw : xmN wr (64 * i) = false) : zar es2 i = zar es i := by
  have h5 := hf.1 i 0 (by decide) (by rw [Nat.add_zero]; exact hw)
  unfold zct at h5
  unfold zar
  cases e1 : es[i]? with
  | none =>
    rw [e1] at h5
    cases e2 : es2[i]? with
    | none => rfl
    | some q =>
      rw [e2] at h5
      obtain ⟨a, x | x⟩ := q <;> cases h5
  | some q =>
    rw [e1] at h5
    obtain ⟨a, x | x⟩ := q
    · cases e2 : es2[i]? with
      | none => rw [e2] at h5; cases h5
      | some q2 =>
        rw [e2] at h5
        obtain ⟨a2, x2 | x2⟩ := q2
        · have h6 : x2 = x := Sum.inr.inj (Option.some.inj h5)
          rw [h6]
          obtain ⟨cc, nn, f | f⟩ := x <;> rfl
        · cases h5
    · cases e2 : es2[i]? with
      | none => rfl
      | some q2 =>
        rw [e2] at h5
        obtain ⟨a2, x2 | x2⟩ := q2
        · cases h5
        · rfl
theorem zav_zar {es : va_W} {i j : Nat} {x : Int32} (h : zav es i j = some (.int x)) : zar es i j = x := by
  unfold zav at h
  unfold zar
  split at h
  · rename_i f e
    rw [e]
    exact Value.int.inj (Option.some.inj h)
  · cases h
theorem zfl1_cat {sm : zSm} (h1 : zcatB sm = true) : ∀ r : xR, (gt xmt sm.1).bind xrow = some r → (sm.2.2.1.map (fun p => match p with | .inr (.inr _) => 2 | _ => 1)).sum ≤ r.2.2.1 := by
  intro r hr
  unfold zcatB at h1
  rw [hr] at h1
  exact Nat.le_of_ble_eq_true h1
def hNe (fa : zFa) (o : Option zV) (z : Int) : Bool := match o with
  | some (.inl (.inr (k, m, c))) => decide (m = 1) && xmZ (zr fa k).2.2 (z - c)
  | _ => false
theorem hNe_ok {η : zE} {fa : zFa} (hs : zsat η fa) {o : Option zV} {z : Int} (h : hNe fa o z = true) : ∃ x, o = some (.inl x) ∧ zd η x ≠ z := by
  unfold hNe at h
  split at h
  · rename_i k m c
    rw [Bool.and_eq_true, decide_eq_true_eq] at h
    refine ⟨_, rfl, fun e => ?_⟩
    have e : m * η k + c = z := e
    rw [h.1, Int.one_mul] at e
    exact (zr_ok hs k).2.2 (z - c) (xmZ_ok _ _ h.2) (by omega)
  · cases h
theorem hp_pM {wr : List Nat} (hw : xmN wr 4677 = false) : ∀ es es2 : va_W, zfrm wr es es2 → pN es → pN es2 := fun _ _ h => h.2 hw
theorem zSw {D : va_G} {l : Launch} {Ψ : va_W → Prop} {sm : zSm} (h : zSO zD0 D l pT sm) : zSO zD0 D l Ψ sm := fun es _ => h es trivial
