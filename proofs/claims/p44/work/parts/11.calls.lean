theorem va_callg {p : Program} {l : Launch} {e : Env} {R : Room} {s : State} {m : MethodId} {args : Array Value} {below : List Frame} {meth : Method} {c : Code} {H : Heap} {locs : List Loc} {cells slots : Nat} {Q : State → Prop} {pc : Nat} {ls : Array Slot} {rest st0 : List Value} {A0 A1 : Nat → Prop} {H0 : Heap} {mc ms : Nat} {free : Addr → Prop} {Qa : State → Outcome → State → Prop} (hr : va_Run p l e R s m args below meth c H locs cells slots mc ms (F0 m pc ls st0) rest Qa free) (hS : va_S A0 H0 H locs) (hA : ∀ q, q < H.size → A1 q → A0 q) (hf : ∀ q, free q → A0 q) (hF : ∀ st oc t, Qa st oc t → va_F A1 st t)
    (kk : ∀ (v : Option Value) (st t : State) (H1 : Heap) (locs1 : List Loc), t.heap = H1 → s.vm.Alike t.vm → Qa st (.returned v) t → va_S A0 H0 H1 locs1 → W p l e R s m args below meth c H1 locs1 (cells + mc) (slots + ms) Q (F0 m (pc + 3) ls (v.toList ++ rest))) : W p l e R s m args below meth c H locs cells slots Q (F0 m pc ls st0) := by
  intro T hT X
  obtain ⟨v, st₀, t, T', L, h0, X', hL, e1, e2, hq, st⟩ := hr T hT X
  obtain ⟨hz, hk⟩ := hF _ _ _ hq
  rw [h0] at hz hk
  obtain ⟨t2, a1, b1⟩ := kk v st₀ t T'.heap (locs ++ L) e1.symm (by rw [← e2]; exact X'.warmed.alike) hq
    ⟨Nat.le_trans hS.1 (by rw [e1]; exact hz), fun q h1 h2 => by rw [e1, hk q (Nat.lt_of_lt_of_le h1 hS.1) (fun z => h2 (hA q (Nat.lt_of_lt_of_le h1 hS.1) z))]; exact hS.2.1 q h1 h2, fun q hq => by
      rcases List.mem_append.mp hq with h | h
      · exact hS.2.2 q h
      · exact hf _ (hL q h)⟩ T' rfl X'
  exact ⟨t2, st t2 a1, b1⟩
abbrev hTp (s : State) (γ : Nat → ClassId) (w : List xC) : Prop := ∀ (i : Nat) (ty : FieldType) (k : Nat) (us : List (Nat × xI) ⊕ List (Nat × Int)), w[i]? = some (.inl (ty, k, us)) → ArrOfT s (γ i) ty ∧ va_RA s (γ i) ty
theorem hTp.moved {s t : State} {γ : Nat → ClassId} {w : List xC} (hvm : s.vm.Alike t.vm) (h : hTp s γ w) : hTp t γ w := fun i ty k us hi => ⟨arrOfT_moved hvm (h i ty k us hi).1, (h i ty k us hi).2.moved hvm⟩
abbrev hNp (s : State) : Prop := ∀ q ∈ xne, va_Nw (.methodLinkNest q.1 q.2.1 q.2.2.1 q.2.2.2.1) s
def xPc (σ : Nat → Int32) (D : va_G) (ρ : Nat → Nat) (γ : Nat → ClassId) (w : List xC) (vs : List xV) (sz : Nat) : Array Value → State → Prop := va_Pc (vs.map (dV ρ σ)) (fun U => U.heap.size = sz ∧ va_P D vwCl (cw ρ γ σ w) U.heap ∧ va_K D vwCl [] U ∧ va_D (fun _ => True) (cw ρ γ σ w) ∧ hTp U γ w ∧ hNp U)
def xQc (σ : Nat → Int32) (D : va_G) (ρ : Nat → Nat) (γ : Nat → ClassId) (w : List xC) (sz : Nat) (K : xK) : Array Value → State → Outcome → State → Prop := fun _ st oc t => (∃ (fa2 : xFa) (v2 : Option xV) (w2 : List xC) (ρ2 : Nat → Nat) (γ2 : Nat → ClassId), oc = .returned (v2.map (dV ρ2 σ)) ∧ K fa2 v2 w2 = true ∧ sat σ fa2 ∧ w.length ≤ w2.length ∧ ag w.length ρ ρ2 ∧ va_P D vwCl (cw ρ2 γ2 σ w2) t.heap ∧ va_K D vwCl [] t ∧ va_D (va_A (cw ρ γ σ w) sz) (cw ρ2 γ2 σ w2) ∧ hTp t γ2 w2) ∧ va_F (va_A (cw ρ γ σ w) sz) st t
theorem own_all : xmt.all (fun q => !(Nat.beq q.2.2.1 12)) = true := by decide +kernel
theorem own12 {i : Nat} {r : xR} (h : (gt xmt i).bind xrow = some r) : ¬ r.2.2.2.2.1 = 12 := by
  cases e : gt xmt i with
  | none => rw [e] at h; cases h
  | some q =>
    rw [e] at h
    have h : xrow q = some r := h
    rw [gt_eq] at e
    have h1 := List.all_eq_true.mp own_all q (List.mem_of_getElem? e)
    unfold xrow at h
    split at h
    · cases h
      intro z
      have z : q.2.2.1 = 12 := z
      rw [z] at h1
      cases h1
    · cases h
theorem nm_all : (List.range 12).all (fun ci => match vwCl[ci]? with
  | some c => decide (c.1 = xnm ci)
  | none => false) = true := by decide +kernel
theorem nm_ok {ci : Nat} {c : vw_C} (h : vwCl[ci]? = some c) : c.1 = xnm ci := by
  have h1 := List.all_eq_true.mp nm_all ci (List.mem_range.mpr (ci12 h))
  rw [h] at h1
  exact of_decide_eq_true h1
theorem xcat12 (v : xV) : xcat v = 1 ∨ xcat v = 2 := by
  unfold xcat
  cases xlg v
  · exact Or.inl rfl
  · exact Or.inr rfl
theorem sl_len (ρ : Nat → Nat) (σ : Nat → Int32) : ∀ vs : List xV, (lg_sl (vs.map (dV ρ σ))).length = xcats vs := by
  intro vs
  induction vs with
  | nil => rfl
  | cons v t ih =>
    show (lg_sl (dV ρ σ v :: t.map (dV ρ σ))).length = xcat v + xcats t
    unfold lg_sl at ih ⊢
    rw [List.flatMap_cons, List.length_append, ih, dV_cat]
    rcases xcat12 v with h | h <;> rw [h] <;> rfl
theorem args_eq (ρ : Nat → Nat) (σ : Nat → Int32) : ∀ (vs : List xV) (k : Nat), lv_args k (vs.map (dV ρ σ)) = dL ρ σ (xargs k vs) := by
  intro vs
  induction vs with
  | nil => intro k; rfl
  | cons v t ih =>
    intro k
    show (k, dV ρ σ v) :: lv_args (if (dV ρ σ v).category = 2 then k + 2 else k + 1) (t.map (dV ρ σ)) = (k, dV ρ σ v) :: dL ρ σ (xargs (k + xcat v) t)
    rw [dV_cat, ← ih (k + xcat v)]
    rcases xcat12 v with h | h <;> rw [h] <;> rfl
set_option maxHeartbeats 1000000 in
theorem xmet {L : Nat} {chk : xCk} {σ : Nat → Int32} {D : va_G} {l : Launch} {ih : xS} (IH : Gd L chk σ D l ih) {i : Nat} {r : xR} (hr : (gt xmt i).bind xrow = some r) {vs : List xV} {w : List xC} {ρ : Nat → Nat} {γ : Nat → ClassId} {fa : xFa} {K : xK} {sz : Nat} (hs : sat σ fa) (hcat : xcats vs ≤ r.2.2.1) (h : ih r 0 (xargs 0 vs) [] w 0 0 fa K = true) : Met l r.1 (Jvm.Cond.code r.1 r.2.1 r.2.2.1 r.2.2.2.1 :: xGd) (xrm r) (xPc σ D ρ γ w vs sz) (xQc σ D ρ γ w sz K) (xrm r).cells (xrm r).slots (va_A (cw ρ γ σ w) sz) := by
  obtain ⟨g1, g2, g3, g4, g5, g6, g7⟩ := xrow_ok hr
  refine Met.ofW (cc := r.2.1) (maxL := r.2.2.1) (ret := r.2.2.2.1) g5 rfl ?_
  intro p e s m args below meth c s₁ B hml hv
  obtain ⟨rfl, hsz, hP, hK, hD0, hT, hN⟩ := hv
  subst hsz
  have hts := atoms_spec (ws := Jvm.Cond.code r.1 r.2.1 r.2.2.1 r.2.2.2.1 :: xGd) B.pre
  have hlocks := B.notSynchronized
  have hown : s.vm.findClass r.1.cls = some m.cls := findClass_of_methodNamed B.named
  have hl := lv_entry (vs.map (dV ρ σ)) (n := r.2.2.1) (by rw [sl_len]; exact hcat)
  rw [lg_entry_eq]
  generalize (lg_sl (vs.map (dV ρ σ)) ++ List.replicate (r.2.2.1 - (lg_sl (vs.map (dV ρ σ))).length) Slot.unset).toArray = ls at hl ⊢
  rw [args_eq] at hl
  have C : Cx L chk σ D l r p e s m (vs.map (dV ρ σ)).toArray below meth c (va_A (cw ρ γ σ w) s.heap.size) (MQ below (xQc σ D ρ γ w s.heap.size K) (vs.map (dV ρ σ)).toArray s (xrm r).cells (xrm r).slots (va_A (cw ρ γ σ w) s.heap.size)) K w.length ρ := by
    refine ⟨B.exec, B.bytes, hml, by rw [← g3]; exact hown, fun x hx => hts x (List.mem_cons_of_mem _ hx), hK, fun q h => Or.inr h, fun hn => (name_of_methodNamed B.named B.method).1.trans hn, hN, g7, fun h12 => absurd h12 (own12 hr), fun h12 => absurd h12 (own12 hr), ?_⟩
    intro pc fa2 v2 lo2 w2 H locs ρ2 γ2 ls2 V2 hk hx
    have hq : ∀ t : State, t.heap = H → s.WarmedH t.vm → xQc σ D ρ γ w s.heap.size K (vs.map (dV ρ σ)).toArray s (.returned (v2.map (dV ρ2 σ))) t := fun t ht hW => ⟨⟨fa2, v2, w2, ρ2, γ2, rfl, hk, V2.2.2.2.2.2.2, V2.1.1, V2.1.2, by rw [ht]; exact V2.2.2.1, va_K.moved hW.alike hK, V2.2.2.2.1, hTp.moved hW.alike V2.2.1⟩, V2.2.2.2.2.1.F ht⟩
    rcases v2 with _ | (a | (b | z))
    · exact W.vret B.exec B.bytes (B.returns.trans hx.2) hq V2.2.2.2.2.1.2.2 hx.1
    · obtain ⟨hd, ty, ht, hn⟩ := hx
      exact W.zret B.exec B.bytes (B.returns.trans ht) hn hq V2.2.2.2.2.1.2.2 hd
    · exact hx.elim
    · exact W.lret B.exec B.bytes (B.returns.trans hx.2) hq V2.2.2.2.2.1.2.2 hx.1
  exact IH r p e s m _ below meth c _ _ K w.length ρ C 0 (xargs 0 vs) [] w 0 0 fa h s.heap [] ρ γ ls ⟨⟨Nat.le_refl _, fun _ _ => rfl⟩, hT, hP, hD0.self, va_S.rf, hl, hs⟩
theorem goodG {r : xR} (h : Jvm.Cond.code r.1 r.2.1 r.2.2.1 r.2.2.2.1 ∈ xGd) : GoodIn xGd (Jvm.Cond.code r.1 r.2.1 r.2.2.1 r.2.2.2.1 :: xGd) := by
  intro w hw
  have h1 : w ∈ xGd := by
    rcases List.mem_cons.mp hw with e | e
    · rw [e]; exact h
    · exact e
  exact ⟨h1, good_of_word (List.mem_filter.mp h1).2⟩
theorem xtk_ok : ∀ (n : Nat) (sk acc : List xV) (k : List xV → List xV → Bool), xtk n sk acc k = true → ∃ vs rest, sk = vs.reverse ++ rest ∧ vs.length = n ∧ k (vs ++ acc) rest = true := by
  intro n
  induction n with
  | zero => intro sk acc k h; exact ⟨[], sk, rfl, rfl, h⟩
  | succ n ih =>
    intro sk acc k h
    cases sk with
    | nil => cases h
    | cons v l =>
      obtain ⟨vs, rest, a1, a2, a3⟩ := ih l (v :: acc) k h
      refine ⟨vs ++ [v], rest, ?_, by rw [List.length_append, a2]; rfl, by rw [List.append_assoc]; exact a3⟩
      rw [List.reverse_append, a1]
      rfl
set_option maxHeartbeats 1000000 in
theorem ok_call {L : Nat} {chk : xCk} {σ : Nat → Int32} {D : va_G} {l : Launch} {ih : xS} {r : xR} {p : Program} {e : Env} {s : State} {m : MethodId} {args : Array Value} {below : List Frame} {meth : Method} {c : Code} {A : Nat → Prop} {Q : State → Prop} {K : xK} {n0 : Nat} {ρ0 : Nat → Nat} {pc : Nat} {lo : xL} {w : List xC} {cs ss : Nat} {fa : xFa} {n : Nat} {H : Heap} {locs : List Loc} {ρ : Nat → Nat} {γ : Nat → ClassId} {ls : Array Slot} (IH : Gd L chk σ D l ih) (C : Cx L chk σ D l r p e s m args below meth c A Q K n0 ρ0) (V : Iv σ D s A r n0 ρ0 H locs ρ γ ls lo w fa) {i : Nat} {r2 : xR} {vs rest : List xV} {st0 : List Value} (hr : (gt xmt i).bind xrow = some r2) (hrun : ∀ {Pc : Array Value → State → Prop} {Qc : Array Value → State → Outcome → State → Prop} {free : Addr → Prop}, n = 3 → xcats rest ≤ 8 → (xrm r2).frames + 1 ≤ (xrm r).frames ∧ 8 + (r2.2.2.1 + 11) + (xrm r2).locals ≤ (xrm r).locals → cs + (xrm r2).cells ≤ (xrm r).cells ∧ ss + (xrm r2).slots ≤ (xrm r).slots → Met l r2.1 (Jvm.Cond.code r2.1 r2.2.1 r2.2.2.1 r2.2.2.2.1 :: xGd) (xrm r2) Pc Qc (xrm r2).cells (xrm r2).slots free → PreS s H Pc (vs.map (dV ρ σ)) → va_Run p l e (xrm r) s m args below meth c H locs cs ss (xrm r2).cells (xrm r2).slots (F0 m pc ls st0) (rest.map (dV ρ σ)) (Qc (vs.map (dV ρ σ)).toArray) free) (h : xcall ih r pc lo w cs ss fa K n r2 vs rest = true) : W p l e (xrm r) s m args below meth c H locs cs ss Q (F0 m (pc) ls (st0)) := by
  unfold xcall at h
  rw [Bool.and_eq_true, Bool.and_eq_true, Bool.and_eq_true, Bool.and_eq_true, Bool.and_eq_true, Bool.and_eq_true, Bool.and_eq_true, Bool.and_eq_true, Bool.and_eq_true] at h
  obtain ⟨h1, h2, h3, h4, h5, h6, h7, h8, h9, h10⟩ := h
  have hM := xmet (ρ := ρ) (γ := γ) (sz := H.size) IH hr V.2.2.2.2.2.2 (Nat.le_of_ble_eq_true h3) h10
  have hFc : ∀ q, va_A (cw ρ γ σ w) H.size q → A q := by
    intro q hq
    rcases hq with ⟨k, e9, hk⟩ | hq
    · exact V.2.2.2.1.2 k (q, e9) hk
    · exact C.2.2.2.2.2.2.1 q (Nat.le_trans V.2.2.2.2.1.1 hq)
  have hp : PreS s H (xPc σ D ρ γ w vs H.size) (vs.map (dV ρ σ)) := ⟨fun a U g mk q => ⟨q.1, q.2.1, q.2.2.1, va_K.moved (u := U) (U := U.calling g mk a) (Vm.Alike.refl U.vm) q.2.2.2.1, q.2.2.2.2.1, hTp.moved (s := U) (t := U.calling g mk a) (Vm.Alike.refl U.vm) q.2.2.2.2.2.1, fun z hz => va_Nw.same rfl rfl (q.2.2.2.2.2.2 z hz)⟩, fun U hU hW => ⟨rfl, by rw [hU], by rw [hU]; exact V.2.2.1, va_K.moved hW.alike C.2.2.2.2.2.1, V.2.2.2.1.weaken (fun _ _ _ _ => trivial), hTp.moved hW.alike V.2.1, fun z hz => va_Nw.warmM hW (C.2.2.2.2.2.2.2.2.1 z hz)⟩⟩
  refine va_callg (A0 := A) (A1 := va_A (cw ρ γ σ w) H.size) (hrun (Nat.eq_of_beq_eq_true h1) (Nat.le_of_ble_eq_true h2) ⟨Nat.le_of_ble_eq_true h4, Nat.le_of_ble_eq_true h5⟩ ⟨Nat.le_of_ble_eq_true h6, Nat.le_of_ble_eq_true h7⟩ hM hp) V.2.2.2.2.1 (fun q _ h => hFc q h) hFc (fun _ _ _ z => z.2) (fun v st t H1 locs1 ht hvm hq hS1 => ?_)
  obtain ⟨⟨fa2, v2, w2, ρ2, γ2, ev, hk, hs2, hl2, hag, hP2, hK2, hD2, hT2⟩, -⟩ := hq
  cases ev
  rw [ht] at hP2
  simp only [fN_eq] at hk
  have V2 : Iv σ D s A r n0 ρ0 H1 locs1 ρ2 γ2 ls lo w2 fa2 := ⟨⟨Nat.le_trans V.1.1 hl2, fun i hi => by rw [hag i (hi.imp (fun z => Nat.lt_of_lt_of_le z V.1.1) id)]; exact V.1.2 i hi⟩, hTp.moved hvm.symm hT2, hP2, hD2.weaken (fun _ _ _ z => hFc _ z), hS1, by rw [dL_ag hag σ h9]; exact V.2.2.2.2.2.1, hs2⟩
  cases v2 with
  | none =>
    have k := IH _ _ _ _ _ _ _ _ _ _ _ _ _ _ C _ _ _ _ _ _ _ hk H1 locs1 ρ2 γ2 ls V2
    rw [mp_ag hag σ h8] at k
    exact k
  | some v =>
    have k := IH _ _ _ _ _ _ _ _ _ _ _ _ _ _ C _ _ _ _ _ _ _ hk H1 locs1 ρ2 γ2 ls V2
    rw [List.map_cons, mp_ag hag σ h8] at k
    exact k
theorem xlk_0 {o x mi g1 g2 g3 : Nat} {r2 : xR} (h : xlk1 o (x, 0, mi, g1, g2, g3) = true) (e : (gt xmt mi).bind xrow = some r2) : (decide (lw_tbl[g1]? = some (.methodLink (xnm o) x r2.1)) && (decide (lw_tbl[g2]? = some (.instanceMethod r2.1)) && decide (lw_tbl[g3]? = some (.selects r2.1.cls r2.1 r2.1)))) = true := by
  have h : (match (gt xmt mi).bind xrow with | none => false | some r2 => decide (lw_tbl[g1]? = some (.methodLink (xnm o) x r2.1)) && (decide (lw_tbl[g2]? = some (.instanceMethod r2.1)) && decide (lw_tbl[g3]? = some (.selects r2.1.cls r2.1 r2.1)))) = true := h
  rw [e] at h
  exact h
theorem xlk_1 {o x mi g1 g2 g3 : Nat} {r2 : xR} (h : xlk1 o (x, 1, mi, g1, g2, g3) = true) (e : (gt xmt mi).bind xrow = some r2) : (decide (lw_tbl[g1]? = some (.methodLink (xnm o) x r2.1)) && decide (lw_tbl[g2]? = some (.static r2.1))) = true := by
  have h : (match (gt xmt mi).bind xrow with | none => false | some r2 => decide (lw_tbl[g1]? = some (.methodLink (xnm o) x r2.1)) && decide (lw_tbl[g2]? = some (.static r2.1))) = true := h
  rw [e] at h
  exact h
theorem xlk_2 {o x mi g1 g2 g3 : Nat} {r2 : xR} (h : xlk1 o (x, 2, mi, g1, g2, g3) = true) (e : (gt xmt mi).bind xrow = some r2) : (decide (lw_tbl[g1]? = some (.methodLink (xnm o) x r2.1)) && (decide (lw_tbl[g2]? = some (.instanceMethod r2.1)) && decide (r2.1.name = "<init>" ∧ r2.2.2.2.1 = none))) = true := by
  have h : (match (gt xmt mi).bind xrow with | none => false | some r2 => decide (lw_tbl[g1]? = some (.methodLink (xnm o) x r2.1)) && (decide (lw_tbl[g2]? = some (.instanceMethod r2.1)) && decide (r2.1.name = "<init>" ∧ r2.2.2.2.1 = none))) = true := h
  rw [e] at h
  exact h
theorem xlk_3 {o x mi g1 g2 g3 : Nat} {r2 : xR} (h : xlk1 o (x, 3, mi, g1, g2, g3) = true) (e : (gt xmt mi).bind xrow = some r2) : (decide ((xnm o, x, r2.1, "NightLights", g1) ∈ xne) && (decide (lw_tbl[g2]? = some (.instanceMethod r2.1)) && decide (r2.1.name = "<init>" ∧ r2.2.2.2.1 = none))) = true := by
  have h : (match (gt xmt mi).bind xrow with | none => false | some r2 => decide ((xnm o, x, r2.1, "NightLights", g1) ∈ xne) && (decide (lw_tbl[g2]? = some (.instanceMethod r2.1)) && decide (r2.1.name = "<init>" ∧ r2.2.2.2.1 = none))) = true := h
  rw [e] at h
  exact h

set_option maxHeartbeats 1000000 in
theorem ok_invokevirtual {L : Nat} {chk : xCk} {σ : Nat → Int32} {D : va_G} {l : Launch} {ih : xS} {r : xR} {p : Program} {e : Env} {s : State} {m : MethodId} {args : Array Value} {below : List Frame} {meth : Method} {c : Code} {A : Nat → Prop} {Q : State → Prop} {K : xK} {n0 : Nat} {ρ0 : Nat → Nat} {pc : Nat} {lo : xL} {sk : List xV} {w : List xC} {cs ss : Nat} {fa : xFa} {n : Nat} {H : Heap} {locs : List Loc} {ρ : Nat → Nat} {γ : Nat → ClassId} {ls : Array Slot} (IH : Gd L chk σ D l ih) (C : Cx L chk σ D l r p e s m args below meth c A Q K n0 ρ0) (V : Iv σ D s A r n0 ρ0 H locs ρ γ ls lo w fa) {x : Nat} (hd : decode r.2.1 pc = .ok (.invokevirtual x, n)) (h : xinv ih r pc lo sk w cs ss fa K n 0 x = true) : W p l e (xrm r) s m args below meth c H locs cs ss Q (F0 m (pc) ls ((sk.map (dV ρ σ)))) := by
  unfold xinv at h
  cases e1 : xfi (xml r.2.2.2.2.1) x with
  | none => rw [e1] at h; cases h
  | some q =>
  rw [e1] at h
  dsimp only at h
  have hw := xml_ok (xfi_ok e1)
  obtain ⟨kd, mi, g1, g2, g3⟩ := q
  dsimp only at h
  match kd, h, hw, e1 with
  | 0, h, hw, e1 =>
    cases e2 : (gt xmt mi).bind xrow with
    | none => rw [e2] at h; cases h
    | some r2 =>
    rw [e2] at h
    dsimp only at h
    obtain ⟨vs, rest, a1, a2, a3⟩ := xtk_ok _ _ _ _ h
    rw [List.append_nil] at a3
    obtain ⟨b1, b2, b3, b4, b5, b6, b7⟩ := xrow_ok e2
    have hw := xlk_0 hw e2
    rw [Bool.and_eq_true, Bool.and_eq_true] at hw
    try dsimp only at a3
    split at a3
    rotate_left
    · cases a3
    rename_i i0 rest0
    split at a3
    rotate_left
    · cases a3
    rename_i ci fs e4
    rw [Bool.and_eq_true] at a3
    have e5 := Nat.eq_of_beq_eq_true a3.1
    subst e5
    subst a1
    refine ok_call IH C V e2 (fun hn hc8 hR hcs hM hp => ?_) a3.2
    subst hn
    obtain ⟨c9, c91, c92⟩ := V.2.2.1 i0 _ (cw_gt e4)
    refine va_runV (C := r2.1.cls) (As := vs.map (dV ρ σ)) (rest := rest0.map (dV ρ σ)) ⟨C.1, C.2.1, C.2.2.1, C.2.2.2.1, C.2.2.2.2.1⟩ hM ⟨callB_of _ C.2.2.2.2.1 (goodG b1) rfl rfl rfl (C.2.2.2.2.1 _ b2) (C.2.2.2.2.1 _ (inG _ (of_decide_eq_true hw.1) rfl)) ⟨b6.1, b6.2, b4⟩ hR, C.2.2.2.2.1 _ (inG _ (of_decide_eq_true hw.2.1) rfl), C.2.2.2.2.1 _ (inG _ (of_decide_eq_true hw.2.2) rfl)⟩ ⟨hp.1, ?_, hp.2⟩ rfl (by rw [List.length_map]; exact a2) V.2.2.2.2.2.1.1 (by show (vs.reverse ++ Sum.inr (Sum.inl (some i0)) :: rest0).map (dV ρ σ) = _; rw [List.map_append, List.map_reverse]; rfl) (lv_room (by rw [cats_eq]; exact hc8)) hd hcs
    obtain ⟨cell, d1, d2, d3⟩ := va_recv C.2.2.2.2.2.1 V.2.2.1 c91 (cw_gt e4)
    exact ⟨cell, d1, d2, by rw [b3, ← nm_ok c91]; exact d3⟩
  | 1, h, hw, e1 =>
    exact absurd h Bool.false_ne_true
  | 2, h, hw, e1 =>
    exact absurd h Bool.false_ne_true
  | 3, h, hw, e1 =>
    exact absurd h Bool.false_ne_true
  | 4, h, hw, e1 =>
    exact absurd h Bool.false_ne_true
  | 5, h, hw, e1 =>
    exact absurd h Bool.false_ne_true
  | 6, h, hw, e1 =>
    exact absurd h Bool.false_ne_true
  | 7, h, hw, e1 =>
    exact absurd h Bool.false_ne_true
  | k + 8, h, hw, e1 => exact absurd h Bool.false_ne_true

set_option maxHeartbeats 1000000 in
theorem ok_invokestatic {L : Nat} {chk : xCk} {σ : Nat → Int32} {D : va_G} {l : Launch} {ih : xS} {r : xR} {p : Program} {e : Env} {s : State} {m : MethodId} {args : Array Value} {below : List Frame} {meth : Method} {c : Code} {A : Nat → Prop} {Q : State → Prop} {K : xK} {n0 : Nat} {ρ0 : Nat → Nat} {pc : Nat} {lo : xL} {sk : List xV} {w : List xC} {cs ss : Nat} {fa : xFa} {n : Nat} {H : Heap} {locs : List Loc} {ρ : Nat → Nat} {γ : Nat → ClassId} {ls : Array Slot} (IH : Gd L chk σ D l ih) (C : Cx L chk σ D l r p e s m args below meth c A Q K n0 ρ0) (V : Iv σ D s A r n0 ρ0 H locs ρ γ ls lo w fa) {x : Nat} (hd : decode r.2.1 pc = .ok (.invokestatic x, n)) (h : xinv ih r pc lo sk w cs ss fa K n 1 x = true) : W p l e (xrm r) s m args below meth c H locs cs ss Q (F0 m (pc) ls ((sk.map (dV ρ σ)))) := by
  unfold xinv at h
  cases e1 : xfi (xml r.2.2.2.2.1) x with
  | none => rw [e1] at h; cases h
  | some q =>
  rw [e1] at h
  dsimp only at h
  have hw := xml_ok (xfi_ok e1)
  obtain ⟨kd, mi, g1, g2, g3⟩ := q
  dsimp only at h
  match kd, h, hw, e1 with
  | 0, h, hw, e1 =>
    exact absurd h Bool.false_ne_true
  | 1, h, hw, e1 =>
    cases e2 : (gt xmt mi).bind xrow with
    | none => rw [e2] at h; cases h
    | some r2 =>
    rw [e2] at h
    dsimp only at h
    obtain ⟨vs, rest, a1, a2, a3⟩ := xtk_ok _ _ _ _ h
    rw [List.append_nil] at a3
    obtain ⟨b1, b2, b3, b4, b5, b6, b7⟩ := xrow_ok e2
    have hw := xlk_1 hw e2
    rw [Bool.and_eq_true] at hw
    subst a1
    refine ok_call IH C V e2 (fun hn hc8 hR hcs hM hp => ?_) a3
    subst hn
    exact va_runS (As := vs.map (dV ρ σ)) (rest := rest.map (dV ρ σ)) ⟨C.1, C.2.1, C.2.2.1, C.2.2.2.1, C.2.2.2.2.1⟩ hM ⟨callB_of _ C.2.2.2.2.1 (goodG b1) rfl rfl rfl (C.2.2.2.2.1 _ b2) (C.2.2.2.2.1 _ (inG _ (of_decide_eq_true hw.1) rfl)) ⟨b6.1, b6.2, b4⟩ hR, C.2.2.2.2.1 _ (inG _ (of_decide_eq_true hw.2) rfl)⟩ hp rfl (by rw [List.length_map]; exact a2) V.2.2.2.2.2.1.1 (by show (vs.reverse ++ rest).map (dV ρ σ) = _; rw [List.map_append, List.map_reverse]) (lv_room (by rw [cats_eq]; exact hc8)) hd hcs
  | 2, h, hw, e1 =>
    exact absurd h Bool.false_ne_true
  | 3, h, hw, e1 =>
    exact absurd h Bool.false_ne_true
  | 4, h, hw, e1 =>
    exact absurd h Bool.false_ne_true
  | 5, h, hw, e1 =>
    exact ok_cpy IH C V (C.2.2.2.2.1 _ (inG _ (of_decide_eq_true hw) rfl)) hd h
  | 6, h, hw, e1 =>
    exact ok_mmax IH C V (C.2.2.2.2.1 _ (inG _ (of_decide_eq_true hw) rfl)) hd h
  | 7, h, hw, e1 =>
    exact ok_mmin IH C V (C.2.2.2.2.1 _ (inG _ (of_decide_eq_true hw) rfl)) hd h
  | k + 8, h, hw, e1 => exact absurd h Bool.false_ne_true

set_option maxHeartbeats 1000000 in
theorem ok_invokespecial {L : Nat} {chk : xCk} {σ : Nat → Int32} {D : va_G} {l : Launch} {ih : xS} {r : xR} {p : Program} {e : Env} {s : State} {m : MethodId} {args : Array Value} {below : List Frame} {meth : Method} {c : Code} {A : Nat → Prop} {Q : State → Prop} {K : xK} {n0 : Nat} {ρ0 : Nat → Nat} {pc : Nat} {lo : xL} {sk : List xV} {w : List xC} {cs ss : Nat} {fa : xFa} {n : Nat} {H : Heap} {locs : List Loc} {ρ : Nat → Nat} {γ : Nat → ClassId} {ls : Array Slot} (IH : Gd L chk σ D l ih) (C : Cx L chk σ D l r p e s m args below meth c A Q K n0 ρ0) (V : Iv σ D s A r n0 ρ0 H locs ρ γ ls lo w fa) {x : Nat} (hd : decode r.2.1 pc = .ok (.invokespecial x, n)) (h : xinv ih r pc lo sk w cs ss fa K n 2 x = true) : W p l e (xrm r) s m args below meth c H locs cs ss Q (F0 m (pc) ls ((sk.map (dV ρ σ)))) := by
  unfold xinv at h
  cases e1 : xfi (xml r.2.2.2.2.1) x with
  | none => rw [e1] at h; cases h
  | some q =>
  rw [e1] at h
  dsimp only at h
  have hw := xml_ok (xfi_ok e1)
  obtain ⟨kd, mi, g1, g2, g3⟩ := q
  dsimp only at h
  match kd, h, hw, e1 with
  | 0, h, hw, e1 =>
    exact absurd h Bool.false_ne_true
  | 1, h, hw, e1 =>
    exact absurd h Bool.false_ne_true
  | 2, h, hw, e1 =>
    cases e2 : (gt xmt mi).bind xrow with
    | none => rw [e2] at h; cases h
    | some r2 =>
    rw [e2] at h
    dsimp only at h
    obtain ⟨vs, rest, a1, a2, a3⟩ := xtk_ok _ _ _ _ h
    rw [List.append_nil] at a3
    obtain ⟨b1, b2, b3, b4, b5, b6, b7⟩ := xrow_ok e2
    have hw := xlk_2 hw e2
    rw [Bool.and_eq_true, Bool.and_eq_true] at hw
    try dsimp only at a3
    split at a3
    rotate_left
    · cases a3
    rename_i i0 rest0
    subst a1
    refine ok_call IH C V e2 (fun hn hc8 hR hcs hM hp => ?_) a3
    subst hn
    obtain ⟨f1, f2⟩ := of_decide_eq_true hw.2.2
    rw [f2] at hM
    have b1 := b1
    rw [f2] at b1
    exact va_runI (As := vs.map (dV ρ σ)) (rest := rest0.map (dV ρ σ)) ⟨C.1, C.2.1, C.2.2.1, C.2.2.2.1, C.2.2.2.2.1⟩ hM ⟨callB_of _ C.2.2.2.2.1 (fun w hw => by have h1 : w ∈ xGd := (List.mem_cons.mp hw).elim (fun e9 => by rw [e9]; exact b1) id; exact ⟨h1, good_of_word (List.mem_filter.mp h1).2⟩) rfl rfl rfl (C.2.2.2.2.1 _ b2) (C.2.2.2.2.1 _ (inG _ (of_decide_eq_true hw.1) rfl)) ⟨b6.1, b6.2, b4⟩ hR, f1, C.2.2.2.2.1 _ (inG _ (of_decide_eq_true hw.2.1) rfl)⟩ hp rfl (by rw [List.length_map]; exact a2) V.2.2.2.2.2.1.1 (by show (vs.reverse ++ Sum.inr (Sum.inl (some i0)) :: rest0).map (dV ρ σ) = _; rw [List.map_append, List.map_reverse]; rfl) (lv_room (by rw [cats_eq]; exact hc8)) hd hcs
  | 3, h, hw, e1 =>
    cases e2 : (gt xmt mi).bind xrow with
    | none => rw [e2] at h; cases h
    | some r2 =>
    rw [e2] at h
    dsimp only at h
    obtain ⟨vs, rest, a1, a2, a3⟩ := xtk_ok _ _ _ _ h
    rw [List.append_nil] at a3
    obtain ⟨b1, b2, b3, b4, b5, b6, b7⟩ := xrow_ok e2
    have hw := xlk_3 hw e2
    rw [Bool.and_eq_true, Bool.and_eq_true] at hw
    try dsimp only at a3
    split at a3
    rotate_left
    · cases a3
    rename_i i0 rest0
    subst a1
    refine ok_call IH C V e2 (fun hn hc8 hR hcs hM hp => ?_) a3
    subst hn
    obtain ⟨f1, f2⟩ := of_decide_eq_true hw.2.2
    rw [f2] at hM
    have b1 := b1
    rw [f2] at b1
    exact va_runIN (host := "NightLights") (As := vs.map (dV ρ σ)) (rest := rest0.map (dV ρ σ)) ⟨C.1, C.2.1, C.2.2.1, C.2.2.2.1, C.2.2.2.2.1⟩ hM ⟨va_cnB _ C.2.2.2.2.1 (fun w hw => by have h1 : w ∈ xGd := (List.mem_cons.mp hw).elim (fun e9 => by rw [e9]; exact b1) id; exact ⟨h1, good_of_word (List.mem_filter.mp h1).2⟩) rfl rfl rfl (C.2.2.2.2.2.2.2.2.1 _ (of_decide_eq_true hw.1)) (C.2.2.2.2.1 _ b2) ⟨b6.1, b6.2, b4⟩ hR, f1, C.2.2.2.2.1 _ (inG _ (of_decide_eq_true hw.2.1) rfl)⟩ hp rfl (by rw [List.length_map]; exact a2) V.2.2.2.2.2.1.1 (by show (vs.reverse ++ Sum.inr (Sum.inl (some i0)) :: rest0).map (dV ρ σ) = _; rw [List.map_append, List.map_reverse]; rfl) (lv_room (by rw [cats_eq]; exact hc8)) hd hcs
  | 4, h, hw, e1 =>
    exact ok_oi IH C V (C.2.2.2.2.1 _ (inG _ (of_decide_eq_true hw) rfl)) hd h
  | 5, h, hw, e1 =>
    exact absurd h Bool.false_ne_true
  | 6, h, hw, e1 =>
    exact absurd h Bool.false_ne_true
  | 7, h, hw, e1 =>
    exact absurd h Bool.false_ne_true
  | k + 8, h, hw, e1 => exact absurd h Bool.false_ne_true

set_option maxHeartbeats 2000000 in
theorem xst_ok {L : Nat} {chk : xCk} {σ : Nat → Int32} {D : va_G} {l : Launch} {ih : xS} (hσ : σ 50 = σ 0 &&& 63) (IH : Gd L chk σ D l ih) : Gd L chk σ D l (xst L chk ih) := by
  intro r p e s m args below meth c A Q K n0 ρ0 C pc lo sk w cs ss fa h H locs ρ γ ls V
  unfold xst at h
  cases e1 : xfi r.2.2.2.2.2.2.2 pc with
  | none =>
    rw [e1] at h
    dsimp only at h
    rw [Bool.and_eq_true] at h
    exact C.2.2.2.2.2.2.2.2.2.2.2.1 (Nat.eq_of_beq_eq_true h.1) pc lo sk w cs ss fa H locs ρ γ ls h.2 V
  | some q =>
    rw [e1] at h
    dsimp only at h
    have hd : decode r.2.1 pc = .ok q := C.2.2.2.2.2.2.2.2.2.1 (pc, q) (xfi_ok e1)
    obtain ⟨i, n⟩ := q
    dsimp only at h
    cases i with
    | iconst z => exact ok_iconst IH C V hd h
    | bipush z => exact ok_bipush IH C V hd h
    | sipush z => exact ok_sipush IH C V hd h
    | lconst z => exact ok_lconst IH C V hd h
    | ldc x => exact ok_ldc IH C V hd h
    | ldc_w x => exact ok_ldc_w IH C V hd h
    | ldc2_w x => exact ok_ldc2_w IH C V hd h
    | iload_n k => exact ok_iload_n IH C V hd h
    | iload k => exact ok_iload IH C V hd h
    | aload_n k => exact ok_aload_n IH C V hd h
    | aload k => exact ok_aload IH C V hd h
    | lload_n k => exact ok_lload_n IH C V hd h
    | lload k => exact ok_lload IH C V hd h
    | istore_n k => exact ok_istore_n IH C V hd h
    | istore k => exact ok_istore IH C V hd h
    | astore_n k => exact ok_astore_n IH C V hd h
    | astore k => exact ok_astore IH C V hd h
    | lstore_n k => exact ok_lstore_n IH C V hd h
    | lstore k => exact ok_lstore IH C V hd h
    | iinc i z => exact ok_iinc IH C V hσ hd h
    | iadd  => exact ok_iadd IH C V hσ hd h
    | isub  => exact ok_isub IH C V hσ hd h
    | imul  => exact ok_imul IH C V hσ hd h
    | iand  => exact ok_iand IH C V hσ hd h
    | ior  => exact ok_ior IH C V hσ hd h
    | ixor  => exact ok_ixor IH C V hσ hd h
    | ishl  => exact ok_ishl IH C V hσ hd h
    | ishr  => exact ok_ishr IH C V hσ hd h
    | iushr  => exact ok_iushr IH C V hσ hd h
    | idiv  => exact ok_idiv IH C V hd h
    | irem  => exact ok_irem IH C V hd h
    | i2b  => exact ok_i2b IH C V hd h
    | l2i  => exact ok_l2i IH C V hd h
    | ladd  => exact ok_ladd IH C V hd h
    | lsub  => exact ok_lsub IH C V hd h
    | land  => exact ok_land IH C V hd h
    | lshr  => exact ok_lshr IH C V hd h
    | lushr  => exact ok_lushr IH C V hd h
    | lcmp  => exact ok_lcmp IH C V hd h
    | dup  => exact ok_dup IH C V hd h
    | dup2  => exact ok_dup2 IH C V hd h
    | pop  => exact ok_pop IH C V hd h
    | ifCond cnd off => exact ok_if1 IH C V hd h
    | if_icmp cnd off => exact ok_if2 IH C V hd h
    | goto off => exact ok_goto IH C V hd h
    | tableswitch d lw hw offs => exact ok_tab IH C V hd h
    | new x => exact ok_new IH C V hd h
    | newarray t => exact ok_newa IH C V hd h
    | arraylength  => exact ok_len IH C V hd h
    | iaload  => exact ok_iaload IH C V hd h
    | baload  => exact ok_baload IH C V hd h
    | iastore  => exact ok_iastore IH C V hd h
    | bastore  => exact ok_bastore IH C V hd h
    | lastore  => exact ok_lastore IH C V hd h
    | getfield x => exact ok_getf IH C V hd h
    | putfield x => exact ok_putf IH C V hd h
    | invokevirtual x => exact ok_invokevirtual IH C V hd h
    | invokestatic x => exact ok_invokestatic IH C V hd h
    | invokespecial x => exact ok_invokespecial IH C V hd h
    | ireturn  => exact ok_ireturn IH C V hd h
    | lreturn  => exact ok_lreturn IH C V hd h
    | return_  => exact ok_return_ IH C V hd h
    | _ => exact absurd h Bool.false_ne_true
theorem xex_ok {L : Nat} {chk : xCk} {σ : Nat → Int32} {D : va_G} {l : Launch} (hσ : σ 50 = σ 0 &&& 63) : ∀ n : Nat, Gd L chk σ D l (xex L chk n) := by
  intro n
  induction n with
  | zero =>
    intro r p e s m args below meth c A Q K n0 ρ0 C pc lo sk w cs ss fa h
    exact absurd h Bool.false_ne_true
  | succ n ih => exact xst_ok hσ ih
