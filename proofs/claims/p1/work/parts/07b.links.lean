-- methods: their rows and their links
def xrk (q : xM) : Bool := match xrow q with
  | some r => decide (lw_tbl[q.2.1]? = some (.initialized r.1.cls)) && (decide (r.1.cls = xnm r.2.2.2.2.1) && (decide ((parseMethodDescriptor r.1.desc).map (fun d => d.parameters.length) = some r.2.2.2.2.2.2.1) && (plainName r.1.cls && decide (r.1.cls ≠ "java/lang/invoke/MethodHandle" ∧ r.1.cls ≠ "java/lang/invoke/VarHandle"))))
  | none => false
theorem xmt_all : xmt.all xrk = true := by decide +kernel
def xpg (b : ByteArray) (l : List (Nat × Instr × Nat)) : Bool := l.all (fun q => match decode b q.1 with
  | .ok z => decide (z = q.2)
  | .error _ => false)
theorem xpg_ok {b : ByteArray} {l : List (Nat × Instr × Nat)} (h : xpg b l = true) : ∀ q ∈ l, decode b q.1 = .ok q.2 := by
  intro q hq
  have h1 := List.all_eq_true.mp h q hq
  cases e : decode b q.1 with
  | error z => rw [e] at h1; cases h1
  | ok z => rw [e] at h1; rw [of_decide_eq_true h1]
def xpk (q : xM) : Bool := match xrow q with
  | some r => xpg r.2.1 r.2.2.2.2.2.2.2
  | none => false
theorem xmt_a0 : xmt_0.all xpk = true := by decide +kernel
theorem xmt_a1 : xmt_1.all xpk = true := by decide +kernel
theorem xmt_a2 : xmt_2.all xpk = true := by decide +kernel
theorem xmt_a3 : xmt_3.all xpk = true := by decide +kernel
theorem xmt_a4 : xmt_4.all xpk = true := by decide +kernel
theorem xmt_a5 : xmt_5.all xpk = true := by decide +kernel
theorem xmt_a6 : xmt_6.all xpk = true := by decide +kernel
theorem xmt_a7 : xmt_7.all xpk = true := by decide +kernel
theorem xmt_a8 : xmt_8.all xpk = true := by decide +kernel
theorem xmt_a9 : xmt_9.all xpk = true := by decide +kernel
theorem xmt_pg : xmt.all xpk = true := by
  unfold xmt
  simp only [List.all_append, xmt_a0, xmt_a1, xmt_a2, xmt_a3, xmt_a4, xmt_a5, xmt_a6, xmt_a7, xmt_a8, xmt_a9, Bool.and_self]
def xlk1 (o : Nat) (q : Nat × Nat × Nat × Nat × Nat × Nat) : Bool := match q.2.1 with
  | 4 => decide (lw_tbl[q.2.2.2.1]? = some (.methodLink (xnm o) q.1 objectInit))
  | 5 => decide (lw_tbl[q.2.2.2.1]? = some (.methodLink (xnm o) q.1 arraycopyName))
  | 6 => decide (lw_tbl[q.2.2.2.1]? = some (.methodLink (xnm o) q.1 Lib.Math.max.name))
  | 7 => decide (lw_tbl[q.2.2.2.1]? = some (.methodLink (xnm o) q.1 Lib.Math.min.name))
  | k => match (gt xmt q.2.2.1).bind xrow with
    | none => false
    | some r => match k with
      | 0 => decide (lw_tbl[q.2.2.2.1]? = some (.methodLink (xnm o) q.1 r.1)) && (decide (lw_tbl[q.2.2.2.2.1]? = some (.instanceMethod r.1)) && decide (lw_tbl[q.2.2.2.2.2]? = some (.selects r.1.cls r.1 r.1)))
      | 1 => decide (lw_tbl[q.2.2.2.1]? = some (.methodLink (xnm o) q.1 r.1)) && decide (lw_tbl[q.2.2.2.2.1]? = some (.static r.1))
      | 2 => decide (lw_tbl[q.2.2.2.1]? = some (.methodLink (xnm o) q.1 r.1)) && (decide (lw_tbl[q.2.2.2.2.1]? = some (.instanceMethod r.1)) && decide (r.1.name = "<init>" ∧ r.2.2.2.1 = none))
      | 3 => decide ((xnm o, q.1, r.1, "NightLights", q.2.2.2.1) ∈ xne) && (decide (lw_tbl[q.2.2.2.2.1]? = some (.instanceMethod r.1)) && decide (r.1.name = "<init>" ∧ r.2.2.2.1 = none))
      | _ => false
theorem xml_all : (List.range 17).all (fun o => (xml o).all (xlk1 o)) = true := by decide +kernel
theorem xml_big {o : Nat} (h : ¬ o < 17) : xml o = [] := by
  unfold xml
  split <;> first | omega | rfl
theorem xml_ok {o x : Nat} {q : Nat × Nat × Nat × Nat × Nat} (h : (x, q) ∈ xml o) : xlk1 o (x, q) = true := by
  by_cases ho : o < 17
  · exact List.all_eq_true.mp (rg17 xml_all ho) (x, q) h
  · rw [xml_big ho] at h; cases h
theorem xne_all : xne.all (fun q => decide (lw_tbl[q.2.2.2.2]? = some (.methodLinkNest q.1 q.2.1 q.2.2.1 q.2.2.2.1))) = true := by decide +kernel
/-- what a row of the list says -/
theorem xrow_ok {i : Nat} {r : xR} (h : (gt xmt i).bind xrow = some r) : Jvm.Cond.code r.1 r.2.1 r.2.2.1 r.2.2.2.1 ∈ xGd ∧ Jvm.Cond.initialized r.1.cls ∈ xGd ∧ r.1.cls = xnm r.2.2.2.2.1 ∧ (parseMethodDescriptor r.1.desc).map (fun d => d.parameters.length) = some r.2.2.2.2.2.2.1 ∧ plainName r.1.cls = true ∧ (r.1.cls ≠ "java/lang/invoke/MethodHandle" ∧ r.1.cls ≠ "java/lang/invoke/VarHandle") ∧ ∀ q ∈ r.2.2.2.2.2.2.2, decode r.2.1 q.1 = .ok q.2 := by
  cases e : gt xmt i with
  | none => rw [e] at h; cases h
  | some q =>
    rw [e] at h
    have h : xrow q = some r := h
    have hm : q ∈ xmt := by rw [gt_eq] at e; exact List.mem_of_getElem? e
    have h1 := List.all_eq_true.mp xmt_all q hm
    have h2 := List.all_eq_true.mp xmt_pg q hm
    unfold xrk at h1
    unfold xpk at h2
    rw [h] at h1 h2
    dsimp only at h1 h2
    rw [Bool.and_eq_true, Bool.and_eq_true, Bool.and_eq_true, Bool.and_eq_true] at h1
    refine ⟨?_, inG _ (of_decide_eq_true h1.1) rfl, of_decide_eq_true h1.2.1, of_decide_eq_true h1.2.2.1, h1.2.2.2.1, of_decide_eq_true h1.2.2.2.2, xpg_ok h2⟩
    unfold xrow at h
    split at h
    · rename_i y b n ret e2
      cases h
      exact inG _ e2 rfl
    · cases h
