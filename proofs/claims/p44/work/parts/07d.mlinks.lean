theorem xml_big {o : Nat} (h : ¬ o < 13) : xml o = [] := by
  unfold xml
  split <;> first | omega | rfl
theorem xml_ok {o x : Nat} {q : Nat × Nat × Nat × Nat × Nat} (h : (x, q) ∈ xml o) : xlk1 o (x, q) = true := by
  by_cases ho : o < 13
  · rcases (show o = 0 ∨ o = 1 ∨ o = 2 ∨ o = 3 ∨ o = 4 ∨ o = 5 ∨ o = 6 ∨ o = 7 ∨ o = 8 ∨ o = 9 ∨ o = 10 ∨ o = 11 ∨ o = 12 by omega) with rfl | rfl | rfl | rfl | rfl | rfl | rfl | rfl | rfl | rfl | rfl | rfl | rfl
    · exact List.all_eq_true.mp xml_o0 _ h
    · exact List.all_eq_true.mp xml_o1 _ h
    · exact List.all_eq_true.mp xml_o2 _ h
    · exact List.all_eq_true.mp xml_o3 _ h
    · exact List.all_eq_true.mp xml_o4 _ h
    · exact List.all_eq_true.mp xml_o5 _ h
    · exact List.all_eq_true.mp xml_o6 _ h
    · exact List.all_eq_true.mp xml_o7 _ h
    · exact List.all_eq_true.mp xml_o8 _ h
    · exact List.all_eq_true.mp xml_o9 _ h
    · exact List.all_eq_true.mp xml_o10 _ h
    · exact List.all_eq_true.mp xml_o11 _ h
    · exact List.all_eq_true.mp xml_o12 _ h
  · rw [xml_big ho] at h; cases h
theorem xne_all : xne.all (fun q => decide (lw_tbl[q.2.2.2.2]? = some (.methodLinkNest q.1 q.2.1 q.2.2.1 q.2.2.2.1))) = true := by decide +kernel
/-- what a row of the list says -/
theorem xrow_ok {i : Nat} {r : xR} (h : (gt xmt i).bind xrow = some r) : Jvm.Cond.code r.1 r.2.1 r.2.2.1 r.2.2.2.1 ∈ xGd ∧ Jvm.Cond.initialized r.1.cls ∈ xGd ∧ r.1.cls = xnm r.2.2.2.2.1 ∧ (parseMethodDescriptor r.1.desc).map (fun d => d.parameters.length) = some r.2.2.2.2.2.2.1 ∧ plainName r.1.cls = true ∧ (r.1.cls ≠ "java/lang/invoke/MethodHandle" ∧ r.1.cls ≠ "java/lang/invoke/VarHandle") ∧ ∀ q ∈ r.2.2.2.2.2.2.2, decode r.2.1 q.1 = .ok q.2 := by
  cases e : gt xmt i with
  | none => rw [e] at h; cases h
  | some q =>
    rw [e] at h
    have h : xrow q = some r := h
    have hm : q ∈ xmt := by rw [gt_eq] at e; exact List.mem_of_getElem? e
    have h1 := List.all_eq_true.mp xmt_all q hm
    have h2 := List.all_eq_true.mp xmt_pg q hm
    unfold xrk at h1
    unfold xpk at h2
    rw [h] at h1 h2
    dsimp only at h1 h2
    rw [Bool.and_eq_true, Bool.and_eq_true, Bool.and_eq_true, Bool.and_eq_true] at h1
    refine ⟨?_, inG _ (of_decide_eq_true h1.1) rfl, of_decide_eq_true h1.2.1, of_decide_eq_true h1.2.2.1, h1.2.2.2.1, of_decide_eq_true h1.2.2.2.2, xpg_ok h2⟩
    unfold xrow at h
    split at h
    · rename_i y b n ret e2
      cases h
      exact inG _ e2 rfl
    · cases h
