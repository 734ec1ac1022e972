-- methods: their rows and their links
def xrk (q : xM) : Bool := match xrow q with
  | some r => decide (lw_tbl[q.2.1]? = some (.initialized r.1.cls)) && (decide (r.1.cls = xnm r.2.2.2.2.1) && (decide ((parseMethodDescriptor r.1.desc).map (fun d => d.parameters.length) = some r.2.2.2.2.2.2.1) && (plainName r.1.cls && decide (r.1.cls ≠ "java/lang/invoke/MethodHandle" ∧ r.1.cls ≠ "java/lang/invoke/VarHandle"))))
  | none => false
theorem xmt_all : xmt.all xrk = true := by decide +kernel
def xpg (b : ByteArray) (l : List (Nat × Instr × Nat)) : Bool := l.all (fun q => match decode b q.1 with
  | .ok z => decide (z = q.2)
  | .error _ => false)
theorem xpg_ok {b : ByteArray} {l : List (Nat × Instr × Nat)} (h : xpg b l = true) : ∀ q ∈ l, decode b q.1 = .ok q.2 := by
  intro q hq
  have h1 := List.all_eq_true.mp h q hq
  cases e : decode b q.1 with
  | error z => rw [e] at h1; cases h1
  | ok z => rw [e] at h1; rw [of_decide_eq_true h1]
def xpk (q : xM) : Bool := match xrow q with
  | some r => xpg r.2.1 r.2.2.2.2.2.2.2
  | none => false
theorem xmt_a0 : xmt_0.all xpk = true := by decide +kernel
theorem xmt_a1 : xmt_1.all xpk = true := by decide +kernel
theorem xmt_a2 : xmt_2.all xpk = true := by decide +kernel
theorem xmt_a3 : xmt_3.all xpk = true := by decide +kernel
theorem xmt_a4 : xmt_4.all xpk = true := by decide +kernel
theorem xmt_a5 : xmt_5.all xpk = true := by decide +kernel
theorem xmt_a6 : xmt_6.all xpk = true := by decide +kernel
theorem xmt_a7 : xmt_7.all xpk = true := by decide +kernel
theorem xmt_a8 : xmt_8.all xpk = true := by decide +kernel
theorem xmt_a9 : xmt_9.all xpk = true := by decide +kernel
theorem xmt_pg : xmt.all xpk = true := by
  unfold xmt
  simp only [List.all_append, xmt_a0, xmt_a1, xmt_a2, xmt_a3, xmt_a4, xmt_a5, xmt_a6, xmt_a7, xmt_a8, xmt_a9, Bool.and_self]
