-- methods: their rows and their links
def xrk (q : xM) : Bool := match xrow q with
  | some r => decide (lw_tbl[q.2.1]? = some (.initialized r.1.cls)) && (decide (r.1.cls = xnm r.2.2.2.2.1) && (decide ((parseMethodDescriptor r.1.desc).map (fun d => d.parameters.length) = some r.2.2.2.2.2.2.1) && (plainName r.1.cls && decide (r.1.cls ≠ "java/lang/invoke/MethodHandle" ∧ r.1.cls ≠ "java/lang/invoke/VarHandle"))))
  | none => false
theorem xmt_r0 : xmt_0.all xrk = true := by decide +kernel
theorem xmt_r1 : xmt_1.all xrk = true := by decide +kernel
theorem xmt_r2 : xmt_2.all xrk = true := by decide +kernel
theorem xmt_r3 : xmt_3.all xrk = true := by decide +kernel
theorem xmt_r4 : xmt_4.all xrk = true := by decide +kernel
theorem xmt_r5 : xmt_5.all xrk = true := by decide +kernel
theorem xmt_r6 : xmt_6.all xrk = true := by decide +kernel
theorem xmt_r7 : xmt_7.all xrk = true := by decide +kernel
theorem xmt_r8 : xmt_8.all xrk = true := by decide +kernel
theorem xmt_r9 : xmt_9.all xrk = true := by decide +kernel
theorem xmt_r10 : xmt_10.all xrk = true := by decide +kernel
theorem xmt_r11 : xmt_11.all xrk = true := by decide +kernel
theorem xmt_r12 : xmt_12.all xrk = true := by decide +kernel
theorem xmt_r13 : xmt_13.all xrk = true := by decide +kernel
theorem xmt_r14 : xmt_14.all xrk = true := by decide +kernel
theorem xmt_r15 : xmt_15.all xrk = true := by decide +kernel
theorem xmt_r16 : xmt_16.all xrk = true := by decide +kernel
theorem xmt_r17 : xmt_17.all xrk = true := by decide +kernel
theorem xmt_r18 : xmt_18.all xrk = true := by decide +kernel
theorem xmt_r19 : xmt_19.all xrk = true := by decide +kernel
theorem xmt_r20 : xmt_20.all xrk = true := by decide +kernel
theorem xmt_r21 : xmt_21.all xrk = true := by decide +kernel
theorem xmt_r22 : xmt_22.all xrk = true := by decide +kernel
theorem xmt_r23 : xmt_23.all xrk = true := by decide +kernel
theorem xmt_r24 : xmt_24.all xrk = true := by decide +kernel
theorem xmt_all : xmt.all xrk = true := by
  unfold xmt
  simp only [List.all_append, xmt_r0, xmt_r1, xmt_r2, xmt_r3, xmt_r4, xmt_r5, xmt_r6, xmt_r7, xmt_r8, xmt_r9, xmt_r10, xmt_r11, xmt_r12, xmt_r13, xmt_r14, xmt_r15, xmt_r16, xmt_r17, xmt_r18, xmt_r19, xmt_r20, xmt_r21, xmt_r22, xmt_r23, xmt_r24, Bool.and_self]
def xpg (b : ByteArray) (l : List (Nat × Instr × Nat)) : Bool := l.all (fun q => match decode b q.1 with
  | .ok z => decide (z = q.2)
  | .error _ => false)
theorem xpg_ok {b : ByteArray} {l : List (Nat × Instr × Nat)} (h : xpg b l = true) : ∀ q ∈ l, decode b q.1 = .ok q.2 := by
  intro q hq
  have h1 := List.all_eq_true.mp h q hq
  cases e : decode b q.1 with
  | error z => rw [e] at h1; cases h1
  | ok z => rw [e] at h1; rw [of_decide_eq_true h1]
def xpk (q : xM) : Bool := match xrow q with
  | some r => xpg r.2.1 r.2.2.2.2.2.2.2
  | none => false
theorem xmt_a0 : xmt_0.all xpk = true := by decide +kernel
theorem xmt_a1 : xmt_1.all xpk = true := by decide +kernel
theorem xmt_a2 : xmt_2.all xpk = true := by decide +kernel
theorem xmt_a3 : xmt_3.all xpk = true := by decide +kernel
theorem xmt_a4 : xmt_4.all xpk = true := by decide +kernel
theorem xmt_a5 : xmt_5.all xpk = true := by decide +kernel
theorem xmt_a6 : xmt_6.all xpk = true := by decide +kernel
theorem xmt_a7 : xmt_7.all xpk = true := by decide +kernel
theorem xmt_a8 : xmt_8.all xpk = true := by decide +kernel
theorem xmt_a9 : xmt_9.all xpk = true := by decide +kernel
theorem xmt_a10 : xmt_10.all xpk = true := by decide +kernel
theorem xmt_a11 : xmt_11.all xpk = true := by decide +kernel
theorem xmt_a12 : xmt_12.all xpk = true := by decide +kernel
theorem xmt_a13 : xmt_13.all xpk = true := by decide +kernel
theorem xmt_a14 : xmt_14.all xpk = true := by decide +kernel
theorem xmt_a15 : xmt_15.all xpk = true := by decide +kernel
theorem xmt_a16 : xmt_16.all xpk = true := by decide +kernel
theorem xmt_a17 : xmt_17.all xpk = true := by decide +kernel
theorem xmt_a18 : xmt_18.all xpk = true := by decide +kernel
theorem xmt_a19 : xmt_19.all xpk = true := by decide +kernel
theorem xmt_a20 : xmt_20.all xpk = true := by decide +kernel
theorem xmt_a21 : xmt_21.all xpk = true := by decide +kernel
theorem xmt_a22 : xmt_22.all xpk = true := by decide +kernel
theorem xmt_a23 : xmt_23.all xpk = true := by decide +kernel
theorem xmt_a24 : xmt_24.all xpk = true := by decide +kernel
theorem xmt_pg : xmt.all xpk = true := by
  unfold xmt
  simp only [List.all_append, xmt_a0, xmt_a1, xmt_a2, xmt_a3, xmt_a4, xmt_a5, xmt_a6, xmt_a7, xmt_a8, xmt_a9, xmt_a10, xmt_a11, xmt_a12, xmt_a13, xmt_a14, xmt_a15, xmt_a16, xmt_a17, xmt_a18, xmt_a19, xmt_a20, xmt_a21, xmt_a22, xmt_a23, xmt_a24, Bool.and_self]
