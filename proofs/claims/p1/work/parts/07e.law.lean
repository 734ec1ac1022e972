theorem pL_a0 : xpg code pL_0 = true := by decide +kernel
theorem pL_a1 : xpg code pL_1 = true := by decide +kernel
theorem pL_a2 : xpg code pL_2 = true := by decide +kernel
theorem pL_a3 : xpg code pL_3 = true := by decide +kernel
theorem pL_a4 : xpg code pL_4 = true := by decide +kernel
theorem pL_a5 : xpg code pL_5 = true := by decide +kernel
theorem pL_a6 : xpg code pL_6 = true := by decide +kernel
theorem pL_a7 : xpg code pL_7 = true := by decide +kernel
theorem pL_a8 : xpg code pL_8 = true := by decide +kernel
theorem pL_a9 : xpg code pL_9 = true := by decide +kernel
theorem pL_a10 : xpg code pL_10 = true := by decide +kernel
theorem pL_a11 : xpg code pL_11 = true := by decide +kernel
theorem pL_a12 : xpg code pL_12 = true := by decide +kernel
theorem pL_a13 : xpg code pL_13 = true := by decide +kernel
theorem pL_a14 : xpg code pL_14 = true := by decide +kernel
theorem pL_ok : xpg code pL_law = true := by
  unfold pL_law xpg
  simp only [List.all_append]
  have := And.intro
  simp only [show ∀ l, (l.all (fun q : Nat × Instr × Nat => match decode code q.1 with | .ok z => decide (z = q.2) | .error _ => false)) = xpg code l from fun _ => rfl, pL_a0, pL_a1, pL_a2, pL_a3, pL_a4, pL_a5, pL_a6, pL_a7, pL_a8, pL_a9, pL_a10, pL_a11, pL_a12, pL_a13, pL_a14, Bool.and_self]
