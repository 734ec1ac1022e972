theorem xpg_app (b : ByteArray) (s t : List (Nat × Instr × Nat)) : xpg b (s ++ t) = (xpg b s && xpg b t) := by
  unfold xpg
  rw [List.all_append]
theorem pL_ok : xpg code pL_law = true := by
  unfold pL_law
  simp only [xpg_app, pL_a0, pL_a1, pL_a2, pL_a3, pL_a4, pL_a5, pL_a6, pL_a7, pL_a8, pL_a9, pL_a10, pL_a11, pL_a12, pL_a13, pL_a14, pL_a15, pL_a16, Bool.and_self]
