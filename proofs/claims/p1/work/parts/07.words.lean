theorem xki_ok : ∀ (o : Nat) (x : Nat) (q : Int × Nat), (x, q) ∈ xki o → Jvm.Cond.constant (xnm o) x (Int32.ofInt q.1) ∈ lw_tbl.filter goodWord := by
  sorry
theorem xkl_ok : ∀ (o : Nat) (x : Nat) (q : Int × Nat), (x, q) ∈ xkl o → Jvm.Cond.constantLong (xnm o) x (Int64.ofInt q.1) ∈ lw_tbl.filter goodWord := by
  sorry
