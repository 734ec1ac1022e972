def xab : Nat → List (Nat × Nat)
  | 4 => [(85, 867)]
  | 9 => [(43, 1031)]
  | _ => []
theorem xab_all : (List.range 17).all (fun o => (xab o).all (fun q => decide (lw_tbl[q.2]? = some (.methodLink (xnm o) q.1 Lib.Math.abs.name)))) = true := by decide +kernel
theorem xab_big {o : Nat} (h : ¬ o < 17) : xab o = [] := by
  unfold xab
  split <;> first | omega | rfl
theorem xab_ok {o x g : Nat} (hq : (x, g) ∈ xab o) : Jvm.Cond.methodLink (xnm o) x Lib.Math.abs.name ∈ xGd := by
  by_cases ho : o < 17
  · exact inG _ (of_decide_eq_true (List.all_eq_true.mp (rg17 xab_all ho) (x, g) hq)) rfl
  · rw [xab_big ho] at hq; cases hq
theorem w_bs : Jvm.Cond.static Lib.Math.abs.name ∈ xGd := inG 868 (by decide +kernel) rfl
theorem w_bc : Jvm.Cond.code Lib.Math.abs.name Lib.Math.abs.code 1 (some .int) ∈ xGd := inG 869 (by decide +kernel) rfl
