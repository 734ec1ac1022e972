def xGd : List Jvm.Cond := lw_tbl.filter goodWord
theorem inG {w : Jvm.Cond} (i : Nat) (h : lw_tbl[i]? = some w) (hg : goodWord w = true) : w ∈ xGd := List.mem_filter.mpr ⟨List.mem_of_getElem? h, hg⟩
theorem rg17 {P : Nat → Bool} (h : (List.range 17).all P = true) {o : Nat} (ho : o < 17) : P o = true := List.all_eq_true.mp h o (List.mem_range.mpr ho)
theorem xki_all : (List.range 17).all (fun o => (xki o).all (fun q => decide (lw_tbl[q.2.2]? = some (.constant (xnm o) q.1 (Int32.ofInt q.2.1))))) = true := by decide +kernel
theorem xki_big {o : Nat} (h : ¬ o < 17) : xki o = [] := by
  unfold xki
  split <;> first | omega | rfl
theorem xki_ok : ∀ (o : Nat) (x : Nat) (q : Int × Nat), (x, q) ∈ xki o → Jvm.Cond.constant (xnm o) x (Int32.ofInt q.1) ∈ xGd := by
  intro o x q hq
  by_cases ho : o < 17
  · exact inG _ (of_decide_eq_true (List.all_eq_true.mp (rg17 xki_all ho) (x, q) hq)) rfl
  · rw [xki_big ho] at hq; cases hq
theorem xkl_all : (List.range 17).all (fun o => (xkl o).all (fun q => decide (lw_tbl[q.2.2]? = some (.constantLong (xnm o) q.1 (Int64.ofInt q.2.1))))) = true := by decide +kernel
theorem xkl_big {o : Nat} (h : ¬ o < 17) : xkl o = [] := by
  unfold xkl
  split <;> first | omega | rfl
theorem xkl_ok : ∀ (o : Nat) (x : Nat) (q : Int × Nat), (x, q) ∈ xkl o → Jvm.Cond.constantLong (xnm o) x (Int64.ofInt q.1) ∈ xGd := by
  intro o x q hq
  by_cases ho : o < 17
  · exact inG _ (of_decide_eq_true (List.all_eq_true.mp (rg17 xkl_all ho) (x, q) hq)) rfl
  · rw [xkl_big ho] at hq; cases hq
theorem xfl_all : (List.range 17).all (fun o => (xfl o).all (fun q => match vwCl[q.2.1]? with
  | some c => decide (q.2.2.1 < c.2.2) && decide (lw_tbl[q.2.2.2]? = some (.fieldLink (xnm o) q.1 (c.2.1 q.2.2.1).1 (c.2.1 q.2.2.1).2.1 (c.2.1 q.2.2.1).2.2.1))
  | none => false)) = true := by decide +kernel
theorem xfl_big {o : Nat} (h : ¬ o < 17) : xfl o = [] := by
  unfold xfl
  split <;> first | omega | rfl
theorem xfl_ok : ∀ (o : Nat) (x : Nat) (q : Nat × Nat × Nat), (x, q) ∈ xfl o → ∃ c : vw_C, vwCl[q.1]? = some c ∧ q.2.1 < c.2.2 ∧ Jvm.Cond.fieldLink (xnm o) x (c.2.1 q.2.1).1 (c.2.1 q.2.1).2.1 (c.2.1 q.2.1).2.2.1 ∈ xGd := by
  intro o x q hq
  by_cases ho : o < 17
  · have h := List.all_eq_true.mp (rg17 xfl_all ho) (x, q) hq
    dsimp only at h
    cases e : vwCl[q.1]? with
    | none => rw [e] at h; cases h
    | some c =>
      rw [e] at h
      dsimp only at h
      rw [Bool.and_eq_true] at h
      exact ⟨c, rfl, of_decide_eq_true h.1, inG _ (of_decide_eq_true h.2) rfl⟩
  · rw [xfl_big ho] at hq; cases hq
theorem xcl_all : (List.range 17).all (fun o => (xcl o).all (fun q => match vwCl[q.2.1]? with
  | some c => decide (lw_tbl[q.2.2.1]? = some (.classLink (xnm o) q.1 c.1)) && (decide (lw_tbl[q.2.2.2.1]? = some (.instantiable c.1 c.2.2)) && decide (lw_tbl[q.2.2.2.2]? = some (.initialized c.1)))
  | none => false)) = true := by decide +kernel
theorem xcl_big {o : Nat} (h : ¬ o < 17) : xcl o = [] := by
  unfold xcl
  split <;> first | omega | rfl
theorem xcl_ok : ∀ (o : Nat) (x : Nat) (q : Nat × Nat × Nat × Nat), (x, q) ∈ xcl o → ∀ c : vw_C, vwCl[q.1]? = some c → Jvm.Cond.classLink (xnm o) x c.1 ∈ xGd ∧ Jvm.Cond.instantiable c.1 c.2.2 ∈ xGd ∧ Jvm.Cond.initialized c.1 ∈ xGd := by
  intro o x q hq c e
  by_cases ho : o < 17
  · have h := List.all_eq_true.mp (rg17 xcl_all ho) (x, q) hq
    dsimp only at h
    rw [e] at h
    dsimp only at h
    rw [Bool.and_eq_true, Bool.and_eq_true] at h
    exact ⟨inG _ (of_decide_eq_true h.1) rfl, inG _ (of_decide_eq_true h.2.1) rfl, inG _ (of_decide_eq_true h.2.2) rfl⟩
  · rw [xcl_big ho] at hq; cases hq
theorem u_all : vwCl.all (fun c => (u_ws c.1 c.2.1 c.2.2).all (fun w => decide (w ∈ lw_tbl) && goodWord w)) = true := by decide +kernel
theorem u_ok {ci : Nat} {c : vw_C} (h : vwCl[ci]? = some c) : ∀ w ∈ u_ws c.1 c.2.1 c.2.2, w ∈ xGd := by
  intro w hw
  have h1 := List.all_eq_true.mp (List.all_eq_true.mp u_all c (List.mem_of_getElem? h)) w hw
  rw [Bool.and_eq_true] at h1
  exact List.mem_filter.mpr ⟨of_decide_eq_true h1.1, h1.2⟩
def okz (ty : FieldType) (v : Option xV) : Bool := match ty, v with
  | .int, some (.inl (.inl z)) => decide (z = 0)
  | .long, some (.inr (.inr z)) => decide (z = 0)
  | .object _, some (.inr (.inl none)) => true
  | .array _, some (.inr (.inl none)) => true
  | _, _ => false
theorem okz_ok {ty : FieldType} {v : xV} (h : okz ty (some v) = true) (ρ : Nat → Nat) (σ : Nat → Int32) : defaultValue ty = dV ρ σ v := by
  unfold okz at h
  split at h
  · rename_i z e
    cases e
    rw [of_decide_eq_true h]; rfl
  · rename_i z e
    cases e
    rw [of_decide_eq_true h]; rfl
  · rename_i z e
    cases e; rfl
  · rename_i z e
    cases e; rfl
  · cases h
theorem t_all : (List.range 12).all (fun ci => match vwCl[ci]? with
  | some c => (List.range c.2.2).all (fun k => decide (parseFieldDescriptor (c.2.1 k).2.2.1 = some (xty ci k)) && (okz (xty ci k) (gt (xzero ci) k) && decide ((c.2.1 k).1 = c.1 ∧ c.1 = xnm ci)))
  | none => false) = true := by decide +kernel
theorem n_all : (List.range 12).all (fun ci => match vwCl[ci]? with
  | some c => (List.range c.2.2).all (fun a => (List.range c.2.2).all (fun b => decide (a = b) || decide ((c.2.1 a).2.1 ≠ (c.2.1 b).2.1)))
  | none => false) = true := by decide +kernel
theorem ci12 {ci : Nat} {c : vw_C} (h : vwCl[ci]? = some c) : ci < 12 := (List.getElem?_eq_some_iff.mp h).1
theorem t_ok {ci : Nat} {c : vw_C} (h : vwCl[ci]? = some c) : ∀ k, k < c.2.2 → parseFieldDescriptor (c.2.1 k).2.2.1 = some (xty ci k) ∧ okz (xty ci k) (gt (xzero ci) k) = true ∧ (c.2.1 k).1 = c.1 ∧ c.1 = xnm ci := by
  intro k hk
  have h1 := List.all_eq_true.mp t_all ci (List.mem_range.mpr (ci12 h))
  rw [h] at h1
  have h2 := List.all_eq_true.mp h1 k (List.mem_range.mpr hk)
  rw [Bool.and_eq_true, Bool.and_eq_true] at h2
  exact ⟨of_decide_eq_true h2.1, h2.2.1, of_decide_eq_true h2.2.2⟩
theorem n_ok {ci : Nat} {c : vw_C} (h : vwCl[ci]? = some c) : ∀ a, a < c.2.2 → ∀ b, b < c.2.2 → a ≠ b → (c.2.1 a).2.1 ≠ (c.2.1 b).2.1 := by
  intro a ha b hb hab
  have h1 := List.all_eq_true.mp n_all ci (List.mem_range.mpr (ci12 h))
  rw [h] at h1
  have h2 := List.all_eq_true.mp (List.all_eq_true.mp h1 a (List.mem_range.mpr ha)) b (List.mem_range.mpr hb)
  rw [Bool.or_eq_true] at h2
  rcases h2 with h2 | h2
  · exact absurd (of_decide_eq_true h2) hab
  · exact of_decide_eq_true h2
theorem a_int : Jvm.Cond.arrayClass .int ∈ xGd := inG xh_aint (by decide +kernel) rfl
theorem a_byte : Jvm.Cond.arrayClass .byte ∈ xGd := inG xh_abyte (by decide +kernel) rfl
theorem a_boolean : Jvm.Cond.arrayClass .boolean ∈ xGd := inG xh_aboolean (by decide +kernel) rfl
theorem a_long : Jvm.Cond.arrayClass .long ∈ xGd := inG xh_along (by decide +kernel) rfl
theorem w_oi : Jvm.Cond.instanceMethod objectInit ∈ xGd := inG xh_oi (by decide +kernel) rfl
theorem w_oc : Jvm.Cond.code objectInit ⟨#[0xb1]⟩ 1 none ∈ xGd := inG xh_oc (by decide +kernel) rfl
theorem w_an : Jvm.Cond.native arraycopyName ∈ xGd := inG xh_an (by decide +kernel) rfl
theorem w_as : Jvm.Cond.static arraycopyName ∈ xGd := inG xh_as (by decide +kernel) rfl
theorem w_si : Jvm.Cond.initialized "java/lang/System" ∈ xGd := inG xh_si (by decide +kernel) rfl
theorem w_mi : Jvm.Cond.initialized "java/lang/Math" ∈ xGd := inG xh_mi (by decide +kernel) rfl
theorem w_xs : Jvm.Cond.static Lib.Math.max.name ∈ xGd := inG xh_xs (by decide +kernel) rfl
theorem w_ns : Jvm.Cond.static Lib.Math.min.name ∈ xGd := inG xh_ns (by decide +kernel) rfl
theorem w_xc : Jvm.Cond.code Lib.Math.max.name Lib.Math.max.code 2 (some .int) ∈ xGd := inG xh_xc (by decide +kernel) rfl
theorem w_nc : Jvm.Cond.code Lib.Math.min.name Lib.Math.min.code 2 (some .int) ∈ xGd := inG xh_nc (by decide +kernel) rfl
