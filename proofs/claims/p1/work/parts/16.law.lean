theorem inst_all : vwCl.all (fun c => decide (Jvm.Cond.instantiable c.1 c.2.2 ∈ lw_tbl)) = true := by decide +kernel
theorem sat1 {σ : Nat → Int32} {k : Nat} {a b : Int} (h1 : a ≤ (σ k).toInt) (h2 : (σ k).toInt ≤ b) : sat σ ([(k, (a, b, []))], []) := ⟨fun q hq => by
  rcases List.mem_singleton.mp hq with rfl
  exact ⟨h1, h2, fun n hn => by cases hn⟩, fun q hq => by cases hq⟩
theorem sat2 {σ : Nat → Int32} {k j : Nat} {a b c d : Int} (h1 : a ≤ (σ k).toInt) (h2 : (σ k).toInt ≤ b) (h3 : c ≤ (σ j).toInt) (h4 : (σ j).toInt ≤ d) : sat σ ([(k, (a, b, [])), (j, (c, d, []))], []) := ⟨fun q hq => by
  rcases List.mem_cons.mp hq with rfl | hq
  · exact ⟨h1, h2, fun n hn => by cases hn⟩
  · rcases List.mem_singleton.mp hq with rfl
    exact ⟨h3, h4, fun n hn => by cases hn⟩, fun q hq => by cases hq⟩
def xσ (xs : Nat → Int32) : Nat → Int32 := fun j => if j = 50 then xs 0 &&& 63 else xs j
theorem xσ_50 (xs : Nat → Int32) : xσ xs 50 = xσ xs 0 &&& 63 := rfl
theorem xσ_lt (xs : Nat → Int32) {j : Nat} (h : j < 50) : xσ xs j = xs j := by
  unfold xσ
  rw [if_neg (by omega)]
theorem xσ_bd (xs : Nat → Int32) : 0 ≤ (xσ xs 50).toInt ∧ (xσ xs 50).toInt ≤ 63 := by
  obtain ⟨j, hj, e⟩ := pk_andE (xs 0) (m := 63) 6 (by decide)
  have e2 : xσ xs 50 = nI j := e
  rw [e2, nI_toInt (by omega)]
  omega
def xρ (b : Nat) : Nat → Nat := fun i => if i = xz_SC then b else 0
theorem xρ_SC (b : Nat) : xρ b xz_SC = b := by
  unfold xρ
  rw [if_pos rfl]
set_option maxHeartbeats 2000000 in
/-- what the law's own frame gives, for either list of its instructions -/
theorem law_Cx {p : Program} {e : Env} {s : State} {m : MethodId} {below : List Frame} {meth : Method} {c : Code} {l : Launch} {b L : Nat} {xs : Nat → Int32} (hL : L ≤ 6) (C0 : lw_At p s m meth c b L xs) {D : va_G} (hK : va_K D vwCl [] s) {chk : xCk} {pl : List (Nat × Instr × Nat)} (hpl : xpg code pl = true)
    (hst : ∀ (pc : Nat) (lo : xL) (sk : List xV) (w : List xC) (cs ss : Nat) (fa : xFa) (H : Heap) (locs : List Loc) (ρ : Nat → Nat) (γ : Nat → ClassId) (ls : Array Slot), chk pc lo sk w cs ss = true → Iv (xσ xs) D s (fun q => s.heap.size ≤ q) (x, code, 4, some .boolean, 12, (2048, 84000, 600000, 7302250), 1, pl) 0 (xρ b) H locs ρ γ ls lo w fa → W p l e room_1 s m #[Value.ref b] below meth c H locs cs ss (lw_Z below #[Value.ref b] s) (F0 m pc ls (sk.map (dV ρ (xσ xs))))) :
    Cx L chk (xσ xs) D l (x, code, 4, some .boolean, 12, (2048, 84000, 600000, 7302250), 1, pl) p e s m #[Value.ref b] below meth c (fun q => s.heap.size ≤ q) (lw_Z below #[Value.ref b] s) xfin0 0 (xρ b) := by
  obtain ⟨hx, hb, hr, hml, hown, hts, hX, hbl, hlocks, hgv⟩ := id C0
  refine ⟨hx, hb, hml, hown, fun w hw => hts w (List.mem_filter.mp hw).1, hK, fun _ h => h, fun h => absurd (show x.name = "<init>" from h) (by decide), fun q hq => ?_, xpg_ok hpl, fun _ => ?_, fun _ => hst, ?_⟩
  · have h1 := List.all_eq_true.mp xne_all q hq
    exact va_Nw.of rfl (hts _ (List.mem_of_getElem? (of_decide_eq_true h1)))
  · rw [xρ_SC]
    refine ⟨?_, hbl, Nat.not_le.mpr hbl⟩
    obtain ⟨scr, h1, h2, h3, h4, h5⟩ := hX
    exact ⟨scr, h1, h2, h3, h4, fun j hj => by rw [xσ_lt xs (by omega)]; exact h5 j hj⟩
  · intro pc fa v lo w H locs ρ γ ls V hk hx2
    rcases v with _ | ((z | q) | b2)
    · cases hk
    · have hz : z = 1 := of_decide_eq_true hk
      subst hz
      refine va_forget (fun q hq => V.2.2.2.2.1.2.2 q hq) ?_
      exact lw_ret hx hb hr hlocks hx2.1
    · cases hk
    · cases hk

set_option maxHeartbeats 4000000 in
/-- at the loop's head, with six ints -/
theorem law_six {p : Program} {e : Env} {s : State} {m : MethodId} {below : List Frame} {meth : Method} {c : Code} {l : Launch} {b : Nat} {xs : Nat → Int32} {D : va_G} (CB : Cx 6 chk0 (xσ xs) D l xlaw p e s m #[Value.ref b] below meth c (fun q => s.heap.size ≤ q) (lw_Z below #[Value.ref b] s) xfin0 0 (xρ b)) {fa : xFa} {H : Heap} {locs : List Loc} {ρ : Nat → Nat} {γ : Nat → ClassId} {ls : Array Slot} (V : Iv (xσ xs) D s (fun q => s.heap.size ≤ q) xlaw 0 (xρ b) H locs ρ γ ls xlo1 xW1 fa) : W p l e (xrm xlaw) s m #[Value.ref b] below meth c H locs 95 10804 (lw_Z below #[Value.ref b] s) (F0 m 18 ls (([] : List xV).map (dV ρ (xσ xs)))) := by
  obtain ⟨hb1, hb2⟩ := xσ_bd xs
  by_cases q0 : ((xσ xs 50).toInt) ≤ 0
  · exact xex_ok (xσ_50 xs) 9000 xlaw p e s m _ below meth c _ _ xfin0 0 (xρ b) CB 18 xlo1 [] xW1 95 10804 _ run_c0 H locs ρ γ ls (V.fa (sat1 (by omega) (by omega)))
  by_cases q1 : ((xσ xs 50).toInt) ≤ 7
  · exact xex_ok (xσ_50 xs) 9000 xlaw p e s m _ below meth c _ _ xfin0 0 (xρ b) CB 18 xlo1 [] xW1 95 10804 _ run_c1 H locs ρ γ ls (V.fa (sat1 (by omega) (by omega)))
  by_cases q8 : ((xσ xs 50).toInt) ≤ 16
  · exact xex_ok (xσ_50 xs) 9000 xlaw p e s m _ below meth c _ _ xfin0 0 (xρ b) CB 18 xlo1 [] xW1 95 10804 _ run_c8 H locs ρ γ ls (V.fa (sat1 (by omega) (by omega)))
  by_cases q17 : ((xσ xs 50).toInt) ≤ 17
  · by_cases s0 : ((xσ xs 1).toInt) ≤ 0
    · exact xex_ok (xσ_50 xs) 9000 xlaw p e s m _ below meth c _ _ xfin0 0 (xρ b) CB 18 xlo1 [] xW1 95 10804 _ run_s0 H locs ρ γ ls (V.fa (sat2 (by omega) (by omega) (by have := (i32_bd (xσ xs 1)); omega) (by omega)))
    by_cases s1 : ((xσ xs 1).toInt) ≤ 20
    · exact xex_ok (xσ_50 xs) 9000 xlaw p e s m _ below meth c _ _ xfin0 0 (xρ b) CB 18 xlo1 [] xW1 95 10804 _ run_s1 H locs ρ γ ls (V.fa (sat2 (by omega) (by omega) (by have := (i32_bd (xσ xs 1)); omega) (by omega)))
    by_cases s2 : ((xσ xs 1).toInt) ≤ 28
    · exact xex_ok (xσ_50 xs) 9000 xlaw p e s m _ below meth c _ _ xfin0 0 (xρ b) CB 18 xlo1 [] xW1 95 10804 _ run_s2 H locs ρ γ ls (V.fa (sat2 (by omega) (by omega) (by have := (i32_bd (xσ xs 1)); omega) (by omega)))
    by_cases s3 : ((xσ xs 1).toInt) ≤ 36
    · exact xex_ok (xσ_50 xs) 9000 xlaw p e s m _ below meth c _ _ xfin0 0 (xρ b) CB 18 xlo1 [] xW1 95 10804 _ run_s3 H locs ρ γ ls (V.fa (sat2 (by omega) (by omega) (by have := (i32_bd (xσ xs 1)); omega) (by omega)))
    by_cases s4 : ((xσ xs 1).toInt) ≤ 40
    · exact xex_ok (xσ_50 xs) 9000 xlaw p e s m _ below meth c _ _ xfin0 0 (xρ b) CB 18 xlo1 [] xW1 95 10804 _ run_s4 H locs ρ γ ls (V.fa (sat2 (by omega) (by omega) (by have := (i32_bd (xσ xs 1)); omega) (by omega)))
    by_cases s5 : ((xσ xs 1).toInt) ≤ 44
    · exact xex_ok (xσ_50 xs) 9000 xlaw p e s m _ below meth c _ _ xfin0 0 (xρ b) CB 18 xlo1 [] xW1 95 10804 _ run_s5 H locs ρ γ ls (V.fa (sat2 (by omega) (by omega) (by have := (i32_bd (xσ xs 1)); omega) (by omega)))
    by_cases s6 : ((xσ xs 1).toInt) ≤ 48
    · exact xex_ok (xσ_50 xs) 9000 xlaw p e s m _ below meth c _ _ xfin0 0 (xρ b) CB 18 xlo1 [] xW1 95 10804 _ run_s6 H locs ρ γ ls (V.fa (sat2 (by omega) (by omega) (by have := (i32_bd (xσ xs 1)); omega) (by omega)))
    by_cases s7 : ((xσ xs 1).toInt) ≤ 52
    · exact xex_ok (xσ_50 xs) 9000 xlaw p e s m _ below meth c _ _ xfin0 0 (xρ b) CB 18 xlo1 [] xW1 95 10804 _ run_s7 H locs ρ γ ls (V.fa (sat2 (by omega) (by omega) (by have := (i32_bd (xσ xs 1)); omega) (by omega)))
    by_cases s8 : ((xσ xs 1).toInt) ≤ 56
    · exact xex_ok (xσ_50 xs) 9000 xlaw p e s m _ below meth c _ _ xfin0 0 (xρ b) CB 18 xlo1 [] xW1 95 10804 _ run_s8 H locs ρ γ ls (V.fa (sat2 (by omega) (by omega) (by have := (i32_bd (xσ xs 1)); omega) (by omega)))
    by_cases s9 : ((xσ xs 1).toInt) ≤ 60
    · exact xex_ok (xσ_50 xs) 9000 xlaw p e s m _ below meth c _ _ xfin0 0 (xρ b) CB 18 xlo1 [] xW1 95 10804 _ run_s9 H locs ρ γ ls (V.fa (sat2 (by omega) (by omega) (by have := (i32_bd (xσ xs 1)); omega) (by omega)))
    exact xex_ok (xσ_50 xs) 9000 xlaw p e s m _ below meth c _ _ xfin0 0 (xρ b) CB 18 xlo1 [] xW1 95 10804 _ run_s10 H locs ρ γ ls (V.fa (sat2 (by omega) (by omega) (by omega) (by have := (i32_bd (xσ xs 1)); omega)))
  by_cases q18 : ((xσ xs 50).toInt) ≤ 18
  · exact xex_ok (xσ_50 xs) 9000 xlaw p e s m _ below meth c _ _ xfin0 0 (xρ b) CB 18 xlo1 [] xW1 95 10804 _ run_c18 H locs ρ γ ls (V.fa (sat1 (by omega) (by omega)))
  by_cases q19 : ((xσ xs 50).toInt) ≤ 19
  · exact xex_ok (xσ_50 xs) 9000 xlaw p e s m _ below meth c _ _ xfin0 0 (xρ b) CB 18 xlo1 [] xW1 95 10804 _ run_c19 H locs ρ γ ls (V.fa (sat1 (by omega) (by omega)))
  by_cases q20 : ((xσ xs 50).toInt) ≤ 22
  · exact xex_ok (xσ_50 xs) 9000 xlaw p e s m _ below meth c _ _ xfin0 0 (xρ b) CB 18 xlo1 [] xW1 95 10804 _ run_c20 H locs ρ γ ls (V.fa (sat1 (by omega) (by omega)))
  by_cases q23 : ((xσ xs 50).toInt) ≤ 28
  · exact xex_ok (xσ_50 xs) 9000 xlaw p e s m _ below meth c _ _ xfin0 0 (xρ b) CB 18 xlo1 [] xW1 95 10804 _ run_c23 H locs ρ γ ls (V.fa (sat1 (by omega) (by omega)))
  by_cases q29 : ((xσ xs 50).toInt) ≤ 35
  · exact xex_ok (xσ_50 xs) 9000 xlaw p e s m _ below meth c _ _ xfin0 0 (xρ b) CB 18 xlo1 [] xW1 95 10804 _ run_c29 H locs ρ γ ls (V.fa (sat1 (by omega) (by omega)))
  by_cases q36 : ((xσ xs 50).toInt) ≤ 36
  · exact xex_ok (xσ_50 xs) 9000 xlaw p e s m _ below meth c _ _ xfin0 0 (xρ b) CB 18 xlo1 [] xW1 95 10804 _ run_c36 H locs ρ γ ls (V.fa (sat1 (by omega) (by omega)))
  by_cases q37 : ((xσ xs 50).toInt) ≤ 37
  · exact xex_ok (xσ_50 xs) 9000 xlaw p e s m _ below meth c _ _ xfin0 0 (xρ b) CB 18 xlo1 [] xW1 95 10804 _ run_c37 H locs ρ γ ls (V.fa (sat1 (by omega) (by omega)))
  by_cases q38 : ((xσ xs 50).toInt) ≤ 38
  · exact xex_ok (xσ_50 xs) 9000 xlaw p e s m _ below meth c _ _ xfin0 0 (xρ b) CB 18 xlo1 [] xW1 95 10804 _ run_c38 H locs ρ γ ls (V.fa (sat1 (by omega) (by omega)))
  by_cases q39 : ((xσ xs 50).toInt) ≤ 44
  · exact xex_ok (xσ_50 xs) 9000 xlaw p e s m _ below meth c _ _ xfin0 0 (xρ b) CB 18 xlo1 [] xW1 95 10804 _ run_c39 H locs ρ γ ls (V.fa (sat1 (by omega) (by omega)))
  by_cases q45 : ((xσ xs 50).toInt) ≤ 46
  · exact xex_ok (xσ_50 xs) 9000 xlaw p e s m _ below meth c _ _ xfin0 0 (xρ b) CB 18 xlo1 [] xW1 95 10804 _ run_c45 H locs ρ γ ls (V.fa (sat1 (by omega) (by omega)))
  by_cases q47 : ((xσ xs 50).toInt) ≤ 48
  · exact xex_ok (xσ_50 xs) 9000 xlaw p e s m _ below meth c _ _ xfin0 0 (xρ b) CB 18 xlo1 [] xW1 95 10804 _ run_c47 H locs ρ γ ls (V.fa (sat1 (by omega) (by omega)))
  exact xex_ok (xσ_50 xs) 9000 xlaw p e s m _ below meth c _ _ xfin0 0 (xρ b) CB 18 xlo1 [] xW1 95 10804 _ run_c49 H locs ρ γ ls (V.fa (sat1 (by omega) (by omega)))

set_option maxHeartbeats 4000000 in
/-- THE LAW, from its entry -/
theorem whole_start {p : Program} {e : Env} {s : State} {m : MethodId} {below : List Frame} {meth : Method} {c : Code} (l : Launch) (hflags : l.flags = flags0) {b L : Nat} {xs : Nat → Int32} (hL : L ≤ 6) (C0 : lw_At p s m meth c b L xs) : W p l e room_1 s m #[Value.ref b] below meth c s.heap [] 0 0 (lw_Z below #[Value.ref b] s) (entryFrame m ([Value.ref b] : List Value).toArray 4) := by
  obtain ⟨hx, hb, hr, hml, hown, hts, hX, hbl, hlocks, hgv⟩ := id C0
  have hch : ∀ ci : Nat, ∃ q : ClassId × (Nat → Nat), ∀ c : vw_C, vwCl[ci]? = some c → u_Kn s c.1 c.2.1 c.2.2 q.1 q.2 := by
    intro ci
    cases e1 : vwCl[ci]? with
    | none => exact ⟨(0, fun _ => 0), fun c h => by cases h⟩
    | some c =>
      obtain ⟨cC, iS, h⟩ := u_known (C := c.1) (T := c.2.1) (N := c.2.2) (n := c.2.2) hts (fun w hw => (List.mem_filter.mp (u_ok e1 w hw)).1) (hts _ (of_decide_eq_true (List.all_eq_true.mp inst_all c (List.mem_of_getElem? e1))))
      exact ⟨(cC, iS), fun c2 h2 => by cases h2; exact h⟩
  obtain ⟨f, hf⟩ := Classical.axiomOfChoice hch
  have hK : va_K ((fun ci => (f ci).1), (fun ci => (f ci).2)) vwCl [] s := ⟨fun ci q hq => hf ci q hq, fun k q h => by cases h⟩
  generalize (((fun ci => (f ci).1), (fun ci => (f ci).2)) : va_G) = D at hK
  have hl := lv_entry ([.ref b]) (n := 4) (Nat.le_of_ble_eq_true rfl)
  rw [lg_entry_eq]
  generalize (lg_sl ([.ref b]) ++ List.replicate (4 - (lg_sl ([.ref b])).length) Slot.unset).toArray = ls at hl ⊢
  have hl : lv_has ls 4 (dL (xρ b) (xσ xs) xlo0) := by
    show lv_has ls 4 [(0, Value.ref (xρ b xz_SC))]
    rw [xρ_SC]
    exact hl
  have hP0 : va_P D vwCl (cw (xρ b) (fun _ => 0) (xσ xs) []) s.heap := fun k q h => by cases h
  have hD0 : va_D (fun q : Nat => s.heap.size ≤ q) (cw (xρ b) (fun _ => 0) (xσ xs) []) := ⟨fun i j p q h => (by cases h), fun k q h => (by cases h)⟩
  have hsat : sat (xσ xs) ([], []) := ⟨fun q h => (by cases h), fun q h => (by cases h)⟩
  rcases (show L = 0 ∨ L = 1 ∨ L = 2 ∨ L = 3 ∨ L = 4 ∨ L = 5 ∨ L = 6 by omega) with rfl | rfl | rfl | rfl | rfl | rfl | rfl
  · exact xex_ok (xσ_50 xs) 1300 xlaw p e s m _ below meth c _ _ xfin0 0 (xρ b) (law_Cx hL C0 hK pL_ok (fun _ _ _ _ _ _ _ _ _ _ _ _ h => absurd h Bool.false_ne_true)) 0 xlo0 [] [] 0 0 ([], []) run_0 s.heap [] (xρ b) (fun _ => 0) ls ⟨⟨Nat.le_refl _, fun _ _ => rfl⟩, fun _ _ _ _ h => (by cases h), hP0, hD0, va_S.rf, hl, hsat⟩
  · exact xex_ok (xσ_50 xs) 1300 xlaw p e s m _ below meth c _ _ xfin0 0 (xρ b) (law_Cx hL C0 hK pL_ok (fun _ _ _ _ _ _ _ _ _ _ _ _ h => absurd h Bool.false_ne_true)) 0 xlo0 [] [] 0 0 ([], []) run_1 s.heap [] (xρ b) (fun _ => 0) ls ⟨⟨Nat.le_refl _, fun _ _ => rfl⟩, fun _ _ _ _ h => (by cases h), hP0, hD0, va_S.rf, hl, hsat⟩
  · exact xex_ok (xσ_50 xs) 1300 xlaw p e s m _ below meth c _ _ xfin0 0 (xρ b) (law_Cx hL C0 hK pL_ok (fun _ _ _ _ _ _ _ _ _ _ _ _ h => absurd h Bool.false_ne_true)) 0 xlo0 [] [] 0 0 ([], []) run_2 s.heap [] (xρ b) (fun _ => 0) ls ⟨⟨Nat.le_refl _, fun _ _ => rfl⟩, fun _ _ _ _ h => (by cases h), hP0, hD0, va_S.rf, hl, hsat⟩
  · exact xex_ok (xσ_50 xs) 1300 xlaw p e s m _ below meth c _ _ xfin0 0 (xρ b) (law_Cx hL C0 hK pL_ok (fun _ _ _ _ _ _ _ _ _ _ _ _ h => absurd h Bool.false_ne_true)) 0 xlo0 [] [] 0 0 ([], []) run_3 s.heap [] (xρ b) (fun _ => 0) ls ⟨⟨Nat.le_refl _, fun _ _ => rfl⟩, fun _ _ _ _ h => (by cases h), hP0, hD0, va_S.rf, hl, hsat⟩
  · exact xex_ok (xσ_50 xs) 1300 xlaw p e s m _ below meth c _ _ xfin0 0 (xρ b) (law_Cx hL C0 hK pL_ok (fun _ _ _ _ _ _ _ _ _ _ _ _ h => absurd h Bool.false_ne_true)) 0 xlo0 [] [] 0 0 ([], []) run_4 s.heap [] (xρ b) (fun _ => 0) ls ⟨⟨Nat.le_refl _, fun _ _ => rfl⟩, fun _ _ _ _ h => (by cases h), hP0, hD0, va_S.rf, hl, hsat⟩
  · exact xex_ok (xσ_50 xs) 1300 xlaw p e s m _ below meth c _ _ xfin0 0 (xρ b) (law_Cx hL C0 hK pL_ok (fun _ _ _ _ _ _ _ _ _ _ _ _ h => absurd h Bool.false_ne_true)) 0 xlo0 [] [] 0 0 ([], []) run_5 s.heap [] (xρ b) (fun _ => 0) ls ⟨⟨Nat.le_refl _, fun _ _ => rfl⟩, fun _ _ _ _ h => (by cases h), hP0, hD0, va_S.rf, hl, hsat⟩
  · have CB : Cx 6 chk0 (xσ xs) D l xlaw p e s m #[Value.ref b] below meth c (fun q => s.heap.size ≤ q) (lw_Z below #[Value.ref b] s) xfin0 0 (xρ b) := law_Cx hL C0 hK pL_ok (fun _ _ _ _ _ _ _ _ _ _ _ _ h => absurd h Bool.false_ne_true)
    refine xex_ok (xσ_50 xs) 1300 xlawA p e s m _ below meth c _ _ xfin0 0 (xρ b) (law_Cx hL C0 hK pLA_ok (fun pc lo sk w cs ss fa H locs ρ γ ls hc V => ?_)) 0 xlo0 [] [] 0 0 ([], []) run_A s.heap [] (xρ b) (fun _ => 0) ls ⟨⟨Nat.le_refl _, fun _ _ => rfl⟩, fun _ _ _ _ h => (by cases h), hP0, hD0, va_S.rf, hl, hsat⟩
    unfold chkA at hc
    rw [Bool.and_eq_true, Bool.and_eq_true, Bool.and_eq_true, Bool.and_eq_true, Bool.and_eq_true] at hc
    obtain ⟨c1, c2, c3, c4, c5, c6⟩ := hc
    have c1 := Nat.eq_of_beq_eq_true c1
    have c2 := xeL_ok (xeP_ok xeV_ok) c2
    have c3 := xeL_ok xeV_ok c3
    have c4 := xeL_ok xeC_ok c4
    have c5 := Nat.eq_of_beq_eq_true c5
    have c6 := Nat.eq_of_beq_eq_true c6
    subst c1
    subst c2
    subst c3
    subst c4
    subst c5
    subst c6
    exact law_six CB V
