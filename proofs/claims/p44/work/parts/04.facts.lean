theorem i32_of (x : Int32) : Int32.ofInt x.toInt = x := Int32.ofInt_toInt x
theorem i64_of (x : Int64) : Int64.ofInt x.toInt = x := Int64.ofInt_toInt x
theorem i32_in {z : Int} (h : xin z = true) : (Int32.ofInt z).toInt = z := by
  simp only [xin, Bool.and_eq_true, decide_eq_true_eq] at h
  rw [Int32.toInt_ofInt]
  rw [Int.bmod_eq_iff (by decide)]
  refine ⟨?_, ?_, ?_⟩ <;> first | omega | (simp [Int32.size]; omega) | simp [Int32.size]
theorem i32_bd (x : Int32) : -2147483648 ≤ x.toInt ∧ x.toInt ≤ 2147483647 := by
  have h1 := Int32.le_toInt x
  have h2 := Int32.toInt_lt x
  constructor <;> omega
theorem xr0_ok {σ : Nat → Int32} (k : Nat) : ∀ (fs : List (Nat × xG)), (∀ q ∈ fs, q.2.1 ≤ (σ q.1).toInt ∧ (σ q.1).toInt ≤ q.2.2.1 ∧ ∀ n ∈ q.2.2.2, (σ q.1).toInt ≠ n) → (xr0 fs k).1 ≤ (σ k).toInt ∧ (σ k).toInt ≤ (xr0 fs k).2.1 ∧ ∀ n ∈ (xr0 fs k).2.2, (σ k).toInt ≠ n := by
  intro fs
  induction fs with
  | nil =>
    intro _
    exact ⟨(i32_bd _).1, (i32_bd _).2, fun n h => by cases h⟩
  | cons q t ih =>
    intro h
    obtain ⟨j, g⟩ := q
    cases hj : Nat.beq j k with
    | true =>
      have e : xr0 ((j, g) :: t) k = g := by simp [xr0, hj]
      have e2 : j = k := Nat.eq_of_beq_eq_true hj
      rw [e, ← e2]
      exact h _ List.mem_cons_self
    | false =>
      have e : xr0 ((j, g) :: t) k = xr0 t k := by simp [xr0, hj]
      rw [e]
      exact ih (fun q hq => h q (List.mem_cons_of_mem _ hq))
theorem xrR_ok {σ : Nat → Int32} (k : Nat) {fs : List (Nat × xG)} (hfs : ∀ q ∈ fs, q.2.1 ≤ (σ q.1).toInt ∧ (σ q.1).toInt ≤ q.2.2.1 ∧ ∀ n ∈ q.2.2.2, (σ q.1).toInt ≠ n) : ∀ (rs : List (Nat × Nat)) (g : xG), (∀ q ∈ rs, (σ q.1).toInt ≤ (σ q.2).toInt) → (g.1 ≤ (σ k).toInt ∧ (σ k).toInt ≤ g.2.1 ∧ ∀ n ∈ g.2.2, (σ k).toInt ≠ n) → (xrR fs rs k g).1 ≤ (σ k).toInt ∧ (σ k).toInt ≤ (xrR fs rs k g).2.1 ∧ ∀ n ∈ (xrR fs rs k g).2.2, (σ k).toInt ≠ n := by
  intro rs
  induction rs with
  | nil => intro g _ hg; exact hg
  | cons q t ih =>
    intro g hr hg
    obtain ⟨a, b⟩ := q
    have hab : (σ a).toInt ≤ (σ b).toInt := hr (a, b) List.mem_cons_self
    unfold xrR
    refine ih _ (fun q hq => hr q (List.mem_cons_of_mem _ hq)) ?_
    cases ha : Nat.beq a k with
    | true =>
      have e2 : a = k := Nat.eq_of_beq_eq_true ha
      have hb := xr0_ok (σ := σ) b fs hfs
      refine ⟨hg.1, ?_, hg.2.2⟩
      show _ ≤ (if _ then _ else _)
      rw [← e2] at hg ⊢
      split <;> omega
    | false =>
      dsimp only
      cases hb : Nat.beq b k with
      | true =>
        have e2 : b = k := Nat.eq_of_beq_eq_true hb
        have ha := xr0_ok (σ := σ) a fs hfs
        refine ⟨?_, hg.2.1, hg.2.2⟩
        show (if _ then _ else _) ≤ _
        rw [← e2] at hg ⊢
        split <;> omega
      | false => exact hg
theorem xr_ok {σ : Nat → Int32} {fa : xFa} (h : sat σ fa) (k : Nat) : (xr fa k).1 ≤ (σ k).toInt ∧ (σ k).toInt ≤ (xr fa k).2.1 ∧ ∀ n ∈ (xr fa k).2.2, (σ k).toInt ≠ n := xrR_ok k h.1 fa.2 _ h.2 (xr0_ok k fa.1 h.1)
theorem xmZ_ok (z : Int) : ∀ l : List Int, xmZ l z = true → z ∈ l := by
  intro l
  induction l with
  | nil => intro h; cases h
  | cons a t ih =>
    intro h
    unfold xmZ at h
    by_cases e : a = z
    · rw [e]; exact List.mem_cons_self
    · rw [decide_eq_false e] at h
      exact List.mem_cons_of_mem _ (ih h)
theorem xup_ok {nes : List Int} {lo x : Int} (h : lo ≤ x) (hn : ∀ n ∈ nes, x ≠ n) : xup nes lo ≤ x := by
  unfold xup
  cases e : xmZ nes lo with
  | true =>
    have := hn lo (xmZ_ok lo nes e)
    show lo + 1 ≤ x
    omega
  | false => exact h
theorem xdn_ok {nes : List Int} {hi x : Int} (h : x ≤ hi) (hn : ∀ n ∈ nes, x ≠ n) : x ≤ xdn nes hi := by
  unfold xdn
  cases e : xmZ nes hi with
  | true =>
    have := hn hi (xmZ_ok hi nes e)
    show x ≤ hi - 1
    omega
  | false => exact h
theorem xset_ok {σ : Nat → Int32} {fa : xFa} {k : Nat} {lo hi : Int} {nes : List Int} {K : xFa → Bool} (h : xset fa k lo hi nes K = true) (hs : sat σ fa) (h1 : lo ≤ (σ k).toInt) (h2 : (σ k).toInt ≤ hi) (h3 : ∀ n ∈ nes, (σ k).toInt ≠ n) : ∃ fa', sat σ fa' ∧ K fa' = true := by
  unfold xset at h
  rw [fZ_eq, fZ_eq] at h
  have a1 := xup_ok (xup_ok h1 h3) h3
  have a2 := xdn_ok (xdn_ok h2 h3) h3
  rw [decide_eq_false (by omega)] at h
  dsimp only at h
  refine ⟨((k, xup nes (xup nes lo), xdn nes (xdn nes hi), nes) :: fa.fst, fa.snd), ⟨fun q hq => ?_, hs.2⟩, h⟩
  rcases List.mem_cons.mp hq with e | e
  · rw [e]; exact ⟨a1, a2, h3⟩
  · exact hs.1 q e
theorem xrel_ok {j k : Nat} : ∀ l : List (Nat × Nat), xrel l j k = true → (j, k) ∈ l := by
  intro l
  induction l with
  | nil => intro h; cases h
  | cons q t ih =>
    obtain ⟨a, b⟩ := q
    intro h
    unfold xrel at h
    cases e : Nat.beq a j && Nat.beq b k with
    | true =>
      rw [Bool.and_eq_true] at e
      rw [Nat.eq_of_beq_eq_true e.1, Nat.eq_of_beq_eq_true e.2]
      exact List.mem_cons_self
    | false =>
      rw [e] at h
      exact List.mem_cons_of_mem _ (ih h)
def xpick (σ : Nat → Int32) (c : Prop) (KT KF : xFa → Bool) : Prop := (c → ∃ fa', sat σ fa' ∧ KT fa' = true) ∧ (¬ c → ∃ fa', sat σ fa' ∧ KF fa' = true)
theorem xpick_both {σ : Nat → Int32} {c : Prop} {fa : xFa} {KT KF : xFa → Bool} (hs : sat σ fa) (h : (KF fa && KT fa) = true) : xpick σ c KT KF := by
  rw [Bool.and_eq_true] at h
  exact ⟨fun _ => ⟨fa, hs, h.2⟩, fun _ => ⟨fa, hs, h.1⟩⟩
theorem blt100 {k : Nat} (h : Nat.blt k 100 = true) : k < 100 := Nat.le_of_ble_eq_true h
theorem dI_sym {σ : Nat → Int32} {k : Nat} {f : xF} (h : Nat.blt k 100 = true) : dI σ (.inr (k, f)) = σ k := by
  show (if k < 100 then σ k else f σ) = σ k
  rw [if_pos (blt100 h)]
theorem xltA_ok {σ : Nat → Int32} {fa : xFa} {k : Nat} {c : Int} {KT KF : xFa → Bool} (hs : sat σ fa) (h : xltA fa k c (xr fa k) KT KF = true) : xpick σ ((σ k).toInt < c) KT KF := by
  obtain ⟨g1, g2, g3⟩ := xr_ok hs k
  unfold xltA at h
  by_cases e : (xr fa k).2.1 < c
  · rw [decide_eq_true e] at h
    exact ⟨fun _ => ⟨fa, hs, h⟩, fun z => absurd (by omega) z⟩
  · rw [decide_eq_false e] at h
    dsimp only at h
    by_cases e2 : c ≤ (xr fa k).1
    · rw [decide_eq_true e2] at h
      exact ⟨fun z => absurd z (by omega), fun _ => ⟨fa, hs, h⟩⟩
    · rw [decide_eq_false e2] at h
      dsimp only at h
      rw [Bool.and_eq_true] at h
      exact ⟨fun z => xset_ok h.1 hs g1 (by omega) g3, fun z => xset_ok h.2 hs (by omega) g2 g3⟩
theorem xltB_ok {σ : Nat → Int32} {fa : xFa} {k : Nat} {c : Int} {KT KF : xFa → Bool} (hs : sat σ fa) (h : xltB fa k c (xr fa k) KT KF = true) : xpick σ (c < (σ k).toInt) KT KF := by
  obtain ⟨g1, g2, g3⟩ := xr_ok hs k
  unfold xltB at h
  by_cases e : c < (xr fa k).1
  · rw [decide_eq_true e] at h
    exact ⟨fun _ => ⟨fa, hs, h⟩, fun z => absurd (by omega) z⟩
  · rw [decide_eq_false e] at h
    dsimp only at h
    by_cases e2 : (xr fa k).2.1 ≤ c
    · rw [decide_eq_true e2] at h
      exact ⟨fun z => absurd z (by omega), fun _ => ⟨fa, hs, h⟩⟩
    · rw [decide_eq_false e2] at h
      dsimp only at h
      rw [Bool.and_eq_true] at h
      exact ⟨fun z => xset_ok h.2 hs (by omega) g2 g3, fun z => xset_ok h.1 hs g1 (by omega) g3⟩
theorem xlt_ok {σ : Nat → Int32} {a b : xI} {fa : xFa} {KT KF : xFa → Bool} (hs : sat σ fa) (h : xlt a b fa KT KF = true) : xpick σ (dI σ a < dI σ b) KT KF := by
  rcases a with x | ⟨k, f⟩ <;> rcases b with y | ⟨j, g⟩ <;> dsimp only [xlt] at h
  · rw [Bool.and_eq_true, Bool.and_eq_true] at h
    obtain ⟨h1, h2, h⟩ := h
    have e : dI σ (.inl x) < dI σ (.inl y) ↔ x < y := by
      rw [Int32.lt_iff_toInt_lt]
      show (Int32.ofInt x).toInt < (Int32.ofInt y).toInt ↔ _
      rw [i32_in h1, i32_in h2]
    by_cases e2 : x < y
    · rw [decide_eq_true e2] at h
      exact ⟨fun _ => ⟨fa, hs, h⟩, fun z => absurd (e.mpr e2) z⟩
    · rw [decide_eq_false e2] at h
      exact ⟨fun z => absurd (e.mp z) e2, fun _ => ⟨fa, hs, h⟩⟩
  · cases e : Nat.blt j 100 with
    | true =>
      rw [e] at h
      dsimp only at h
      rw [Bool.and_eq_true] at h
      have q := xltB_ok hs h.2
      rw [dI_sym e]
      have e3 : dI σ (.inl x) < σ j ↔ x < (σ j).toInt := by
        rw [Int32.lt_iff_toInt_lt]
        show (Int32.ofInt x).toInt < _ ↔ _
        rw [i32_in h.1]
      exact ⟨fun z => q.1 (e3.mp z), fun z => q.2 (fun y => z (e3.mpr y))⟩
    | false =>
      rw [e] at h
      exact xpick_both hs h
  · cases e : Nat.blt k 100 with
    | true =>
      rw [e] at h
      dsimp only at h
      rw [Bool.and_eq_true] at h
      have q := xltA_ok hs h.2
      rw [dI_sym e]
      have e3 : σ k < dI σ (.inl y) ↔ (σ k).toInt < y := by
        rw [Int32.lt_iff_toInt_lt]
        show _ < (Int32.ofInt y).toInt ↔ _
        rw [i32_in h.1]
      exact ⟨fun z => q.1 (e3.mp z), fun z => q.2 (fun y => z (e3.mpr y))⟩
    | false =>
      rw [e] at h
      exact xpick_both hs h
  · cases e : Nat.blt k 100 && Nat.blt j 100 with
    | true =>
      rw [e] at h
      dsimp only at h
      rw [Bool.and_eq_true] at e
      rw [dI_sym e.1, dI_sym e.2]
      cases e2 : Nat.beq k j with
      | true =>
        rw [e2] at h
        have e4 := Nat.eq_of_beq_eq_true e2
        subst e4
        exact ⟨fun z => absurd z (by rw [Int32.lt_iff_toInt_lt]; omega), fun _ => ⟨fa, hs, h⟩⟩
      | false =>
        rw [e2] at h
        dsimp only at h
        cases e3 : xrel fa.2 j k with
        | true =>
          rw [e3] at h
          have := hs.2 _ (xrel_ok _ e3)
          exact ⟨fun z => absurd z (by rw [Int32.lt_iff_toInt_lt]; dsimp only at this; omega), fun _ => ⟨fa, hs, h⟩⟩
        | false =>
          rw [e3] at h
          dsimp only at h
          rw [Bool.and_eq_true] at h
          refine ⟨fun z => ⟨(fa.1, (k, j) :: fa.2), ⟨hs.1, fun q hq => ?_⟩, h.2⟩, fun z => ⟨(fa.1, (j, k) :: fa.2), ⟨hs.1, fun q hq => ?_⟩, h.1⟩⟩
          · rcases List.mem_cons.mp hq with e5 | e5
            · rw [e5]; rw [Int32.lt_iff_toInt_lt] at z; dsimp only; omega
            · exact hs.2 q e5
          · rcases List.mem_cons.mp hq with e5 | e5
            · rw [e5]; rw [Int32.lt_iff_toInt_lt] at z; dsimp only; omega
            · exact hs.2 q e5
    | false =>
      rw [e] at h
      exact xpick_both hs h
theorem xeqA_ok {σ : Nat → Int32} {fa : xFa} {k : Nat} {c : Int} {KT KF : xFa → Bool} (hs : sat σ fa) (h : xeqA fa k c (xr fa k) KT KF = true) : xpick σ ((σ k).toInt = c) KT KF := by
  obtain ⟨g1, g2, g3⟩ := xr_ok hs k
  unfold xeqA at h
  cases e : (decide (c < (xr fa k).1) || (decide ((xr fa k).2.1 < c) || xmZ (xr fa k).2.2 c)) with
  | true =>
    rw [e] at h
    refine ⟨fun z => ?_, fun _ => ⟨fa, hs, h⟩⟩
    rw [Bool.or_eq_true, Bool.or_eq_true, decide_eq_true_eq, decide_eq_true_eq] at e
    rcases e with e | e | e
    · exact absurd g1 (by omega)
    · exact absurd g2 (by omega)
    · exact absurd z (g3 c (xmZ_ok c _ e))
  | false =>
    rw [e] at h
    dsimp only at h
    cases e2 : (decide ((xr fa k).1 = c) && decide ((xr fa k).2.1 = c)) with
    | true =>
      rw [e2] at h
      rw [Bool.and_eq_true, decide_eq_true_eq, decide_eq_true_eq] at e2
      exact ⟨fun _ => ⟨fa, hs, h⟩, fun z => absurd (by omega) z⟩
    | false =>
      rw [e2] at h
      dsimp only at h
      rw [Bool.and_eq_true] at h
      refine ⟨fun z => xset_ok h.1 hs (by omega) (by omega) g3, fun z => xset_ok h.2 hs g1 g2 (fun n hn => ?_)⟩
      rcases List.mem_cons.mp hn with e5 | e5
      · rw [e5]; exact z
      · exact g3 n e5
theorem i32_eq_iff (x y : Int32) : x = y ↔ x.toInt = y.toInt := Int32.toInt_inj.symm
theorem xeq_ok {σ : Nat → Int32} {a b : xI} {fa : xFa} {KT KF : xFa → Bool} (hs : sat σ fa) (h : xeq a b fa KT KF = true) : xpick σ (dI σ a = dI σ b) KT KF := by
  rcases a with x | ⟨k, f⟩ <;> rcases b with y | ⟨j, g⟩ <;> dsimp only [xeq] at h
  · rw [Bool.and_eq_true, Bool.and_eq_true] at h
    obtain ⟨h1, h2, h⟩ := h
    have e : dI σ (.inl x) = dI σ (.inl y) ↔ x = y := by
      rw [i32_eq_iff]
      show (Int32.ofInt x).toInt = (Int32.ofInt y).toInt ↔ _
      rw [i32_in h1, i32_in h2]
    by_cases e2 : x = y
    · rw [decide_eq_true e2] at h
      exact ⟨fun _ => ⟨fa, hs, h⟩, fun z => absurd (e.mpr e2) z⟩
    · rw [decide_eq_false e2] at h
      exact ⟨fun z => absurd (e.mp z) e2, fun _ => ⟨fa, hs, h⟩⟩
  · cases e : Nat.blt j 100 with
    | true =>
      rw [e] at h
      dsimp only at h
      rw [Bool.and_eq_true] at h
      have q := xeqA_ok hs h.2
      rw [dI_sym e]
      have e3 : dI σ (.inl x) = σ j ↔ (σ j).toInt = x := by
        rw [i32_eq_iff]
        show (Int32.ofInt x).toInt = _ ↔ _
        rw [i32_in h.1]
        exact eq_comm
      exact ⟨fun z => q.1 (e3.mp z), fun z => q.2 (fun y => z (e3.mpr y))⟩
    | false =>
      rw [e] at h
      exact xpick_both hs h
  · cases e : Nat.blt k 100 with
    | true =>
      rw [e] at h
      dsimp only at h
      rw [Bool.and_eq_true] at h
      have q := xeqA_ok hs h.2
      rw [dI_sym e]
      have e3 : σ k = dI σ (.inl y) ↔ (σ k).toInt = y := by
        rw [i32_eq_iff]
        show _ = (Int32.ofInt y).toInt ↔ _
        rw [i32_in h.1]
      exact ⟨fun z => q.1 (e3.mp z), fun z => q.2 (fun y => z (e3.mpr y))⟩
    | false =>
      rw [e] at h
      exact xpick_both hs h
  · cases e : Nat.blt k 100 && (Nat.blt j 100 && Nat.beq k j) with
    | true =>
      rw [e] at h
      rw [Bool.and_eq_true, Bool.and_eq_true] at e
      rw [dI_sym e.1, dI_sym e.2.1, Nat.eq_of_beq_eq_true e.2.2]
      exact ⟨fun _ => ⟨fa, hs, h⟩, fun z => absurd rfl z⟩
    | false =>
      rw [e] at h
      exact xpick_both hs h
theorem xcnL_ok {σ : Nat → Int32} {fa : xFa} {j : Nat} {g : xG} {k : xFa → xI → Bool} (hs : sat σ fa) (h2 : (σ j).toInt ≤ g.2.1) (h3 : ∀ n ∈ g.2.2, (σ j).toInt ≠ n) : ∀ (l : List Nat), xcnL fa j g k l = true → (∃ d ∈ l, (σ j).toInt = g.1 + d) → ∃ (fa' : xFa) (z : Int), sat σ fa' ∧ z = (σ j).toInt ∧ k fa' (.inl z) = true := by
  intro l
  induction l with
  | nil => intro _ h; obtain ⟨d, hd, _⟩ := h; cases hd
  | cons d t ih =>
    intro h hd
    unfold xcnL at h
    rw [Bool.and_eq_true] at h
    by_cases e : (σ j).toInt = g.1 + d
    · have h1 := h.1
      rw [decide_eq_false (by omega)] at h1
      dsimp only at h1
      obtain ⟨fa', a1, a2⟩ := xset_ok h1 hs (by omega) (by omega) h3
      rw [fZ_eq] at a2
      exact ⟨fa', _, a1, e.symm, a2⟩
    · refine ih h.2 ?_
      obtain ⟨d', hd', e'⟩ := hd
      rcases List.mem_cons.mp hd' with q | q
      · rw [q] at e'; exact absurd e' e
      · exact ⟨d', q, e'⟩
theorem xcn_ok {σ : Nat → Int32} {fa : xFa} {a : xI} {dflt : Bool} {k : xFa → xI → Bool} (hs : sat σ fa) (h : xcn a fa dflt k = true) : dflt = true ∨ ∃ (fa' : xFa) (z : Int), sat σ fa' ∧ dI σ (.inl z) = dI σ a ∧ k fa' (.inl z) = true := by
  rcases a with x | ⟨j, f⟩
  · exact Or.inl h
  · dsimp only [xcn] at h
    cases e : Nat.blt j 100 && decide ((xr fa j).2.1 - (xr fa j).1 ≤ 8) with
    | false => rw [e] at h; exact Or.inl h
    | true =>
      rw [e] at h
      dsimp only at h
      rw [Bool.and_eq_true, decide_eq_true_eq] at e
      obtain ⟨g1, g2, g3⟩ := xr_ok hs j
      obtain ⟨fa', z, b1, b2, b3⟩ := xcnL_ok hs g2 g3 _ h (by
        obtain ⟨d, hd⟩ : ∃ d : Nat, (σ j).toInt = (xr fa j).1 + d := ⟨((σ j).toInt - (xr fa j).1).toNat, by omega⟩
        refine ⟨d, ?_, hd⟩
        have : d ≤ 8 := by omega
        have hh : d = 0 ∨ d = 1 ∨ d = 2 ∨ d = 3 ∨ d = 4 ∨ d = 5 ∨ d = 6 ∨ d = 7 ∨ d = 8 := by omega
        rcases hh with rfl | rfl | rfl | rfl | rfl | rfl | rfl | rfl | rfl <;> simp)
      refine Or.inr ⟨fa', z, b1, ?_, b3⟩
      rw [dI_sym e.1, b2]
      exact i32_of _
theorem shl0 (y : Int32) : (0 : Int32) <<< (y &&& 31) = 0 := by
  apply Int32.toBitVec_inj.mp
  simp
theorem shr0 (y : Int32) : (0 : Int32) >>> (y &&& 31) = 0 := by
  apply Int32.toBitVec_inj.mp
  simp
theorem xopS_ok {σ : Nat → Int32} (hσ : σ 50 = σ 0 &&& 63) {o : Nat} {a b v : xI} (h : xopS o a b = some v) : dI σ v = xop o (dI σ a) (dI σ b) := by
  have z0 : Int32.ofInt 0 = 0 := by decide
  rcases a with x | ⟨k, f⟩ <;> rcases b with y | ⟨j, g⟩ <;> dsimp only [xopS] at h
  · cases h
    exact i32_of _
  · by_cases e : x = 0
    · rw [decide_eq_true e] at h
      subst e
      show _ = xop o (Int32.ofInt 0) _
      rw [z0]
      match o, h with
      | 0, h => cases h; show _ = (0 : Int32) + _; rw [Int32.zero_add]
      | 2, h => cases h; show Int32.ofInt 0 = (0 : Int32) * _; rw [Int32.zero_mul, z0]
      | 3, h => cases h; show Int32.ofInt 0 = (0 : Int32) &&& _; rw [Int32.zero_and, z0]
      | 6, h => cases h; show Int32.ofInt 0 = (0 : Int32) <<< _; rw [shl0, z0]
      | 7, h => cases h; show Int32.ofInt 0 = (0 : Int32) >>> _; rw [shr0, z0]
    · rw [decide_eq_false e] at h
      cases h
  · match o, h with
    | 0, h =>
      try dsimp only at h
      by_cases e : y = 0
      · rw [decide_eq_true e] at h
        cases h
        subst e
        show _ = _ + Int32.ofInt 0
        rw [z0, Int32.add_zero]
      · rw [decide_eq_false e] at h; cases h
    | 1, h =>
      try dsimp only at h
      by_cases e : y = 0
      · rw [decide_eq_true e] at h
        cases h
        subst e
        show _ = _ - Int32.ofInt 0
        rw [z0, Int32.sub_zero]
      · rw [decide_eq_false e] at h; cases h
    | 2, h =>
      try dsimp only at h
      by_cases e : y = 0
      · rw [decide_eq_true e] at h
        cases h
        subst e
        show Int32.ofInt 0 = _ * Int32.ofInt 0
        rw [z0, Int32.mul_zero]
      · rw [decide_eq_false e] at h; cases h
    | 3, h =>
      try dsimp only at h
      cases e : Nat.beq k 0 && decide (y = 63) with
      | true =>
        rw [e] at h
        cases h
        rw [Bool.and_eq_true, decide_eq_true_eq] at e
        rw [e.2]
        have e1 : k = 0 := Nat.eq_of_beq_eq_true e.1
        rw [e1, dI_sym (k := 0) rfl, dI_sym (k := 50) rfl, hσ]
        rfl
      | false => rw [e] at h; cases h
  · cases h
