/-! The pile of a rule that is read: what stands on it, how high it can be. -/
def kTop (t w s : Int) (nb B : Nat) : Option (Nat × Nat) := match decide (w = 7) with
  | true => some (nb + 1, B)
  | false => match decide (w = 3) with
    | true => match decide (s = 126) with
      | true => some (nb + 1, B)
      | false => none
    | false => match decide (1 ≤ w) && (decide (w ≤ 6) && ((decide (7 ≤ t) || decide (t < w)) && (!(decide (s = 126)) && !(decide (97 ≤ s) && decide (s ≤ 122))))) with
      | true => some (nb, B + 1)
      | false => none
def kPl (w s : Nat → Int32) : Nat → Option (Nat × Nat)
  | 0 => some (0, 0)
  | 1 => match decide ((w 0).toInt = 8) with
    | true => some (0, 0)
    | false => none
  | p + 2 => match kPl w s (p + 1) with
    | some q => kTop (w p).toInt (w (p + 1)).toInt (s (p + 1)).toInt q.1 q.2
    | none => none
def kGg (w : Int) : Int := match decide (w ≤ 6) with
  | true => w
  | false => 0
theorem kTop_ok {t w s : Int} {nb B nb2 B2 : Nat} (h : kTop t w s nb B = some (nb2, B2)) : (w = 7 ∧ nb2 = nb + 1 ∧ B2 = B) ∨ (w = 3 ∧ s = 126 ∧ nb2 = nb + 1 ∧ B2 = B) ∨ (1 ≤ w ∧ w ≤ 6 ∧ w ≠ 3 ∧ (7 ≤ t ∨ t < w) ∧ s ≠ 126 ∧ ¬ (97 ≤ s ∧ s ≤ 122) ∧ nb2 = nb ∧ B2 = B + 1) := by
  unfold kTop at h
  by_cases e1 : w = 7
  · rw [decide_eq_true e1] at h
    cases h
    exact Or.inl ⟨e1, rfl, rfl⟩
  · rw [decide_eq_false e1] at h
    dsimp only at h
    by_cases e2 : w = 3
    · rw [decide_eq_true e2] at h
      dsimp only at h
      by_cases e3 : s = 126
      · rw [decide_eq_true e3] at h
        cases h
        exact Or.inr (Or.inl ⟨e2, e3, rfl, rfl⟩)
      · rw [decide_eq_false e3] at h
        cases h
    · rw [decide_eq_false e2] at h
      dsimp only at h
      split at h
      · rename_i e3
        cases h
        simp only [Bool.and_eq_true, Bool.or_eq_true, decide_eq_true_eq, Bool.not_eq_true', decide_eq_false_iff_not, Bool.and_eq_false_iff] at e3
        obtain ⟨a1, a2, a3, a4, a5⟩ := e3
        exact Or.inr (Or.inr ⟨a1, a2, e2, a3, a4, fun z => by rcases a5 with q | q <;> omega, rfl, rfl⟩)
      · cases h
theorem kTop_7 {t s : Int} {nb B : Nat} : kTop t 7 s nb B = some (nb + 1, B) := rfl
theorem kTop_3 {t : Int} {nb B : Nat} : kTop t 3 126 nb B = some (nb + 1, B) := rfl
theorem kTop_b {t w s : Int} {nb B : Nat} (h1 : 1 ≤ w) (h2 : w ≤ 6) (h3 : w ≠ 3) (h4 : 7 ≤ t ∨ t < w) (h5 : s ≠ 126) (h6 : ¬ (97 ≤ s ∧ s ≤ 122)) : kTop t w s nb B = some (nb, B + 1) := by
  unfold kTop
  rw [decide_eq_false (show ¬ w = 7 by omega), decide_eq_false h3]
  dsimp only
  have e : (decide (1 ≤ w) && (decide (w ≤ 6) && ((decide (7 ≤ t) || decide (t < w)) && (!(decide (s = 126)) && !(decide (97 ≤ s) && decide (s ≤ 122)))))) = true := by
    simp only [Bool.and_eq_true, Bool.or_eq_true, decide_eq_true_eq, Bool.not_eq_true', decide_eq_false_iff_not, Bool.and_eq_false_iff]
    refine ⟨h1, h2, h4, h5, ?_⟩
    by_cases q : 97 ≤ s
    · exact Or.inr (fun z => h6 ⟨q, z⟩)
    · exact Or.inl q
  rw [e]
theorem kPl_pop {w s : Nat → Int32} {p nb2 B2 : Nat} (h : kPl w s (p + 2) = some (nb2, B2)) : ∃ nb B, kPl w s (p + 1) = some (nb, B) ∧ kTop (w p).toInt (w (p + 1)).toInt (s (p + 1)).toInt nb B = some (nb2, B2) := by
  unfold kPl at h
  split at h
  · rename_i q e
    exact ⟨q.1, q.2, e, h⟩
  · cases h
theorem kPl_ext {w s w2 s2 : Nat → Int32} : ∀ p : Nat, (∀ j, j < p → w2 j = w j ∧ s2 j = s j) → kPl w2 s2 p = kPl w s p := by
  intro p
  induction p with
  | zero => intro _; rfl
  | succ p ih =>
    intro h
    cases p with
    | zero =>
      show (match decide ((w2 0).toInt = 8) with | true => some (0, 0) | false => none) = (match decide ((w 0).toInt = 8) with | true => some (0, 0) | false => none)
      rw [(h 0 (by omega)).1]
    | succ p =>
      have i := ih (fun j hj => h j (by omega))
      show (match kPl w2 s2 (p + 1) with | some q => kTop (w2 p).toInt (w2 (p + 1)).toInt (s2 (p + 1)).toInt q.1 q.2 | none => none) = (match kPl w s (p + 1) with | some q => kTop (w p).toInt (w (p + 1)).toInt (s (p + 1)).toInt q.1 q.2 | none => none)
      rw [i, (h p (by omega)).1, (h (p + 1) (by omega)).1, (h (p + 1) (by omega)).2]
theorem kPl_push {w s : Nat → Int32} {p nb B : Nat} (h : kPl w s (p + 1) = some (nb, B)) (x y : Int32) : kPl (upd w (p + 1) x) (upd s (p + 1) y) (p + 2) = kTop (w p).toInt x.toInt y.toInt nb B := by
  have e : kPl (upd w (p + 1) x) (upd s (p + 1) y) (p + 1) = some (nb, B) := by
    rw [kPl_ext (w := w) (s := s) (p + 1) (fun j hj => by
      unfold upd
      rw [if_neg (by omega), if_neg (by omega)]
      exact ⟨rfl, rfl⟩)]
    exact h
  show (match kPl (upd w (p + 1) x) (upd s (p + 1) y) (p + 1) with | some q => kTop (upd w (p + 1) x p).toInt (upd w (p + 1) x (p + 1)).toInt (upd s (p + 1) y (p + 1)).toInt q.1 q.2 | none => none) = _
  rw [e]
  have e1 : upd w (p + 1) x p = w p := by unfold upd; rw [if_neg (by omega)]
  have e2 : upd w (p + 1) x (p + 1) = x := by unfold upd; rw [if_pos rfl]
  have e3 : upd s (p + 1) y (p + 1) = y := by unfold upd; rw [if_pos rfl]
  rw [e1, e2, e3]
theorem kPl_bd {w s : Nat → Int32} : ∀ (p nb B : Nat), kPl w s (p + 1) = some (nb, B) → 1 ≤ (w p).toInt ∧ (w p).toInt ≤ 8 ∧ (p : Int) ≤ 7 * nb + kGg (w p).toInt ∧ B ≤ p ∧ nb + B = p ∧ ((w p).toInt = 8 → p = 0) ∧ (p = 0 → (w p).toInt = 8) := by
  intro p
  induction p with
  | zero =>
    intro nb B h
    have h : (match decide ((w 0).toInt = 8) with | true => some (0, 0) | false => none) = some (nb, B) := h
    by_cases e : (w 0).toInt = 8
    · rw [decide_eq_true e] at h
      cases h
      rw [e]
      exact ⟨by decide, by decide, by decide, Nat.le_refl _, rfl, fun _ => rfl, fun _ => rfl⟩
    · rw [decide_eq_false e] at h
      cases h
  | succ p ih =>
    intro nb2 B2 h
    obtain ⟨nb, B, h1, h2⟩ := kPl_pop h
    obtain ⟨i1, i2, i3, i4, i5, i6, i7⟩ := ih nb B h1
    have g0 : kGg (w p).toInt ≤ 6 := by
      unfold kGg
      by_cases e : (w p).toInt ≤ 6
      · rw [decide_eq_true e]; exact e
      · rw [decide_eq_false e]; exact (show (0 : Int) ≤ 6 by decide)
    rcases kTop_ok h2 with ⟨a1, a2, a3⟩ | ⟨a1, a2, a3, a4⟩ | ⟨a1, a2, a3, a4, a5, a6, a7, a8⟩
    · rw [a1]
      have : kGg 7 = 0 := rfl
      rw [this]
      refine ⟨by decide, by decide, by push_cast; omega, by omega, by omega, fun z => by omega, fun z => by omega⟩
    · rw [a1]
      have : kGg 3 = 3 := rfl
      rw [this]
      refine ⟨by decide, by decide, by push_cast; omega, by omega, by omega, fun z => by omega, fun z => by omega⟩
    · have g2 : kGg (w (p + 1)).toInt = (w (p + 1)).toInt := by unfold kGg; rw [decide_eq_true a2]
      rw [g2]
      have g3 : kGg (w p).toInt + 1 ≤ (w (p + 1)).toInt := by
        unfold kGg
        by_cases e : (w p).toInt ≤ 6
        · rw [decide_eq_true e]
          dsimp only
          omega
        · rw [decide_eq_false e]
          dsimp only
          omega
      refine ⟨a1, by omega, by push_cast; omega, by omega, by omega, fun z => by omega, fun z => by omega⟩
theorem kGg6 (w : Int) : kGg w ≤ 6 := by
  unfold kGg
  by_cases e : w ≤ 6
  · rw [decide_eq_true e]; exact e
  · rw [decide_eq_false e]; exact (show (0 : Int) ≤ 6 by decide)
theorem kPl_le {w s : Nat → Int32} {p nb B : Nat} (h : kPl w s p = some (nb, B)) (hn : nb ≤ 7) : p ≤ 56 := by
  cases p with
  | zero => omega
  | succ p =>
    obtain ⟨-, -, h3, -⟩ := kPl_bd p nb B h
    have := kGg6 (w p).toInt
    omega
-- the code
theorem kRun_ext {f g : Nat → Int32} : ∀ (n k d : Nat), (∀ j, k ≤ j → j < k + n → g j = f j) → kRun g n k d = kRun f n k d := by
  intro n
  induction n with
  | zero => intro k d _; rfl
  | succ n ih =>
    intro k d h
    show (match kOne (g k) d with | some e => kRun g n (k + 1) e | none => none) = (match kOne (f k) d with | some e => kRun f n (k + 1) e | none => none)
    rw [h k (Nat.le_refl _) (by omega)]
    cases kOne (f k) d with
    | none => rfl
    | some e => exact ih (k + 1) e (fun j h1 h2 => h j (by omega) (by omega))
theorem kRun_snoc {f : Nat → Int32} : ∀ (n k d e : Nat), kRun f n k d = some e → kRun f (n + 1) k d = kOne (f (k + n)) e := by
  intro n
  induction n with
  | zero =>
    intro k d e h
    cases h
    show (match kOne (f k) d with | some e => some e | none => none) = kOne (f (k + 0)) d
    rw [Nat.add_zero]
    cases kOne (f k) d <;> rfl
  | succ n ih =>
    intro k d e h
    obtain ⟨d2, h1, h2⟩ := kRun_one h
    have i := ih (k + 1) d2 e h2
    show (match kOne (f k) d with | some e => kRun f (n + 1) (k + 1) e | none => none) = _
    rw [h1]
    dsimp only
    rw [i]
    congr 2
    omega
theorem kRun_emit {f : Nat → Int32} {k0 k d e : Nat} (hk : k0 ≤ k) (h : kRun f (k - k0) k0 0 = some d) {x : Int32} (hx : kOne x d = some e) : kRun (upd f k x) (k + 1 - k0) k0 0 = some e := by
  have h2 : kRun (upd f k x) (k - k0) k0 0 = some d := by
    rw [kRun_ext (f := f) (k - k0) k0 0 (fun j h1 h2 => by unfold upd; rw [if_neg (by omega)])]
    exact h
  have h3 := kRun_snoc (k - k0) k0 0 d h2
  have e1 : k + 1 - k0 = k - k0 + 1 := by omega
  have e2 : k0 + (k - k0) = k := by omega
  rw [e1, h3, e2]
  have e3 : upd f k x k = x := by unfold upd; rw [if_pos rfl]
  rw [e3]
  exact hx
theorem kOne_not {x : Int32} {d : Nat} (hx : x.toInt = 126) : kOne x (d + 1) = some (d + 1) := by
  unfold kOne
  rw [decide_eq_true hx]
theorem kOne_let {x : Int32} {d : Nat} (h1 : 97 ≤ x.toInt) (h2 : x.toInt ≤ 122) (hd : d < 60) : kOne x d = some (d + 1) := by
  unfold kOne kLet
  rw [decide_eq_false (show ¬ x.toInt = 126 by omega), decide_eq_true h1, decide_eq_true h2]
  rw [decide_eq_true hd]
  rfl
theorem kOne_op {x : Int32} {d : Nat} (h1 : x.toInt ≠ 126) (h2 : ¬ (97 ≤ x.toInt ∧ x.toInt ≤ 122)) : kOne x (d + 2) = some (d + 1) := by
  unfold kOne kLet
  rw [decide_eq_false h1]
  dsimp only
  have e : (decide (97 ≤ x.toInt) && decide (x.toInt ≤ 122)) = false := by
    rw [Bool.and_eq_false_iff]
    by_cases q : 97 ≤ x.toInt
    · exact Or.inr (decide_eq_false (fun z => h2 ⟨q, z⟩))
    · exact Or.inl (decide_eq_false q)
  rw [e]
/-- it can be run, and the rest of the code is as it was -/
noncomputable def kRn (g f : Nat → Int32) (n k d : Nat) : Option Nat := haveI := Classical.propDecidable (∀ j, (j < k ∨ k + n ≤ j) → f j = g j); if ∀ j, (j < k ∨ k + n ≤ j) → f j = g j then kRun f n k d else none
theorem kRn_mk {g f : Nat → Int32} {n k d e : Nat} (h : kRun f n k d = some e) (h2 : ∀ j, (j < k ∨ k + n ≤ j) → f j = g j) : kRn g f n k d = some e := by
  unfold kRn
  rw [if_pos h2]
  exact h
theorem kRn_ok {g f : Nat → Int32} {n k d e : Nat} (h : kRn g f n k d = some e) : kRun f n k d = some e ∧ ∀ j, (j < k ∨ k + n ≤ j) → f j = g j := by
  unfold kRn at h
  split at h
  · rename_i h2
    exact ⟨h, h2⟩
  · cases h
theorem kRn_0 {f : Nat → Int32} {k d : Nat} : kRn f f (k - k) k d = some d := by
  rw [Nat.sub_self]
  exact kRn_mk rfl (fun _ _ => rfl)
theorem kRn_emit {g f : Nat → Int32} {k0 k d e : Nat} (hk : k0 ≤ k) (h : kRn g f (k - k0) k0 0 = some d) {x : Int32} (hx : kOne x d = some e) : kRn g (upd f k x) (k + 1 - k0) k0 0 = some e := by
  obtain ⟨h1, h2⟩ := kRn_ok h
  refine kRn_mk (kRun_emit hk h1 hx) (fun j hj => ?_)
  have hne : j ≠ k := by omega
  have e1 : upd f k x j = f j := by
    unfold upd
    first | rw [if_neg hne] | rw [if_neg (fun z => hne z.symm)]
  rw [e1]
  exact h2 j (by omega)
/-- while a rule is read: k0 its code's begin, wn whether a unit is wanted -/
def kJ (cg : Nat → Int32) (k0 : Nat) (wn : Bool) (es : va_W) : Prop := ∃ (b p nb B D u k : Nat), zfd es 56 35 = b ∧ b ≤ 1 ∧ zfd es 56 38 = p ∧ zfd es 56 37 = nb ∧ nb ≤ 7 ∧ zfd es 56 36 = k ∧ (zar es 61 b).toInt = u ∧ u ≤ 60 ∧ kPl (zar es 79) (zar es 80) p = some (nb, B) ∧ k0 ≤ k ∧ kRn cg (zar es 77) (k - k0) k0 0 = some D ∧ (wn = true → 1 ≤ p ∧ D = B ∧ k + p ≤ 560 * b + 9 * u + nb + 1) ∧ (wn = false → D = B + 1 ∧ k + p ≤ 560 * b + 9 * u)
