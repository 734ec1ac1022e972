theorem zAll_ok {α : Type} {p : α → Bool} : ∀ {l : List α}, zAll p l = true → ∀ a ∈ l, p a = true := by
  intro l
  induction l with
  | nil => intro _ a h; cases h
  | cons x t ih =>
    intro h a ha
    unfold zAll at h
    rw [Bool.and_eq_true] at h
    rcases List.mem_cons.mp ha with e | e
    · rw [e]; exact h.1
    · exact ih h.2 a e
theorem zcF_some {i k : Nat} {v : zV} : ∀ {ca : zCa}, zcF i k ca = some v → ((i, Sum.inl k), v) ∈ ca := by
  intro ca
  induction ca with
  | nil => intro h; cases h
  | cons q t ih =>
    obtain ⟨⟨j, f | ix⟩, u⟩ := q
    · intro h
      unfold zcF at h
      cases e : Nat.beq j i && Nat.beq f k with
      | true =>
        rw [e] at h
        cases h
        rw [Bool.and_eq_true] at e
        rw [Nat.eq_of_beq_eq_true e.1, Nat.eq_of_beq_eq_true e.2]
        exact List.mem_cons_self
      | false =>
        rw [e] at h
        exact List.mem_cons_of_mem _ (ih h)
    · intro h
      exact List.mem_cons_of_mem _ (ih h)
theorem zcF_none {i k : Nat} : ∀ {ca : zCa}, zcF i k ca = none → ¬ cF ca i k := by
  intro ca
  induction ca with
  | nil => intro _ h; obtain ⟨v, hv⟩ := h; cases hv
  | cons q t ih =>
    obtain ⟨⟨j, f | ix⟩, u⟩ := q
    · intro h hc
      unfold zcF at h
      cases e : Nat.beq j i && Nat.beq f k with
      | true => rw [e] at h; cases h
      | false =>
        rw [e] at h
        obtain ⟨v, hv⟩ := hc
        rcases List.mem_cons.mp hv with e2 | e2
        · cases e2
          rw [Nat.beq_refl, Nat.beq_refl] at e
          cases e
        · exact ih h ⟨v, e2⟩
    · intro h hc
      obtain ⟨v, hv⟩ := hc
      rcases List.mem_cons.mp hv with e2 | e2
      · cases e2
      · exact ih h ⟨v, e2⟩
theorem zcA_some {η : zE} {i : Nat} {ix : zI} {v : zV} : ∀ {ca : zCa}, zcA i ix ca = some v → ∃ x, ((i, Sum.inr x), v) ∈ ca ∧ zd η x = zd η ix := by
  intro ca
  induction ca with
  | nil => intro h; cases h
  | cons q t ih =>
    obtain ⟨⟨j, f | x⟩, u⟩ := q
    · intro h
      obtain ⟨x, h1, h2⟩ := ih h
      exact ⟨x, List.mem_cons_of_mem _ h1, h2⟩
    · intro h
      unfold zcA at h
      cases e : Nat.beq j i && zeB x ix with
      | true =>
        rw [e] at h
        cases h
        rw [Bool.and_eq_true] at e
        rw [Nat.eq_of_beq_eq_true e.1]
        exact ⟨x, List.mem_cons_self, zeB_ok e.2⟩
      | false =>
        rw [e] at h
        obtain ⟨x, h1, h2⟩ := ih h
        exact ⟨x, List.mem_cons_of_mem _ h1, h2⟩
theorem zmO_ok {c : Option Nat} : ∀ {cs : List (Option Nat)}, zmO cs c = true → c ∈ cs := by
  intro cs
  induction cs with
  | nil => intro h; cases h
  | cons a t ih =>
    intro h
    rcases a with _ | a
    · rcases c with _ | b
      · exact List.mem_cons_self
      · exact List.mem_cons_of_mem _ (ih h)
    · rcases c with _ | b
      · exact List.mem_cons_of_mem _ (ih h)
      · unfold zmO at h
        dsimp only at h
        cases e : Nat.beq a b with
        | true => rw [Nat.eq_of_beq_eq_true e]; exact List.mem_cons_self
        | false => rw [e] at h; exact List.mem_cons_of_mem _ (ih h)
theorem xmN_ok {b : Nat} : ∀ {l : List Nat}, xmN l b = true ↔ b ∈ l := by
  intro l
  induction l with
  | nil => exact ⟨fun h => (by cases h), fun h => (by cases h)⟩
  | cons a t ih =>
    unfold xmN
    cases e : Nat.beq a b with
    | true =>
      have := Nat.eq_of_beq_eq_true e
      subst this
      exact ⟨fun _ => List.mem_cons_self, fun _ => rfl⟩
    | false =>
      dsimp only
      constructor
      · exact fun h => List.mem_cons_of_mem _ (ih.mp h)
      · intro h
        rcases List.mem_cons.mp h with e2 | e2
        · subst e2
          rw [Nat.beq_refl] at e
          cases e
        · exact ih.mpr e2
-- ranges
theorem zhl_ok {x : Int} {q : Int × Int} : ∀ {l : List (Int × Int)}, q ∈ l → q.1 ≤ x → x ≤ q.2 → (zhl l).1 ≤ x ∧ x ≤ (zhl l).2 := by
  intro l
  induction l with
  | nil => intro h; cases h
  | cons a t ih =>
    intro hq h1 h2
    cases t with
    | nil =>
      rcases List.mem_cons.mp hq with e | e
      · subst e; exact ⟨h1, h2⟩
      · cases e
    | cons b t =>
      show zmin a.1 (zhl (b :: t)).1 ≤ x ∧ x ≤ zmax a.2 (zhl (b :: t)).2
      unfold zmin zmax
      rcases List.mem_cons.mp hq with e | e
      · subst e
        constructor
        · by_cases h : q.1 ≤ (zhl (b :: t)).1
          · rw [decide_eq_true h]; exact h1
          · rw [decide_eq_false h]; dsimp only; omega
        · by_cases h : q.2 ≤ (zhl (b :: t)).2
          · rw [decide_eq_true h]; dsimp only; omega
          · rw [decide_eq_false h]; exact h2
      · obtain ⟨i1, i2⟩ := ih e h1 h2
        constructor
        · by_cases h : a.1 ≤ (zhl (b :: t)).1
          · rw [decide_eq_true h]; dsimp only; omega
          · rw [decide_eq_false h]; exact i1
        · by_cases h : a.2 ≤ (zhl (b :: t)).2
          · rw [decide_eq_true h]; exact i2
          · rw [decide_eq_false h]; dsimp only; omega
theorem zal_ok {a b : Int} : ∀ {l : List (Int × Int)}, zal a b l = true → ∀ q ∈ l, q.1 ≤ a ∧ b ≤ q.2 := by
  intro l
  induction l with
  | nil => intro _ q h; cases h
  | cons x t ih =>
    intro h q hq
    unfold zal at h
    rw [Bool.and_eq_true, Bool.and_eq_true, decide_eq_true_eq, decide_eq_true_eq] at h
    rcases List.mem_cons.mp hq with e | e
    · rw [e]; exact ⟨h.1, h.2.1⟩
    · exact ih h.2.2 q e
theorem zcvL_ok {rs : List (Int × Int)} : ∀ (n j k : Nat), j ≤ k → k < j + n → zrj rs k ∈ zcvL rs n j := by
  intro n
  induction n with
  | zero => intro j k h1 h2; omega
  | succ n ih =>
    intro j k h1 h2
    unfold zcvL
    by_cases e : j = k
    · subst e; exact List.mem_cons_self
    · exact List.mem_cons_of_mem _ (ih (j + 1) k (by omega) (by omega))
theorem zrj_mem {rs : List (Int × Int)} (h : rs ≠ []) (j : Nat) : zrj rs j ∈ rs := by
  unfold zrj
  have hl : j % rs.length < rs.length := Nat.mod_lt _ (List.length_pos_iff.mpr h)
  rw [gt_eq, List.getElem?_eq_getElem hl]
  exact List.getElem_mem hl
theorem zcov_ok {η : zE} {fa : zFa} (hs : zsat η fa) (rs : List (Int × Int)) {ix : zI} (h0 : 0 ≤ zd η ix) : zrj rs (zd η ix).toNat ∈ zcov fa rs ix := by
  match rs with
  | [] =>
    show zrj [] _ ∈ [zfull]
    have e : zrj [] (zd η ix).toNat = zfull := rfl
    rw [e]; exact List.mem_cons_self
  | [q] =>
    show zrj [q] _ ∈ [q]
    exact zrj_mem (by simp) _
  | q1 :: q2 :: t =>
    unfold zcov
    dsimp only
    rcases ix with z | ⟨k, m, c⟩
    · exact List.mem_cons_self
    · dsimp only
      cases e : decide (m % 25 = 0) && (Nat.beq (q1 :: q2 :: t).length 25 && decide (0 ≤ c)) with
      | true =>
        rw [Bool.and_eq_true, Bool.and_eq_true, decide_eq_true_eq, decide_eq_true_eq] at e
        obtain ⟨e1, e2, e3⟩ := e
        have e2 := Nat.eq_of_beq_eq_true e2
        have e4 : (zd η (.inr (k, m, c))).toNat % 25 = c.toNat % 25 := by
          have h5 : zd η (.inr (k, m, c)) = m * η k + c := rfl
          have h6 : m = 25 * (m / 25) := by omega
          have h7 : m * η k = 25 * (m / 25 * η k) := by
            rw [← Int.mul_assoc, ← h6]
          rw [h5, h7] at h0 ⊢
          omega
        have e5 : zrj (q1 :: q2 :: t) (zd η (.inr (k, m, c))).toNat = zrj (q1 :: q2 :: t) c.toNat := by
          unfold zrj
          rw [e2, e4]
        rw [e5]
        exact List.mem_cons_self
      | false =>
        dsimp only
        by_cases e2 : (zrg fa (.inr (k, m, c))).2 - (zrg fa (.inr (k, m, c))).1 ≤ 30
        · rw [decide_eq_true e2]
          have hr := zrg_ok hs (.inr (k, m, c))
          exact zcvL_ok _ _ _ (by omega) (by omega)
        · rw [decide_eq_false e2]
          exact zrj_mem (by simp) _
-- one entry more
theorem zcH.add {ρ : Nat → Nat} {η : zE} {ca : zCa} {es : va_W} {q : (Nat × zKy) × zV} (h : zcH ρ η ca es) (hq : zat η es q.1 = some (zv ρ η q.2) ∧ ∀ ix, q.1.2 = .inr ix → 0 ≤ zd η ix) : zcH ρ η (q :: ca) es := fun x hx => by
  rcases List.mem_cons.mp hx with e | e
  · rw [e]; exact hq
  · exact h x e
theorem zCo.add {T : zTb} {ρ : Nat → Nat} {γ : Nat → ClassId} {η : zE} {ca : zCa} {es : va_W} {q : (Nat × zKy) × zV} (C : zCo T ρ γ η ca es) (hq : zat η es q.1 = some (zv ρ η q.2) ∧ ∀ ix, q.1.2 = .inr ix → 0 ≤ zd η ix) : zCo T ρ γ η (q :: ca) es := by
  refine ⟨fun i ty n rs hi ht => ?_, C.2.1, fun i ci fs hi => ?_, fun x hx => ?_, C.2.2.2.2.add hq⟩
  · obtain ⟨f, h1, h2⟩ := C.1 i ty n rs hi ht
    exact ⟨f, h1, fun j hj => (h2 j hj).imp (fun ⟨ix, v, a, b⟩ => ⟨ix, v, List.mem_cons_of_mem _ a, b⟩) id⟩
  · obtain ⟨vs, h1, h2, h3⟩ := C.2.2.1 i ci fs hi
    exact ⟨vs, h1, h2, fun k f v a b => (h3 k f v a b).imp (fun ⟨v, a⟩ => ⟨v, List.mem_cons_of_mem _ a⟩) id⟩
  · exact (C.2.2.2.1 x hx).imp (fun ⟨v, a⟩ => ⟨v, List.mem_cons_of_mem _ a⟩) (fun h => h.imp (fun ⟨v, a⟩ => ⟨v, List.mem_cons_of_mem _ a⟩) id)
/-- what is cached there is as declared: a field -/
theorem zf1_F {T : zTb} {ρ : Nat → Nat} {η : zE} {fa : zFa} (hs : zsat η fa) {i ci k : Nat} {fs : List zF} {f : zF} {v : zV} (hd : T.2.1[i]? = some (.inr (ci, fs))) (hf : fs[k]? = some f) (h : zf1 T.2.1 fa ((i, .inl k), v) = true) : okf ρ f (zv ρ η v) := by
  unfold zf1 at h
  dsimp only at h
  rw [gt_eq, hd] at h
  dsimp only at h
  rw [gt_eq, hf] at h
  rcases f with ⟨a, b⟩ | cs | u
  · dsimp only at h
    split at h
    · rename_i x
      rw [zrk_eq, Bool.and_eq_true, Bool.and_eq_true, Bool.and_eq_true, decide_eq_true_eq, decide_eq_true_eq] at h
      obtain ⟨h1, h2, h3, h4⟩ := h
      simp only [xin, Bool.and_eq_true, decide_eq_true_eq] at h3 h4
      have hr := zrg_ok hs x
      refine ⟨zi η x, rfl, ?_⟩
      have e : (zi η x).toInt = zd η x := i32_big (by omega) (by omega)
      rw [e]
      constructor <;> dsimp only <;> omega
    · cases h
  · dsimp only at h
    split at h
    · rename_i c
      refine ⟨c, zmO_ok h, ?_⟩
      rcases c with _ | c <;> rfl
    · cases h
  · dsimp only at h
    split at h
    · rename_i x
      exact ⟨_, rfl⟩
    · cases h
/-- .. an element -/
theorem zf1_A {T : zTb} {ρ : Nat → Nat} {η : zE} {fa : zFa} (hs : zsat η fa) {i n : Nat} {ty : FieldType} {rs : List (Int × Int)} {ix : zI} {v : zV} {x : Int32} (hd : T.2.1[i]? = some (.inl (ty, n, rs))) (h0 : 0 ≤ zd η ix) (hx : Value.int x = zv ρ η v) (h : zf1 T.2.1 fa ((i, .inr ix), v) = true) : inR (zrj rs (zd η ix).toNat) x := by
  unfold zf1 at h
  dsimp only at h
  rw [gt_eq, hd] at h
  dsimp only at h
  split at h
  · rename_i y
    rw [zrk_eq, Bool.and_eq_true, Bool.and_eq_true] at h
    obtain ⟨h1, h2, h3⟩ := h
    simp only [xin, Bool.and_eq_true, decide_eq_true_eq] at h1 h2
    have hr := zrg_ok hs y
    have e : (zi η y).toInt = zd η y := i32_big (by omega) (by omega)
    have e2 : x = zi η y := by cases hx; rfl
    have := zal_ok h3 _ (zcov_ok hs rs h0)
    unfold inR
    rw [e2, e]
    constructor <;> omega
  · cases h
theorem zav_get {es : va_W} {i j n : Nat} {a : Nat} {cA : ClassId} {f : Nat → Int32} (h : es[i]? = some (a, .inl (cA, n, .inl f))) : zav es i j = some (.int (f j)) := by
  unfold zav
  rw [h]
theorem zfv_get {es : va_W} {i k ci : Nat} {a : Nat} {vs : List Value} (h : es[i]? = some (a, .inr (ci, vs))) : zfv es i k = vs[k]? := by
  unfold zfv
  rw [h]
/-- an array of which all that is cached is as declared: each element is -/
theorem zCo.arr {T : zTb} {ρ : Nat → Nat} {γ : Nat → ClassId} {η : zE} {ca : zCa} {es : va_W} {fa : zFa} (hs : zsat η fa) (C : zCo T ρ γ η ca es) {i n : Nat} {ty : FieldType} {rs : List (Int × Int)} (hd : T.2.1[i]? = some (.inl (ty, n, rs))) (ht : ty ≠ .long) (hfl : zflA T fa i ca = true) : ∃ f : Nat → Int32, es[i]? = some (ρ i, .inl (γ i, n, .inl f)) ∧ ∀ j, j < n → inR (zrj rs j) (f j) := by
  obtain ⟨f, h1, h2⟩ := C.1 i ty n rs hd ht
  refine ⟨f, h1, fun j hj => ?_⟩
  rcases h2 j hj with ⟨ix, v, hm, e⟩ | h
  · obtain ⟨h3, h4⟩ := C.2.2.2.2 _ hm
    have h5 := zAll_ok hfl _ hm
    rw [Bool.or_eq_true] at h5
    rcases h5 with h5 | h5
    · unfold znA at h5
      dsimp only at h5
      rw [Nat.beq_refl] at h5
      cases h5
    · have h6 : zav es i (zd η ix).toNat = some (zv ρ η v) := h3
      rw [zav_get h1] at h6
      have h7 := zf1_A (ρ := ρ) hs hd (h4 ix rfl) (Option.some.inj h6) h5
      rw [e] at h7
      exact h7
  · exact h
theorem zfil_F {ca : zCa} {i k : Nat} {p : (Nat × zKy) × zV → Bool} (hp : ∀ v, p ((i, .inl k), v) = true) (h : cF ca i k) : cF (ca.filter p) i k := by
  obtain ⟨v, hv⟩ := h
  exact ⟨v, List.mem_filter.mpr ⟨hv, hp v⟩⟩
theorem zfil_A {η : zE} {ca : zCa} {i j : Nat} {p : (Nat × zKy) × zV → Bool} (hp : ∀ ix v, p ((i, .inr ix), v) = true) (h : cA η ca i j) : cA η (ca.filter p) i j := by
  obtain ⟨ix, v, hv, e⟩ := h
  exact ⟨ix, v, List.mem_filter.mpr ⟨hv, hp ix v⟩, e⟩
/-- an array is written: its entries go, these come -/
theorem zCo.setA {T : zTb} {ρ : Nat → Nat} {γ : Nat → ClassId} {η : zE} {ca cx : zCa} {es : va_W} (C : zCo T ρ γ η ca es) {i n : Nat} {ty : FieldType} {rs : List (Int × Int)} (hd : T.2.1[i]? = some (.inl (ty, n, rs))) (ht : ty ≠ .long) {f : Nat → Int32} (hl : i < es.length) (hcx : ∀ q ∈ cx, q.1.1 = i ∧ ∃ ix, q.1.2 = .inr ix ∧ 0 ≤ zd η ix ∧ Value.int (f (zd η ix).toNat) = zv ρ η q.2) (hf : ∀ j, j < n → cA η cx i j ∨ inR (zrj rs j) (f j)) : zCo T ρ γ η (cx ++ ca.filter (znA i)) (es.set i (ρ i, .inl (γ i, n, .inl f))) := by
  have hget : (es.set i (ρ i, Sum.inl (γ i, n, Sum.inl f)))[i]? = some (ρ i, .inl (γ i, n, .inl f)) := by
    rw [List.getElem?_set, if_pos rfl, if_pos hl]
  have hoth : ∀ i2, i2 ≠ i → (es.set i (ρ i, Sum.inl (γ i, n, Sum.inl f)))[i2]? = es[i2]? := fun i2 h => by
    rw [List.getElem?_set, if_neg (fun z => h z.symm)]
  have hne : ∀ {i2 : Nat} {ci : Nat} {fs : List zF}, T.2.1[i2]? = some (.inr (ci, fs)) → i2 ≠ i := fun h z => by
    subst z
    rw [hd] at h
    cases h
  refine ⟨fun i2 ty2 n2 rs2 hi2 ht2 => ?_, fun i2 n2 rs2 hi2 => ?_, fun i2 ci fs hi2 => ?_, fun q hq => ?_, fun q hq => ?_⟩
  · by_cases e : i2 = i
    · subst e
      rw [hd] at hi2
      cases hi2
      refine ⟨f, hget, fun j hj => (hf j hj).imp (fun ⟨ix, v, a, b⟩ => ⟨ix, v, List.mem_append_left _ a, b⟩) id⟩
    · obtain ⟨g, h1, h2⟩ := C.1 i2 ty2 n2 rs2 hi2 ht2
      refine ⟨g, by rw [hoth i2 e]; exact h1, fun j hj => (h2 j hj).imp (fun h => ?_) id⟩
      obtain ⟨ix, v, a, b⟩ := zfil_A (p := znA i) (fun ix v => by
        unfold znA
        dsimp only
        cases e3 : Nat.beq i2 i with
        | true => exact absurd (Nat.eq_of_beq_eq_true e3) e
        | false => rfl) h
      exact ⟨ix, v, List.mem_append_right _ a, b⟩
  · obtain ⟨g, h1⟩ := C.2.1 i2 n2 rs2 hi2
    have e : i2 ≠ i := fun z => by
      subst z
      rw [hd] at hi2
      cases hi2
      exact ht rfl
    exact ⟨g, by rw [hoth i2 e]; exact h1⟩
  · obtain ⟨vs, h1, h2, h3⟩ := C.2.2.1 i2 ci fs hi2
    refine ⟨vs, by rw [hoth i2 (hne hi2)]; exact h1, h2, fun k g v a b => (h3 k g v a b).imp (fun h => ?_) id⟩
    obtain ⟨v, a⟩ := zfil_F (p := znA i) (fun v => rfl) h
    exact ⟨v, List.mem_append_right _ a⟩
  · have hk : ∀ {a b : Nat}, cF ca a b → cF (cx ++ ca.filter (znA i)) a b := fun h => by
      obtain ⟨v, a⟩ := zfil_F (p := znA i) (fun v => rfl) h
      exact ⟨v, List.mem_append_right _ a⟩
    have hz : ∀ {a b : Nat} {x : Int32}, zfv es a b = some (.int x) → zfv (es.set i (ρ i, Sum.inl (γ i, n, Sum.inl f))) a b = some (.int x) := fun {a b x} h => by
      by_cases e : a = i
      · subst e
        obtain ⟨g, h1, -⟩ := C.1 a ty n rs hd ht
        unfold zfv at h
        rw [h1] at h
        cases h
      · unfold zfv at h ⊢
        rw [hoth a e]
        exact h
    rcases C.2.2.2.1 q hq with h | h | ⟨x, y, h1, h2, h3⟩
    · exact Or.inl (hk h)
    · exact Or.inr (Or.inl (hk h))
    · exact Or.inr (Or.inr ⟨x, y, hz h1, hz h2, h3⟩)
  · rcases List.mem_append.mp hq with h | h
    · obtain ⟨h1, ix, h2, h3, h4⟩ := hcx q h
      obtain ⟨⟨a, b⟩, v⟩ := q
      dsimp only at h1 h2 h4
      subst h1
      subst h2
      refine ⟨?_, fun ix2 e => by cases e; exact h3⟩
      show zav _ a (zd η ix).toNat = some (zv ρ η v)
      rw [zav_get hget, h4]
    · obtain ⟨h1, h2⟩ := List.mem_filter.mp h
      obtain ⟨h3, h4⟩ := C.2.2.2.2 q h1
      refine ⟨?_, h4⟩
      rw [← h3]
      obtain ⟨⟨a, b | ix⟩, v⟩ := q
      · by_cases e : a = i
        · subst e
          obtain ⟨g, h9, -⟩ := C.1 a ty n rs hd ht
          have h8 : zfv es a b = some (zv ρ η v) := h3
          unfold zfv at h8
          rw [h9] at h8
          cases h8
        · show zfv _ a b = zfv es a b
          unfold zfv
          rw [hoth a e]
      · have e : a ≠ i := fun z => by
          subst z
          unfold znA at h2
          dsimp only at h2
          rw [Nat.beq_refl] at h2
          cases h2
        show zav _ a _ = zav es a _
        unfold zav
        rw [hoth a e]
/-- a field is written -/
theorem zCo.setF {T : zTb} {ρ : Nat → Nat} {γ : Nat → ClassId} {η : zE} {ca : zCa} {es : va_W} (C : zCo T ρ γ η ca es) {i ci k : Nat} {fs : List zF} {vs : List Value} {v : zV} (hd : T.2.1[i]? = some (.inr (ci, fs))) (hv : es[i]? = some (ρ i, .inr (ci, vs))) (hk : k < vs.length) : zCo T ρ γ η (((i, .inl k), v) :: ca.filter (znF i k)) (es.set i (ρ i, .inr (ci, vs.set k (zv ρ η v)))) := by
  have hl : i < es.length := (List.getElem?_eq_some_iff.mp hv).1
  have hget : (es.set i (ρ i, Sum.inr (ci, vs.set k (zv ρ η v))))[i]? = some (ρ i, .inr (ci, vs.set k (zv ρ η v))) := by
    rw [List.getElem?_set, if_pos rfl, if_pos hl]
  have hoth : ∀ i2, i2 ≠ i → (es.set i (ρ i, Sum.inr (ci, vs.set k (zv ρ η v))))[i2]? = es[i2]? := fun i2 h => by
    rw [List.getElem?_set, if_neg (fun z => h z.symm)]
  have hne : ∀ {i2 : Nat} {q : FieldType × Nat × List (Int × Int)}, T.2.1[i2]? = some (.inl q) → i2 ≠ i := fun h z => by
    subst z
    rw [hd] at h
    cases h
  have hnF : ∀ {a b : Nat} {u : zV}, ¬ (a = i ∧ b = k) → znF i k ((a, .inl b), u) = true := fun {a b u} h => by
    unfold znF
    dsimp only
    cases e : Nat.beq a i && Nat.beq b k with
    | true =>
      rw [Bool.and_eq_true] at e
      exact absurd ⟨Nat.eq_of_beq_eq_true e.1, Nat.eq_of_beq_eq_true e.2⟩ h
    | false => rfl
  have hkeep : ∀ {a b : Nat}, cF ca a b → cF (((i, Sum.inl k), v) :: ca.filter (znF i k)) a b := fun {a b} h => by
    by_cases e : a = i ∧ b = k
    · obtain ⟨rfl, rfl⟩ := e
      exact ⟨v, List.mem_cons_self⟩
    · obtain ⟨u, hu⟩ := zfil_F (p := znF i k) (fun u => hnF e) h
      exact ⟨u, List.mem_cons_of_mem _ hu⟩
  have hz : ∀ {a b : Nat}, ¬ (a = i ∧ b = k) → zfv (es.set i (ρ i, Sum.inr (ci, vs.set k (zv ρ η v)))) a b = zfv es a b := fun {a b} h => by
    by_cases e : a = i
    · subst e
      rw [zfv_get hget, zfv_get hv, List.getElem?_set, if_neg (fun z => h ⟨rfl, z.symm⟩)]
    · unfold zfv
      rw [hoth a e]
  refine ⟨fun i2 ty2 n2 rs2 hi2 ht2 => ?_, fun i2 n2 rs2 hi2 => ?_, fun i2 ci2 fs2 hi2 => ?_, fun q hq => ?_, fun q hq => ?_⟩
  · obtain ⟨g, h1, h2⟩ := C.1 i2 ty2 n2 rs2 hi2 ht2
    refine ⟨g, by rw [hoth i2 (hne hi2)]; exact h1, fun j hj => (h2 j hj).imp (fun h => ?_) id⟩
    obtain ⟨ix, u, a, b⟩ := zfil_A (p := znF i k) (fun ix u => rfl) h
    exact ⟨ix, u, List.mem_cons_of_mem _ a, b⟩
  · obtain ⟨g, h1⟩ := C.2.1 i2 n2 rs2 hi2
    exact ⟨g, by rw [hoth i2 (hne hi2)]; exact h1⟩
  · obtain ⟨vs2, h1, h2, h3⟩ := C.2.2.1 i2 ci2 fs2 hi2
    by_cases e : i2 = i
    · subst e
      rw [hv] at h1
      cases h1
      refine ⟨_, hget, by rw [List.length_set]; exact h2, fun k2 g u a b => ?_⟩
      by_cases e2 : k2 = k
      · subst e2
        exact Or.inl ⟨v, List.mem_cons_self⟩
      · rw [List.getElem?_set, if_neg (fun z => e2 z.symm)] at b
        exact (h3 k2 g u a b).imp hkeep id
    · exact ⟨vs2, by rw [hoth i2 e]; exact h1, h2, fun k2 g u a b => (h3 k2 g u a b).imp hkeep id⟩
  · rcases C.2.2.2.1 q hq with h | h | ⟨x, y, h1, h2, h3⟩
    · exact Or.inl (hkeep h)
    · exact Or.inr (Or.inl (hkeep h))
    · by_cases e1 : q.2.1.1 = i ∧ q.2.1.2 = k
      · exact Or.inl (by rw [e1.1, e1.2]; exact ⟨v, List.mem_cons_self⟩)
      · by_cases e2 : q.2.2.1.1 = i ∧ q.2.2.1.2 = k
        · exact Or.inr (Or.inl (by rw [e2.1, e2.2]; exact ⟨v, List.mem_cons_self⟩))
        · exact Or.inr (Or.inr ⟨x, y, by rw [hz e1]; exact h1, by rw [hz e2]; exact h2, h3⟩)
  · rcases List.mem_cons.mp hq with h | h
    · subst h
      refine ⟨?_, fun ix e => by cases e⟩
      show zfv _ i k = some (zv ρ η v)
      rw [zfv_get hget, List.getElem?_set, if_pos rfl, if_pos hk]
    · obtain ⟨h1, h2⟩ := List.mem_filter.mp h
      obtain ⟨h3, h4⟩ := C.2.2.2.2 q h1
      refine ⟨?_, h4⟩
      rw [← h3]
      obtain ⟨⟨a, b | ix⟩, u⟩ := q
      · have e : ¬ (a = i ∧ b = k) := fun z => by
          obtain ⟨rfl, rfl⟩ := z
          unfold znF at h2
          dsimp only at h2
          rw [Nat.beq_refl, Nat.beq_refl] at h2
          cases h2
        exact hz e
      · by_cases e : a = i
        · subst e
          have h8 : zav es a (zd η ix).toNat = some (zv ρ η u) := h3
          unfold zav at h8
          rw [hv] at h8
          cases h8
        · show zav _ a _ = zav es a _
          unfold zav
          rw [hoth a e]
theorem zrelS_ok {η : zE} {j k : Nat} {d : Int} : ∀ l : List zRl, (∀ q ∈ l, zrs η q) → zrelS l j k d = true → η j + η k ≤ d := by
  intro l
  induction l with
  | nil => intro _ h; cases h
  | cons q t ih =>
    obtain ⟨sg, a, b, c⟩ := q
    intro hq h
    unfold zrelS at h
    cases e : sg && (Nat.beq a j && (Nat.beq b k && decide (c ≤ d))) with
    | true =>
      rw [Bool.and_eq_true, Bool.and_eq_true, Bool.and_eq_true, decide_eq_true_eq] at e
      obtain ⟨e1, e2, e3, e4⟩ := e
      cases sg with
      | false => cases e1
      | true =>
        have h9 : η a + η b ≤ c := hq _ List.mem_cons_self
        rw [← Nat.eq_of_beq_eq_true e2, ← Nat.eq_of_beq_eq_true e3]
        omega
    | false =>
      rw [e] at h
      exact ih (fun q h9 => hq q (List.mem_cons_of_mem _ h9)) h
theorem zsmB_ok {η : zE} {fa : zFa} (hs : zsat η fa) {a b : zI} {c : Int} (h : zsmB fa a b c = true) : zd η a + zd η b ≤ c := by
  have ha := zrg_ok hs a
  have hb := zrg_ok hs b
  unfold zsmB at h
  by_cases e : (zrg fa a).2 + (zrg fa b).2 ≤ c
  · omega
  · rw [decide_eq_false e] at h
    dsimp only at h
    split at h
    · rename_i k m x j n y
      rw [Bool.and_eq_true, Bool.and_eq_true, Bool.or_eq_true, decide_eq_true_eq, decide_eq_true_eq] at h
      obtain ⟨h1, h2, h3⟩ := h
      rw [h1, h2]
      show 1 * η k + x + (1 * η j + y) ≤ c
      rcases h3 with h3 | h3
      · have := zrelS_ok (η := η) _ hs.2.2.1 h3
        omega
      · have := zrelS_ok (η := η) _ hs.2.2.1 h3
        omega
    · cases h
/-- nothing cached: all is as declared -/
theorem zCo.flush {T : zTb} {ρ : Nat → Nat} {γ : Nat → ClassId} {η : zE} {ca : zCa} {es : va_W} {fa : zFa} (hs : zsat η fa) (C : zCo T ρ γ η ca es) (h : zfl T fa ca = true) (η2 : zE) : zCo T ρ γ η2 [] es := by
  unfold zfl at h
  rw [Bool.and_eq_true] at h
  have hA : ∀ i, zflA T fa i ca = true := fun i => by
    have : ∀ l : zCa, zAll (zf1 T.2.1 fa) l = true → zAll (fun q => znA i q || zf1 T.2.1 fa q) l = true := by
      intro l
      induction l with
      | nil => intro _; rfl
      | cons q t ih =>
        intro h
        unfold zAll at h ⊢
        rw [Bool.and_eq_true] at h ⊢
        exact ⟨by rw [h.1, Bool.or_true], ih h.2⟩
    exact this ca h.1
  refine ⟨fun i ty n rs hi ht => ?_, C.2.1, fun i ci fs hi => ?_, fun q hq => ?_, fun q hq => by cases hq⟩
  · obtain ⟨f, h1, h2⟩ := C.arr hs hi ht (hA i)
    exact ⟨f, h1, fun j hj => Or.inr (h2 j hj)⟩
  · obtain ⟨vs, h1, h2, h3⟩ := C.2.2.1 i ci fs hi
    refine ⟨vs, h1, h2, fun k f v a b => ?_⟩
    rcases h3 k f v a b with ⟨u, hu⟩ | h4
    · have h5 := zf1_F (ρ := ρ) hs hi a (zAll_ok h.1 _ hu)
      have h6 : zfv es i k = some (zv ρ η u) := (C.2.2.2.2 _ hu).1
      rw [zfv_get h1, b] at h6
      cases h6
      exact Or.inr h5
    · exact Or.inr h4
  · have h4 := zAll_ok h.2 q hq
    refine Or.inr (Or.inr ?_)
    unfold zfr1 at h4
    cases e1 : zcF q.2.1.1 q.2.1.2 ca with
    | none =>
      rw [e1] at h4
      dsimp only at h4
      cases e2 : zcF q.2.2.1.1 q.2.2.1.2 ca with
      | none =>
        rcases C.2.2.2.1 q hq with h5 | h5 | h5
        · exact absurd h5 (zcF_none e1)
        · exact absurd h5 (zcF_none e2)
        · exact h5
      | some u => rw [e2] at h4; cases h4
    | some a =>
      rw [e1] at h4
      rcases a with a | a
      · dsimp only at h4
        cases e2 : zcF q.2.2.1.1 q.2.2.1.2 ca with
        | none => rw [e2] at h4; cases h4
        | some b =>
          rw [e2] at h4
          rcases b with b | b
          · dsimp only at h4
            rw [Bool.and_eq_true, Bool.and_eq_true] at h4
            obtain ⟨h5, h6, h7⟩ := h4
            have ha : zfv es q.2.1.1 q.2.1.2 = some (.int (zi η a)) := (C.2.2.2.2 _ (zcF_some e1)).1
            have hb : zfv es q.2.2.1.1 q.2.2.1.2 = some (.int (zi η b)) := (C.2.2.2.2 _ (zcF_some e2)).1
            refine ⟨zi η a, zi η b, ha, hb, ?_⟩
            rw [z32_ok hs h5, z32_ok hs h6]
            unfold zpR
            cases e3 : q.1 with
            | true =>
              rw [e3] at h7
              exact zsmB_ok hs h7
            | false =>
              rw [e3] at h7
              have := zleB_ok hs h7
              rw [zd_ad] at this
              show zd η a - zd η b ≤ q.2.2.2
              omega
          · cases h4
      · cases h4
-- frames
theorem zfrm.refl (wr : List Nat) (es : va_W) : zfrm wr es es := ⟨fun _ _ _ _ => rfl, fun _ h => h⟩
theorem zfrm.setA {wr : List Nat} {es0 es : va_W} {i a : Nat} {x x2 : ClassId × vp_A} (h : zfrm wr es0 es) (hg : es[i]? = some (a, .inl x)) (hw : xmN wr (64 * i) = true) (hp : xmN wr 4677 = false → pN es → pN (es.set i (a, .inl x2))) : zfrm wr es0 (es.set i (a, .inl x2)) := by
  refine ⟨?_, fun y z => hp y (h.2 y z)⟩
  intro i2 k2 hk hn
  rw [← h.1 i2 k2 hk hn]
  have hl : i < es.length := (List.getElem?_eq_some_iff.mp hg).1
  by_cases e : i2 = i
  · subst e
    unfold zct
    rw [List.getElem?_set, if_pos rfl, if_pos hl, hg]
    dsimp only
    cases k2 with
    | zero =>
      rw [Nat.add_zero, hw] at hn
      cases hn
    | succ k2 => rfl
  · unfold zct
    rw [List.getElem?_set, if_neg (fun z => e z.symm)]
theorem zfrm.setF {wr : List Nat} {es0 es : va_W} {i a ci k : Nat} {vs : List Value} {v : Value} (h : zfrm wr es0 es) (hg : es[i]? = some (a, .inr (ci, vs))) (hk : k < 64) (hw : xmN wr (64 * i + k) = true) (hp : xmN wr 4677 = false → pN es → pN (es.set i (a, .inr (ci, vs.set k v)))) : zfrm wr es0 (es.set i (a, .inr (ci, vs.set k v))) := by
  refine ⟨?_, fun y z => hp y (h.2 y z)⟩
  intro i2 k2 hk2 hn
  rw [← h.1 i2 k2 hk2 hn]
  have hl : i < es.length := (List.getElem?_eq_some_iff.mp hg).1
  by_cases e : i2 = i
  · subst e
    unfold zct
    rw [List.getElem?_set, if_pos rfl, if_pos hl, hg]
    dsimp only
    by_cases e2 : k = k2
    · subst e2
      rw [hw] at hn
      cases hn
    · rw [List.getElem?_set, if_neg e2]
  · unfold zct
    rw [List.getElem?_set, if_neg (fun z => e z.symm)]
theorem zfrm.trans {w1 w2 : List Nat} {es0 es es2 : va_W} (h1 : zfrm w1 es0 es) (h2 : zfrm w2 es es2) (hs : zsub w2 w1 = true) : zfrm w1 es0 es2 := by
  refine ⟨?_, fun y z => h2.2 (by
    cases e : xmN w2 4677 with
    | false => rfl
    | true =>
      have := zAll_ok hs _ (xmN_ok.mp e)
      rw [y] at this
      cases this) (h1.2 y z)⟩
  intro i k hk hn
  rw [h2.1 i k hk ?_]
  · exact h1.1 i k hk hn
  · cases e : xmN w2 (64 * i + k) with
    | false => rfl
    | true =>
      have := zAll_ok hs _ (xmN_ok.mp e)
      rw [hn] at this
      cases this
/-- behind a call that writes these places alone -/
theorem zCo.kept {T : zTb} {ρ : Nat → Nat} {γ : Nat → ClassId} {η η2 : zE} {ca : zCa} {es es2 : va_W} {wr : List Nat} (C : zCo T ρ γ η ca es) (C2 : zCo T ρ γ η2 [] es2) (hf : zfrm wr es es2) : zCo T ρ γ η (ca.filter (znW wr)) es2 := by
  refine ⟨fun i ty n rs hi ht => ?_, C2.2.1, fun i ci fs hi => ?_, fun q hq => ?_, fun q hq => ?_⟩
  · obtain ⟨f, h1, h2⟩ := C2.1 i ty n rs hi ht
    refine ⟨f, h1, fun j hj => ?_⟩
    rcases h2 j hj with ⟨ix, v, hm, -⟩ | h
    · cases hm
    · exact Or.inr h
  · obtain ⟨vs, h1, h2, h3⟩ := C2.2.2.1 i ci fs hi
    refine ⟨vs, h1, h2, fun k f v a b => ?_⟩
    rcases h3 k f v a b with ⟨u, hu⟩ | h
    · cases hu
    · exact Or.inr h
  · rcases C2.2.2.2.1 q hq with ⟨u, hu⟩ | ⟨u, hu⟩ | h
    · cases hu
    · cases hu
    · exact Or.inr (Or.inr h)
  · obtain ⟨h1, h2⟩ := List.mem_filter.mp hq
    obtain ⟨h3, h4⟩ := C.2.2.2.2 q h1
    refine ⟨?_, h4⟩
    rw [← h3]
    obtain ⟨⟨a, b | ix⟩, u⟩ := q
    · unfold znW at h2
      dsimp only at h2
      rw [Bool.and_eq_true] at h2
      have h5 := hf.1 a b (blt_ok h2.1) (by
        cases e : xmN wr (64 * a + b) with
        | false => rfl
        | true => rw [e] at h2; cases h2.2)
      have h6 : zfv es a b = some (zv ρ η u) := h3
      show zfv es2 a b = zfv es a b
      rw [h6]
      unfold zct at h5
      unfold zfv at h6 ⊢
      split at h6
      · rename_i x0 x1 vs e1
        rw [e1] at h5
        dsimp only at h5
        split at h5
        · rename_i y0 y1 vs2 e2
          rw [e2]
          dsimp only
          have h7 := Option.some.inj h5
          have h8 := Sum.inl.inj h7
          rw [h8]
          exact h6
        · rename_i y0 y1 e2
          cases b <;> cases h5
        · cases h5
      · cases h6
    · unfold znW at h2
      dsimp only at h2
      have h5 := hf.1 a 0 (by decide) (by
        rw [Nat.add_zero]
        cases e : xmN wr (64 * a) with
        | false => rfl
        | true => rw [e] at h2; cases h2)
      have h6 : zav es a (zd η ix).toNat = some (zv ρ η u) := h3
      show zav es2 a _ = zav es a _
      unfold zct at h5
      unfold zav at h6 ⊢
      split at h6
      · rename_i x0 x1 x2 f e1
        rw [e1] at h5
        dsimp only at h5
        split at h5
        · cases h5
        · rename_i y0 y1 e2
          rw [e2]
          have h7 := Option.some.inj h5
          have h8 := Sum.inr.inj h7
          rw [h8]
        · cases h5
      · cases h6
