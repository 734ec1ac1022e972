/-! The start keeps what is declared. -/
def zkInt (z : Int) : Bool := decide (-2147483648 ≤ z) && decide (z ≤ 2147483647)
def zkV (f : zF) (v : xV) : Bool := match f, v with
  | .inl q, .inl (.inl z) => zkInt z && (decide (q.1 ≤ z) && decide (z ≤ q.2))
  | .inr (.inl cs), .inr (.inl o) => cs.any (fun c => decide (c = o))
  | .inr (.inr _), .inr (.inr _) => true
  | _, _ => false
def zkC (d : zDc) (c : xC) : Bool := match d, c with
  | .inl (ty, n, rs), .inl (ty2, n2, .inl us) => decide (ty = ty2) && (Nat.beq n n2 && (!(decide (ty = .long)) && (List.range n).all (fun j => match xlk us j with
    | .inl z => zkInt z && (decide ((zrj rs j).1 ≤ z) && decide (z ≤ (zrj rs j).2))
    | .inr _ => false)))
  | .inl (ty, n, _), .inl (ty2, n2, .inr _) => decide (ty = ty2) && (Nat.beq n n2 && decide (ty = .long))
  | .inr (ci, fs), .inr (ci2, vs) => Nat.beq ci ci2 && xeL zkV fs vs
  | _, _ => false
theorem zk_all : xeL zkC zdec xW1 = true := by decide +kernel
theorem xeL_at {α β : Type} {f : α → β → Bool} : ∀ {s : List α} {t : List β}, xeL f s t = true → s.length = t.length ∧ ∀ (i : Nat) (a : α), s[i]? = some a → ∃ b, t[i]? = some b ∧ f a b = true := by
  intro s
  induction s with
  | nil =>
    intro t h
    cases t with
    | nil => exact ⟨rfl, fun i a h => by cases h⟩
    | cons b t => cases h
  | cons a s ih =>
    intro t h
    cases t with
    | nil => cases h
    | cons b t =>
      unfold xeL at h
      rw [Bool.and_eq_true] at h
      obtain ⟨h1, h2⟩ := ih h.2
      refine ⟨by rw [List.length_cons, List.length_cons, h1], fun i a2 hi => ?_⟩
      cases i with
      | zero =>
        cases hi
        exact ⟨b, rfl, h.1⟩
      | succ i => exact h2 i a2 hi
theorem zkInt_ok {z : Int} (h : zkInt z = true) : (Int32.ofInt z).toInt = z := by
  unfold zkInt at h
  rw [Bool.and_eq_true] at h
  exact i32_big (of_decide_eq_true h.1) (of_decide_eq_true h.2)
theorem cw_at {ρ : Nat → Nat} {γ : Nat → ClassId} {w : List xC} {i : Nat} {c : xC} (h : w[i]? = some c) : (cw ρ γ s0 w)[i]? = some (dE ρ γ s0 i c) := by
  unfold cw
  rw [List.getElem?_mapIdx, h]
  rfl
theorem zkV_ok {ρ : Nat → Nat} {f : zF} {v : xV} (h : zkV f v = true) : okf ρ f (dV ρ s0 v) := by
  unfold zkV at h
  split at h
  · rename_i q z
    rw [Bool.and_eq_true, Bool.and_eq_true] at h
    refine ⟨Int32.ofInt z, rfl, ?_, ?_⟩
    · rw [zkInt_ok h.1]; exact of_decide_eq_true h.2.1
    · rw [zkInt_ok h.1]; exact of_decide_eq_true h.2.2
  · rename_i cs o
    obtain ⟨c, h1, h2⟩ := List.any_eq_true.mp h
    have h2 := of_decide_eq_true h2
    subst h2
    refine ⟨c, h1, ?_⟩
    cases c with
    | none => rfl
    | some i => rfl
  · exact ⟨_, rfl⟩
  · cases h
def zkP (q : zPr) : Bool := match zkF q.2.1, zkF q.2.2.1 with
  | some a, some b => zkInt a && (zkInt b && (match q.1 with
    | true => decide (a + b ≤ q.2.2.2)
    | false => decide (a - b ≤ q.2.2.2)))
  | _, _ => false
where zkF (p : Nat × Nat) : Option Int := match gt xW1 p.1 with
  | some (.inr (_, vs)) => match gt vs p.2 with
    | some (.inl (.inl z)) => some z
    | _ => none
  | _ => none
theorem zk_prs : zprs.all zkP = true := by decide +kernel
theorem zkF_ok {ρ : Nat → Nat} {γ : Nat → ClassId} {p : Nat × Nat} {a : Int} (h : zkP.zkF p = some a) : zfv (cw ρ γ s0 xW1) p.1 p.2 = some (.int (Int32.ofInt a)) := by
  unfold zkP.zkF at h
  split at h
  · rename_i ci vs e
    rw [gt_eq] at e
    split at h
    · rename_i z e2
      rw [gt_eq] at e2
      cases h
      unfold zfv
      rw [cw_at e]
      show (vs.map (dV ρ s0))[p.2]? = _
      rw [List.getElem?_map, e2]
      rfl
    · cases h
  · cases h
set_option maxHeartbeats 1000000 in
theorem zk_co {ρ : Nat → Nat} {γ : Nat → ClassId} : zCo zD0 ρ γ (fun _ => 0) [] (cw ρ γ s0 xW1) := by
  obtain ⟨-, hk⟩ := xeL_at zk_all
  refine ⟨fun i ty n rs hi hty => ?_, fun i n rs hi => ?_, fun i ci fs hi => ?_, fun q hq => ?_, fun q hq => (by cases hq)⟩
  · obtain ⟨c, h1, h2⟩ := hk i _ hi
    unfold zkC at h2
    split at h2
    · rename_i ty1 n1 rs1 ty2 n2 us e
      cases e
      rw [Bool.and_eq_true, Bool.and_eq_true, Bool.and_eq_true] at h2
      obtain ⟨a1, a2, a3, a4⟩ := h2
      have a2 := Nat.eq_of_beq_eq_true a2
      subst a2
      refine ⟨_, cw_at h1, fun j hj => Or.inr ?_⟩
      have h3 := List.all_eq_true.mp a4 j (List.mem_range.mpr hj)
      unfold inR
      show _ ≤ (dI s0 (xlk us j)).toInt ∧ (dI s0 (xlk us j)).toInt ≤ _
      cases e9 : xlk us j with
      | inl z =>
        rw [e9] at h3
        dsimp only at h3
        rw [Bool.and_eq_true, Bool.and_eq_true] at h3
        show _ ≤ (Int32.ofInt z).toInt ∧ (Int32.ofInt z).toInt ≤ _
        rw [zkInt_ok h3.1]
        exact ⟨of_decide_eq_true h3.2.1, of_decide_eq_true h3.2.2⟩
      | inr z =>
        rw [e9] at h3
        cases h3
    · rename_i ty1 n1 rs1 ty2 n2 us e
      cases e
      rw [Bool.and_eq_true, Bool.and_eq_true] at h2
      exact absurd (of_decide_eq_true h2.2.2) hty
    · rename_i e
      cases e
    · cases h2
  · obtain ⟨c, h1, h2⟩ := hk i _ hi
    unfold zkC at h2
    split at h2
    · rename_i ty1 n1 rs1 ty2 n2 us e
      cases e
      rw [Bool.and_eq_true, Bool.and_eq_true, Bool.and_eq_true] at h2
      exact absurd h2.2.2.1 (by decide)
    · rename_i ty1 n1 rs1 ty2 n2 us e
      cases e
      rw [Bool.and_eq_true, Bool.and_eq_true] at h2
      have a2 := Nat.eq_of_beq_eq_true h2.2.1
      subst a2
      exact ⟨_, cw_at h1⟩
    · rename_i e
      cases e
    · cases h2
  · obtain ⟨c, h1, h2⟩ := hk i _ hi
    unfold zkC at h2
    split at h2
    · rename_i e
      cases e
    · rename_i e
      cases e
    · rename_i ci1 fs1 ci2 vs e
      cases e
      rw [Bool.and_eq_true] at h2
      have a2 := Nat.eq_of_beq_eq_true h2.1
      subst a2
      obtain ⟨b1, b2⟩ := xeL_at h2.2
      refine ⟨_, cw_at h1, by rw [List.length_map, b1], fun k f v hf hv => Or.inr ?_⟩
      obtain ⟨x, h3, h4⟩ := b2 k f hf
      rw [List.getElem?_map, h3] at hv
      cases hv
      exact zkV_ok h4
    · cases h2
  · have h1 := List.all_eq_true.mp zk_prs q hq
    unfold zkP at h1
    split at h1
    · rename_i a b ea eb
      rw [Bool.and_eq_true, Bool.and_eq_true] at h1
      refine Or.inr (Or.inr ⟨_, _, zkF_ok ea, zkF_ok eb, ?_⟩)
      rw [zkInt_ok h1.1, zkInt_ok h1.2.1]
      unfold zpR
      cases e9 : q.1 with
      | true =>
        rw [e9] at h1
        exact of_decide_eq_true h1.2.2
      | false =>
        rw [e9] at h1
        exact of_decide_eq_true h1.2.2
    · cases h1
theorem zk_tz {s : State} {γ : Nat → ClassId} (h : hTp s γ xW1) : hTz zD0 s γ := by
  obtain ⟨-, hk⟩ := xeL_at zk_all
  intro i ty n rs hi
  obtain ⟨c, h1, h2⟩ := hk i _ hi
  unfold zkC at h2
  split at h2
  · rename_i ty1 n1 rs1 ty2 n2 us e
    cases e
    rw [Bool.and_eq_true] at h2
    rw [of_decide_eq_true h2.1]
    exact h i _ _ _ h1
  · rename_i ty1 n1 rs1 ty2 n2 us e
    cases e
    rw [Bool.and_eq_true] at h2
    rw [of_decide_eq_true h2.1]
    exact h i _ _ _ h1
  · rename_i e
    cases e
  · cases h2
theorem zk_ar {ρ : Nat → Nat} {γ : Nat → ClassId} {i n : Nat} {us : List (Nat × xI)} (h : xW1[i]? = some (.inl (.int, n, .inl us))) (j : Nat) : zar (cw ρ γ s0 xW1) i j = dI s0 (xlk us j) := by
  unfold zar
  rw [cw_at h]
  rfl
theorem zk_0 {ρ : Nat → Nat} {γ : Nat → ClassId} {i n : Nat} (h : xW1[i]? = some (.inl (.int, n, .inl []))) (j : Nat) : zar (cw ρ γ s0 xW1) i j = 0 := zk_ar h j
theorem zk_pN {ρ : Nat → Nat} {γ : Nat → ClassId} : pN (cw ρ γ s0 xW1) := by
  have h73 : ∀ j, zar (cw ρ γ s0 xW1) 73 j = 0 := zk_0 (n := 2) rfl
  have h74 : ∀ j, zar (cw ρ γ s0 xW1) 74 j = 0 := zk_0 (n := 2) rfl
  have seg : ∀ b : Nat, kSeg (cw ρ γ s0 xW1) b := by
    intro b
    unfold kSeg
    rw [h73, h74]
    exact ⟨by decide, by decide, by decide, ⟨0, rfl⟩, fun h => absurd h (by decide)⟩
  refine ⟨⟨seg 0, seg 1⟩, ?_⟩
  intro _
  have f35 : zfd (cw ρ γ s0 xW1) 56 35 = 0 := by
    unfold zfd
    rw [zkF_ok (p := (56, 35)) (a := 0) (by decide +kernel)]
    rfl
  have f36 : zfd (cw ρ γ s0 xW1) 56 36 = 0 := by
    unfold zfd
    rw [zkF_ok (p := (56, 36)) (a := 0) (by decide +kernel)]
    rfl
  have h61 : zar (cw ρ γ s0 xW1) 61 0 = 0 := by
    rw [zk_ar (n := 2) (us := [(0, .inl 0)]) rfl]
    rfl
  rw [f35, f36]
  show 560 * (0 : Int) ≤ 0 ∧ (0 : Int) ≤ 560 * 0 + 9 * (zar (cw ρ γ s0 xW1) 61 0).toInt ∧ 0 ≤ (zar (cw ρ γ s0 xW1) 61 0).toInt ∧ (zar (cw ρ γ s0 xW1) 61 0).toInt ≤ 60
  rw [h61]
  decide
theorem zk_time {ρ : Nat → Nat} {γ : Nat → ClassId} : zfv (cw ρ γ s0 xW1) 0 15 = some (.int (Int32.ofInt 0)) ∧ zfv (cw ρ γ s0 xW1) 56 58 = some (.int (Int32.ofInt 0)) := ⟨zkF_ok (p := (0, 15)) (a := 0) (by decide +kernel), zkF_ok (p := (56, 58)) (a := 0) (by decide +kernel)⟩
