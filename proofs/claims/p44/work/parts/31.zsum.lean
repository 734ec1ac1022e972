/-! Summaries: a method is cut at its loops' heads (a template of the locals, a rank); each run goes from a cut to the next. -/
abbrev zTm : Type := List (Nat × zP)
abbrev zCm : Type := Nat ⊕ (Bool × Nat)
abbrev zCt : Type := List (Nat × zTm × List zCm)
def ztV (l : Nat) : zP → zV
  | .inl _ => .inl (zsym l)
  | .inr (.inl c) => .inr (.inl c)
  | .inr (.inr _) => .inr (.inr (zsym l))
def ztL : zTm → zL
  | [] => []
  | (l, p) :: t => (l, ztV l p) :: ztL t
def ztF : zTm → List (Nat × zG)
  | [] => []
  | (l, .inl (a, b)) :: t => (l, (a, b, [])) :: ztF t
  | (_, .inr _) :: t => ztF t
def zaT : Nat → List zP → zTm
  | _, [] => []
  | i, .inr (.inr u) :: t => (i, .inr (.inr u)) :: zaT (i + 2) t
  | i, .inl q :: t => (i, .inl q) :: zaT (i + 1) t
  | i, .inr (.inl c) :: t => (i, .inr (.inl c)) :: zaT (i + 1) t
def ztB (fa : zFa) (lo : zL) : zTm → Bool
  | [] => true
  | (l, p) :: t => (match zll lo l with
    | some v => zaB fa [p] [v]
    | none => false) && ztB fa lo t
def zcm0 : zCm → zI
  | .inl n => .inl (n : Int)
  | .inr (true, l) => .inr (l, -1, 2147483648)
  | .inr (false, l) => .inr (l, 1, 2147483648)
def zcmv (fa : zFa) (lo : zL) : zCm → Option zI
  | .inl n => some (.inl (n : Int))
  | .inr (up, l) => match zll lo l with
    | some (.inl v) => match z32 fa v with
      | true => match up with
        | true => some (zad (zneg v) 2147483648)
        | false => some (zad v 2147483648)
      | false => none
    | _ => none
def zlex (fa : zFa) (lo : zL) : List zCm → List zI → Bool
  | c :: s, b :: t => match zcmv fa lo c with
    | some a => zlB fa a b || (zleB fa a b && zlex fa lo s t)
    | none => false
  | _, _ => false
def zold : List zCm → List zI
  | [] => []
  | c :: t => zcm0 c :: zold t
def zhook (T : zTb) (cts : zCt) (old : Option (List zI)) : zCk := fun pc lo sk ca fa _ => match xfi cts pc with
  | some (tm, cm) => (match sk with
    | [] => true
    | _ => false) && (zfl T fa ca && (ztB fa lo tm && (match old with
      | none => true
      | some ob => Nat.beq cm.length ob.length && zlex fa lo cm ob)))
  | none => false
def zretB (fa : zFa) (ret : Option zP) (v : Option zV) : Bool := match ret, v with
  | none, none => true
  | some (.inl (a, b)), some (.inl x) => zrk fa x fun lo hi => decide (a ≤ lo) && (decide (hi ≤ b) && (xin lo && xin hi))
  | some (.inr (.inr _)), some (.inr (.inr _)) => true
  | _, _ => false
def zfin (T : zTb) (ret : Option zP) : zK := fun fa _ v ca => zfl T fa ca && zretB fa ret v
def zpcs : zCt → List Nat
  | [] => []
  | q :: t => q.1 :: zpcs t
/-- the row of a summary's method, with the summary's room -/
def zrow (r : xR) (sm : zSm) (cts : zCt) : zR := ((r.1, r.2.1, r.2.2.1, r.2.2.2.1, r.2.2.2.2.1, (sm.2.1.1, sm.2.1.2, 0, 0), r.2.2.2.2.2.2.1, r.2.2.2.2.2.2.2), zpcs cts)
def zwfc (tm : zTm) : zCm → Bool
  | .inl n => Nat.blt n 17179869184
  | .inr (_, l) => xin (zr0 (ztF tm) l).1 && xin (zr0 (ztF tm) l).2.1
/-- the run from the entry -/
def zrunE (T : zTb) (cm : List (Nat × List Nat)) (ns : Nat) (sm : zSm) (cts : zCt) (n : Nat) : Bool := match (gt xmt sm.1).bind xrow with
  | some r => zex T (zhook T cts none, cm, ns, sm.2.2.2.2) n (zrow r sm cts) 0 (ztL (zaT 0 sm.2.2.1)) [] [] (ztF (zaT 0 sm.2.2.1), [], []) 100 (zfin T sm.2.2.2.1)
  | none => false
/-- the run from a cut -/
def zrunC (T : zTb) (cm : List (Nat × List Nat)) (ns : Nat) (sm : zSm) (cts : zCt) (n : Nat) (q : Nat × zTm × List zCm) : Bool := match (gt xmt sm.1).bind xrow with
  | some r => match xfi r.2.2.2.2.2.2.2 q.1 with
    | some i => zAll (zwfc q.2.1) q.2.2 && zsi T (zhook T cts (some (zold q.2.2)), cm, ns, sm.2.2.2.2) (zex T (zhook T cts (some (zold q.2.2)), cm, ns, sm.2.2.2.2) n) (zrow r sm cts) q.1 (ztL q.2.1) [] [] (ztF q.2.1, [], []) 100 (zfin T sm.2.2.2.1) i.2 i.1
    | none => false
  | none => false
-- soundness
def zls (ls : Array Slot) (η : zE) : zE := fun k => match ls[k]? with
  | some (.val (.int x)) => x.toInt
  | some (.val (.long x)) => x.toInt
  | _ => η k
theorem zls_bd {ls : Array Slot} {η : zE} (h : ∀ k, zbd (η k)) : ∀ k, zbd (zls ls η k) := by
  intro k
  unfold zls
  split
  · exact zbd32 _
  · exact zbd64 _
  · exact h k
theorem ztL_in {ρ : Nat → Nat} {ls : Array Slot} {η : zE} {l : Nat} {p : zP} {w : Value} (hw : ls[l]? = some (.val w)) (hp : okP ρ p w) : zv ρ (zls ls η) (ztV l p) = w := by
  rcases p with q | c | u
  · obtain ⟨x, rfl, -⟩ := hp
    show Value.int (Int32.ofInt (1 * zls ls η l + 0)) = _
    have : zls ls η l = x.toInt := by unfold zls; rw [hw]
    rw [this, Int.one_mul, Int.add_zero, i32_of]
  · have hp : w = zv ρ (fun _ => 0) (.inr (.inl c)) := hp
    rw [hp]
    rcases c with _ | c <;> rfl
  · obtain ⟨x, rfl⟩ := hp
    show Value.long (Int64.ofInt (1 * zls ls η l + 0)) = _
    have : zls ls η l = x.toInt := by unfold zls; rw [hw]
    rw [this, Int.one_mul, Int.add_zero, i64_of]
theorem ztm_ok {ρ : Nat → Nat} {ls : Array Slot} {η : zE} (hb : ∀ k, zbd (η k)) : ∀ (tm : zTm), (∀ q ∈ tm, ∃ w, ls[q.1]? = some (.val w) ∧ okP ρ q.2 w) → (∀ q ∈ zdL ρ (zls ls η) (ztL tm), ls[q.1]? = some (.val q.2)) ∧ ∀ q ∈ ztF tm, zgs (zls ls η q.1) q.2 := by
  intro tm
  induction tm with
  | nil => intro _; exact ⟨fun q h => (by cases h), fun q h => (by cases h)⟩
  | cons q t ih =>
    intro h
    obtain ⟨l, p⟩ := q
    obtain ⟨i1, i2⟩ := ih (fun q hq => h q (List.mem_cons_of_mem _ hq))
    obtain ⟨w, hw, hp⟩ := h _ List.mem_cons_self
    dsimp only at hw hp
    constructor
    · intro q hq
      rcases List.mem_cons.mp hq with e | e
      · rw [e]
        show ls[l]? = some (.val (zv ρ (zls ls η) (ztV l p)))
        rw [ztL_in hw hp]
        exact hw
      · exact i1 q e
    · intro q hq
      rcases p with ⟨a, b⟩ | c
      · rcases List.mem_cons.mp hq with e | e
        · rw [e]
          obtain ⟨x, rfl, h1, h2⟩ := hp
          have : zls ls η l = x.toInt := by unfold zls; rw [hw]
          show zgs (zls ls η l) (a, b, [])
          rw [this]
          exact ⟨h1, h2, fun _ z => by cases z⟩
        · exact i2 q e
      · exact i2 q hq
theorem ztB_ok {ρ : Nat → Nat} {η : zE} {fa : zFa} {lo : zL} (hs : zsat η fa) {ls : Array Slot} (hl : ∀ q ∈ zdL ρ η lo, ls[q.1]? = some (.val q.2)) : ∀ (tm : zTm), ztB fa lo tm = true → ∀ q ∈ tm, ∃ w, ls[q.1]? = some (.val w) ∧ okP ρ q.2 w := by
  intro tm
  induction tm with
  | nil => intro _ q hq; cases hq
  | cons x t ih =>
    intro h q hq
    obtain ⟨l, p⟩ := x
    unfold ztB at h
    rw [Bool.and_eq_true] at h
    rcases List.mem_cons.mp hq with e | e
    · rw [e]
      cases e2 : zll lo l with
      | none => rw [e2] at h; cases h.1
      | some v =>
        rw [e2] at h
        have := zaB_ok (ρ := ρ) hs _ _ h.1
        exact ⟨zv ρ η v, hl _ (zll_ok e2), this.1⟩
    · exact ih h.2 q e
theorem zaT_ok {ρ : Nat → Nat} : ∀ (ps : List zP) (vs : List Value) (k : Nat), zaO ρ ps vs → ∀ q ∈ zaT k ps, ∃ w, (q.1, w) ∈ lv_args k vs ∧ okP ρ q.2 w := by
  intro ps
  induction ps with
  | nil => intro vs k _ q hq; cases hq
  | cons p ps ih =>
    intro vs k h q hq
    cases vs with
    | nil => exact h.elim
    | cons v vs =>
      obtain ⟨h1, h2⟩ := h
      rcases p with a | c | u
      · have e : lv_args k (v :: vs) = (k, v) :: lv_args (k + 1) vs := by
          obtain ⟨x, rfl, -⟩ := h1
          rfl
        rw [e]
        rcases List.mem_cons.mp hq with e2 | e2
        · rw [e2]; exact ⟨v, List.mem_cons_self, h1⟩
        · obtain ⟨w, w1, w2⟩ := ih vs (k + 1) h2 q e2
          exact ⟨w, List.mem_cons_of_mem _ w1, w2⟩
      · have e : lv_args k (v :: vs) = (k, v) :: lv_args (k + 1) vs := by
          have h1 : v = zv ρ (fun _ => 0) (.inr (.inl c)) := h1
          rw [h1]
          rcases c with _ | c <;> rfl
        rw [e]
        rcases List.mem_cons.mp hq with e2 | e2
        · rw [e2]; exact ⟨v, List.mem_cons_self, h1⟩
        · obtain ⟨w, w1, w2⟩ := ih vs (k + 1) h2 q e2
          exact ⟨w, List.mem_cons_of_mem _ w1, w2⟩
      · have e : lv_args k (v :: vs) = (k, v) :: lv_args (k + 2) vs := by
          obtain ⟨x, rfl⟩ := h1
          rfl
        rw [e]
        rcases List.mem_cons.mp hq with e2 | e2
        · rw [e2]; exact ⟨v, List.mem_cons_self, h1⟩
        · obtain ⟨w, w1, w2⟩ := ih vs (k + 2) h2 q e2
          exact ⟨w, List.mem_cons_of_mem _ w1, w2⟩
theorem zaO_cats {ρ : Nat → Nat} : ∀ (ps : List zP) (vs : List Value), zaO ρ ps vs → (lg_sl vs).length = (ps.map (fun p => match p with | .inr (.inr _) => 2 | _ => 1)).sum := by
  intro ps
  induction ps with
  | nil =>
    intro vs h
    cases vs with
    | nil => rfl
    | cons v t => exact h.elim
  | cons p ps ih =>
    intro vs h
    cases vs with
    | nil => exact h.elim
    | cons v vs =>
      obtain ⟨h1, h2⟩ := h
      have i := ih vs h2
      unfold lg_sl at i ⊢
      rw [List.flatMap_cons, List.length_append, i, List.map_cons, List.sum_cons]
      congr 1
      rcases p with a | c | u
      · obtain ⟨x, rfl, -⟩ := h1
        rfl
      · have h1 : v = zv ρ (fun _ => 0) (.inr (.inl c)) := h1
        rw [h1]
        rcases c with _ | c <;> rfl
      · obtain ⟨x, rfl⟩ := h1
        rfl
-- ranks
def zenc : List Int → Nat
  | [] => 0
  | x :: t => x.toNat * 17179869184 ^ t.length + zenc t
theorem zenc_lt : ∀ (xs : List Int), (∀ x ∈ xs, 0 ≤ x ∧ x < 17179869184) → zenc xs < 17179869184 ^ xs.length := by
  intro xs
  induction xs with
  | nil => intro _; exact Nat.one_pos
  | cons x t ih =>
    intro h
    have h1 := h x List.mem_cons_self
    have h2 := ih (fun y hy => h y (List.mem_cons_of_mem _ hy))
    have h3 : x.toNat + 1 ≤ 17179869184 := by omega
    have h4 := Nat.mul_le_mul_right (17179869184 ^ t.length) h3
    show x.toNat * 17179869184 ^ t.length + zenc t < 17179869184 ^ (t.length + 1)
    rw [Nat.pow_succ, Nat.mul_comm (17179869184 ^ t.length)]
    rw [Nat.add_mul, Nat.one_mul] at h4
    omega
def zlexP : List Int → List Int → Prop
  | x :: s, y :: t => x < y ∨ (x ≤ y ∧ zlexP s t)
  | _, _ => False
theorem zenc_lex : ∀ (xs ys : List Int), xs.length = ys.length → (∀ x ∈ xs, 0 ≤ x ∧ x < 17179869184) → (∀ y ∈ ys, 0 ≤ y ∧ y < 17179869184) → zlexP xs ys → zenc xs < zenc ys := by
  intro xs
  induction xs with
  | nil => intro ys _ _ _ h; exact h.elim
  | cons x s ih =>
    intro ys hl h1 h2 h
    cases ys with
    | nil => exact h.elim
    | cons y t =>
      have hl2 : s.length = t.length := Nat.succ.inj hl
      have hx := h1 x List.mem_cons_self
      have hy := h2 y List.mem_cons_self
      have hs := zenc_lt s (fun z hz => h1 z (List.mem_cons_of_mem _ hz))
      show x.toNat * 17179869184 ^ s.length + zenc s < y.toNat * 17179869184 ^ t.length + zenc t
      rw [← hl2]
      by_cases e : x < y
      · have h3 : x.toNat + 1 ≤ y.toNat := by omega
        have h4 := Nat.mul_le_mul_right (17179869184 ^ s.length) h3
        rw [Nat.add_mul, Nat.one_mul] at h4
        omega
      · rcases h with h | ⟨h3, h4⟩
        · exact absurd h e
        · have e2 : x = y := by omega
          subst e2
          have := ih t hl2 (fun z hz => h1 z (List.mem_cons_of_mem _ hz)) (fun z hz => h2 z (List.mem_cons_of_mem _ hz)) h4
          omega
theorem zcm_bd {η : zE} {tm : zTm} (hs : zsat η (ztF tm, [], [])) {c : zCm} (h : zwfc tm c = true) : 0 ≤ zd η (zcm0 c) ∧ zd η (zcm0 c) < 17179869184 := by
  rcases c with n | ⟨up, l⟩
  · have := blt_ok h
    show 0 ≤ (n : Int) ∧ (n : Int) < 17179869184
    omega
  · unfold zwfc at h
    rw [Bool.and_eq_true] at h
    obtain ⟨h1, h2⟩ := h
    simp only [xin, Bool.and_eq_true, decide_eq_true_eq] at h1 h2
    have hr := zr0_ok hs.1 l _ hs.2.1
    have r1 := hr.1
    have r2 := hr.2.1
    dsimp only at r1 r2
    cases up with
    | true =>
      show 0 ≤ -1 * η l + 2147483648 ∧ -1 * η l + 2147483648 < 17179869184
      constructor <;> omega
    | false =>
      show 0 ≤ 1 * η l + 2147483648 ∧ 1 * η l + 2147483648 < 17179869184
      constructor <;> omega
theorem zcmv_ok {ρ : Nat → Nat} {η : zE} {fa : zFa} {lo : zL} (hs : zsat η fa) {ls : Array Slot} (hl : ∀ q ∈ zdL ρ η lo, ls[q.1]? = some (.val q.2)) {c : zCm} {a : zI} (h : zcmv fa lo c = some a) : zd η a = zd (zls ls η) (zcm0 c) := by
  rcases c with n | ⟨up, l⟩
  · cases h; rfl
  · dsimp only [zcmv] at h
    cases e1 : zll lo l with
    | none => rw [e1] at h; cases h
    | some v =>
      rw [e1] at h
      rcases v with v | v
      · dsimp only at h
        cases e2 : z32 fa v with
        | false => rw [e2] at h; cases h
        | true =>
          rw [e2] at h
          have hx := z32_ok hs e2
          have e3 : zls ls η l = zd η v := by
            have := hl _ (zll_ok (ρ := ρ) e1)
            dsimp only at this
            unfold zls
            rw [this]
            exact hx
          cases up with
          | true =>
            cases h
            show zd η (zad (zneg v) 2147483648) = -1 * zls ls η l + 2147483648
            rw [zd_ad, e3]
            rcases v with z | ⟨k, m, c⟩
            · show -z + 2147483648 = -1 * z + 2147483648
              omega
            · show -m * η k + -c + 2147483648 = -1 * (m * η k + c) + 2147483648
              rw [Int.neg_mul]
              omega
          | false =>
            cases h
            show zd η (zad v 2147483648) = 1 * zls ls η l + 2147483648
            rw [zd_ad, e3]
            omega
      · cases h
theorem zlex_ok {ρ : Nat → Nat} {η : zE} {fa : zFa} {lo : zL} (hs : zsat η fa) {ls : Array Slot} (hl : ∀ q ∈ zdL ρ η lo, ls[q.1]? = some (.val q.2)) : ∀ (cm : List zCm) (ob : List zI), zlex fa lo cm ob = true → zlexP ((zold cm).map (zd (zls ls η))) (ob.map (zd η)) := by
  intro cm
  induction cm with
  | nil => intro ob h; cases ob <;> (unfold zlex at h; cases h)
  | cons c t ih =>
    intro ob h
    cases ob with
    | nil => unfold zlex at h; cases h
    | cons b ob =>
      unfold zlex at h
      cases e1 : zcmv fa lo c with
      | none => rw [e1] at h; cases h
      | some a =>
        rw [e1] at h
        dsimp only at h
        have e2 := zcmv_ok (ρ := ρ) hs hl e1
        rw [Bool.or_eq_true, Bool.and_eq_true] at h
        show zd (zls ls η) (zcm0 c) < zd η b ∨ (zd (zls ls η) (zcm0 c) ≤ zd η b ∧ zlexP _ _)
        rw [← e2]
        rcases h with h | h
        · exact Or.inl (zlB_ok hs h)
        · exact Or.inr ⟨zleB_ok hs h.1, ih ob h.2⟩
theorem zold_len (cm : List zCm) : (zold cm).length = cm.length := by
  induction cm with
  | nil => rfl
  | cons c t ih => exact congrArg (· + 1) ih
theorem zold_bd {η : zE} {tm : zTm} (hs : zsat η (ztF tm, [], [])) : ∀ (cm : List zCm), zAll (zwfc tm) cm = true → ∀ x ∈ (zold cm).map (zd η), 0 ≤ x ∧ x < 17179869184 := by
  intro cm
  induction cm with
  | nil => intro _ x hx; cases hx
  | cons c t ih =>
    intro h x hx
    unfold zAll at h
    rw [Bool.and_eq_true] at h
    rcases List.mem_cons.mp hx with e | e
    · rw [e]; exact zcm_bd hs h.1
    · exact ih h.2 x e
theorem zpcs_ok {pc : Nat} : ∀ {cts : zCt}, xmN (zpcs cts) pc = true → ∃ q, xfi cts pc = some q := by
  intro cts
  induction cts with
  | nil => intro h; cases h
  | cons x t ih =>
    obtain ⟨k, v⟩ := x
    intro h
    unfold zpcs xmN at h
    unfold xfi
    cases e : Nat.beq k pc with
    | true => exact ⟨v, rfl⟩
    | false =>
      rw [e] at h
      exact ih h
