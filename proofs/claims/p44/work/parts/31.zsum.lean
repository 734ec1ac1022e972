/-! Summaries: a method is cut at its loops' heads (a template of the locals, a rank); each run goes from a cut to the next. -/
abbrev zTm : Type := List (Nat × zP)
abbrev zCm : Type := Nat ⊕ (Bool × Nat)
/-- fields that a cut knows: symbol, cell, field -/
abbrev zFl : Type := List (Nat × Nat × Nat)
/-- beside it a cut knows: fields that hold a cell, ranges and relations of symbols (locals less than 40, names of the start 40 to 59, fields 60 to 99), fields that hold what a symbol is -/
abbrev zXt : Type := List (Nat × Nat × Nat) × zRg × List zRl × List (Nat × Nat × Nat)
abbrev zCut : Type := zTm × zFl × List zCm × zXt
abbrev zCt : Type := List (Nat × zCut)
def ztV (l : Nat) : zP → zV
  | .inl _ => .inl (zsym l)
  | .inr (.inl c) => .inr (.inl c)
  | .inr (.inr _) => .inr (.inr (zsym l))
def ztL : zTm → zL
  | [] => []
  | (l, p) :: t => (l, ztV l p) :: ztL t
def ztF : zTm → List (Nat × zG)
  | [] => []
  | (l, .inl (a, b)) :: t => (l, (a, b, [])) :: ztF t
  | (_, .inr _) :: t => ztF t
def zcC : zFl → zCa
  | [] => []
  | (s, i, k) :: t => ((i, .inl k), .inl (zsym s)) :: zcC t
def zfF (T : zTb) : zFl → List (Nat × zG)
  | [] => []
  | (s, i, k) :: t => match zrgF T.2.1 i k with
    | some (a, b) => (s, (a, b, [])) :: zfF T t
    | none => zfF T t
def zfS : zFl → Nat → Option (Nat × Nat)
  | [], _ => none
  | (s, i, k) :: t, j => match Nat.beq s j with
    | true => some (i, k)
    | false => zfS t j
def zgF : zRg → List (Nat × zG)
  | [] => []
  | (s, a, b) :: t => (s, (a, b, [])) :: zgF t
/-- what is known of the names at the start -/
def zeN (T : zTb) : zNm → List (Nat × zG)
  | [] => []
  | (s, i, .inl f) :: t => match zrgF T.2.1 i f with
    | some (a, b) => (s, (a, b, [])) :: zeN T t
    | none => zeN T t
  | (s, _, .inr _) :: t => (s, (zfull.1, zfull.2, [])) :: zeN T t
def zeF (T : zTb) (sm : zSm) : List (Nat × zG) := zgF sm.2.2.2.2.2.2.1.2 ++ zeN T sm.2.2.2.2.2.2.1.1
def zeC : zNm → zCa
  | [] => []
  | (s, i, .inl f) :: t => ((i, .inl f), .inl (zsym s)) :: zeC t
  | (s, i, .inr s2) :: t => ((i, .inr (zsym s2)), .inl (zsym s)) :: zeC t
def zeW (sm : zSm) : Bool := zAll (fun q => (Nat.ble 40 q.1 && Nat.blt q.1 60) && (match q.2.2 with
  | .inl _ => true
  | .inr s2 => Nat.ble 40 s2 && Nat.blt s2 60)) sm.2.2.2.2.2.2.1.1 && zAll (fun q => Nat.ble 40 q.1 && Nat.blt q.1 60) sm.2.2.2.2.2.2.1.2
def ztG (T : zTb) (sm : zSm) (c : zCut) : List (Nat × zG) := zgF c.2.2.2.2.1 ++ (ztF c.1 ++ (zfF T c.2.1 ++ zeF T sm))
def zpC : List (Nat × Nat × Nat) → zCa
  | [] => []
  | (i, k, c) :: t => ((i, .inl k), .inr (.inl (some c))) :: zpC t
/-- they are not written -/
def zpW (sm : zSm) : Bool := zAll (fun q => Nat.blt q.2.1 64 && !(xmN sm.2.2.2.2.1 (64 * q.1 + q.2.1))) sm.2.2.2.2.2.1
def zqC : List (Nat × Nat × Nat) → zCa
  | [] => []
  | (i, k, s) :: t => ((i, .inl k), .inl (zsym s)) :: zqC t
def zcK (c : zCut) (sm : zSm) : zCa := zpC c.2.2.2.1 ++ (zqC c.2.2.2.2.2.2 ++ (zpC sm.2.2.2.2.2.1 ++ zcC c.2.1))
def zaT : Nat → List zP → zTm
  | _, [] => []
  | i, .inr (.inr u) :: t => (i, .inr (.inr u)) :: zaT (i + 2) t
  | i, .inl q :: t => (i, .inl q) :: zaT (i + 1) t
  | i, .inr (.inl c) :: t => (i, .inr (.inl c)) :: zaT (i + 1) t
def ztB (fa : zFa) (lo : zL) : zTm → Bool
  | [] => true
  | (l, p) :: t => (match zll lo l with
    | some v => zaB fa [p] [v]
    | none => false) && ztB fa lo t
def zcm0 : zCm → zI
  | .inl n => .inl (n : Int)
  | .inr (true, l) => .inr (l, -1, 2147483648)
  | .inr (false, l) => .inr (l, 1, 2147483648)
def zsv (fl : zFl) (ca : zCa) (lo : zL) (l : Nat) : Option zV := match zfS fl l with
  | some (i, k) => zcF i k ca
  | none => match Nat.ble 40 l && Nat.blt l 60 with
    | true => some (.inl (zsym l))
    | false => zll lo l
/-- ranges and relations hold of the values that symbols stand for -/
def zvB (fa : zFa) (vl : Nat → Option zV) (rg : zRg) (rl : List zRl) : Bool := zAll (fun q => match vl q.1 with
  | some (.inl v) => z32 fa v && zrk fa v fun lo hi => decide (q.2.1 ≤ lo) && decide (hi ≤ q.2.2)
  | _ => false) rg && zAll (fun q => match vl q.2.1, vl q.2.2.1 with
  | some (.inl x), some (.inl y) => z32 fa x && (z32 fa y && (match q.1 with
    | true => zsmB fa x y q.2.2.2
    | false => zleB fa x (zad y q.2.2.2)))
  | _, _ => false) rl
def zqB (fa : zFa) (ca : zCa) (vl : Nat → Option zV) (eqs : List (Nat × Nat × Nat)) : Bool := zAll (fun q => match zcF q.1 q.2.1 ca, vl q.2.2 with
  | some (.inl v), some (.inl w) => z32 fa w && zeB v w
  | _, _ => false) eqs
def zcmv (fa : zFa) (fl : zFl) (ca : zCa) (lo : zL) : zCm → Option zI
  | .inl n => some (.inl (n : Int))
  | .inr (up, l) => match zsv fl ca lo l with
    | some (.inl v) => match z32 fa v with
      | true => match up with
        | true => some (zad (zneg v) 2147483648)
        | false => some (zad v 2147483648)
      | false => none
    | _ => none
def zlex (fa : zFa) (fl : zFl) (ca : zCa) (lo : zL) : List zCm → List zI → Bool
  | c :: s, b :: t => match zcmv fa fl ca lo c with
    | some a => zlB fa a b || (zleB fa a b && zlex fa fl ca lo s t)
    | none => false
  | _, _ => false
def zold : List zCm → List zI
  | [] => []
  | c :: t => zcm0 c :: zold t
def zhk1 (lo : zL) (ca : zCa) (fa : zFa) (old : Option (List zI)) (c : zCut) : Bool := ztB fa lo c.1 && (zpB ca c.2.2.2.1 && (zvB fa (zsv c.2.1 ca lo) c.2.2.2.2.1 c.2.2.2.2.2.1 && (zqB fa ca (zsv c.2.1 ca lo) c.2.2.2.2.2.2 && (match old with
  | none => true
  | some ob => Nat.beq c.2.2.1.length ob.length && zlex fa c.2.1 ca lo c.2.2.1 ob))))
def zany (p : zCut → Bool) (pc : Nat) : zCt → Bool
  | [] => false
  | (k, c) :: t => match Nat.beq k pc with
    | true => match p c with
      | true => true
      | false => zany p pc t
    | false => zany p pc t
def zhook (T : zTb) (cts : zCt) (old : Option (List zI)) : zCk := fun pc lo sk ca fa _ => (match sk with
  | [] => true
  | _ => false) && (zfl T fa ca && zany (zhk1 lo ca fa old) pc cts)
def zretB (fa : zFa) (ret : Option zP) (v : Option zV) : Bool := match ret, v with
  | none, none => true
  | some (.inl (a, b)), some (.inl x) => zrk fa x fun lo hi => decide (a ≤ lo) && (decide (hi ≤ b) && (xin lo && xin hi))
  | some (.inr (.inr _)), some (.inr (.inr _)) => true
  | _, _ => false
def zfD0 : zFl → Bool
  | [] => true
  | q :: t => zAll (fun x => !(Nat.beq x.1 q.1)) t && zfD0 t
def zfW (T : zTb) (fl : zFl) : Bool := zfD0 fl && zAll (fun q => Nat.ble 60 q.1 && (match zrgF T.2.1 q.2.1 q.2.2 with
  | some _ => true
  | none => false)) fl
def zfn1 (T : zTb) (fa : zFa) (ca : zCa) (al : zAl) : Bool := zfW T al.1 && zvB fa (zsv al.1 ca []) al.2.1 al.2.2
def zex1 (p : zAl → Bool) : List zAl → Bool
  | [] => false
  | a :: t => match p a with
    | true => true
    | false => zex1 p t
def zfin (T : zTb) (sm : zSm) : zK := fun fa _ v ca => zfl T fa ca && (zretB fa sm.2.2.2.1 v && zex1 (zfn1 T fa ca) sm.2.2.2.2.2.2.2)
def zpcs : zCt → List Nat
  | [] => []
  | q :: t => q.1 :: zpcs t
/-- the row of a summary's method, with the summary's room -/
def zrow (r : xR) (sm : zSm) (cts : zCt) : zR := ((r.1, r.2.1, r.2.2.1, r.2.2.2.1, r.2.2.2.2.1, (sm.2.1.1, sm.2.1.2, 0, 0), r.2.2.2.2.2.2.1, r.2.2.2.2.2.2.2), zpcs cts)
def zwfc (fs : List (Nat × zG)) : zCm → Bool
  | .inl n => Nat.blt n 17179869184
  | .inr (_, l) => Nat.blt l 100 && (xin (zr0 fs l).1 && xin (zr0 fs l).2.1)
/-- locals' symbols are less than 40, fields' are not less than 60, and are declared -/
def zwff (T : zTb) (tm : zTm) (fl : zFl) : Bool := zAll (fun q => Nat.blt q.1 40) tm && zfW T fl
/-- the run from the entry -/
def zrunE (T : zTb) (cm : List (Nat × List Nat)) (ns : Nat) (sm : zSm) (cts : zCt) (n : Nat) : Bool := match (gt xmt sm.1).bind xrow with
  | some r => (zpW sm && (zeW sm && Nat.ble r.2.2.1 40)) && zex T (zhook T cts none, cm, ns, sm.2.2.2.2.1) n (zrow r sm cts) 0 (ztL (zaT 0 sm.2.2.1)) [] (zeC sm.2.2.2.2.2.2.1.1 ++ zpC sm.2.2.2.2.2.1) (ztF (zaT 0 sm.2.2.1) ++ zeF T sm, [], []) 100 (zfin T sm)
  | none => false
/-- the run from a cut -/
def zrunC (T : zTb) (cm : List (Nat × List Nat)) (ns : Nat) (sm : zSm) (cts : zCt) (n : Nat) (q : Nat × zCut) : Bool := match (gt xmt sm.1).bind xrow with
  | some r => match xfi r.2.2.2.2.2.2.2 q.1 with
    | some i => (zAll (zwfc (ztG T sm q.2)) q.2.2.2.1 && zwff T q.2.1 q.2.2.1) && zsi T (zhook T cts (some (zold q.2.2.2.1)), cm, ns, sm.2.2.2.2.1) (zex T (zhook T cts (some (zold q.2.2.2.1)), cm, ns, sm.2.2.2.2.1) n) (zrow r sm cts) q.1 (ztL q.2.1) [] (zcK q.2 sm) (ztG T sm q.2, q.2.2.2.2.2.2.1, []) 100 (zfin T sm) i.2 i.1
    | none => false
  | none => false
-- soundness
def zls (ls : Array Slot) (η : zE) : zE := fun k => match ls[k]? with
  | some (.val (.int x)) => x.toInt
  | some (.val (.long x)) => x.toInt
  | _ => η k
theorem zls_bd {ls : Array Slot} {η : zE} (h : ∀ k, zbd (η k)) : ∀ k, zbd (zls ls η k) := by
  intro k
  unfold zls
  split
  · exact zbd32 _
  · exact zbd64 _
  · exact h k
theorem ztL_in {ρ : Nat → Nat} {ls : Array Slot} {η : zE} {l : Nat} {p : zP} {w : Value} (hw : ls[l]? = some (.val w)) (hp : okP ρ p w) : zv ρ (zls ls η) (ztV l p) = w := by
  rcases p with q | c | u
  · obtain ⟨x, rfl, -⟩ := hp
    show Value.int (Int32.ofInt (1 * zls ls η l + 0)) = _
    have : zls ls η l = x.toInt := by unfold zls; rw [hw]
    rw [this, Int.one_mul, Int.add_zero, i32_of]
  · have hp : w = zv ρ (fun _ => 0) (.inr (.inl c)) := hp
    rw [hp]
    rcases c with _ | c <;> rfl
  · obtain ⟨x, rfl⟩ := hp
    show Value.long (Int64.ofInt (1 * zls ls η l + 0)) = _
    have : zls ls η l = x.toInt := by unfold zls; rw [hw]
    rw [this, Int.one_mul, Int.add_zero, i64_of]
theorem ztm_ok {ρ : Nat → Nat} {ls : Array Slot} {η : zE} (hb : ∀ k, zbd (η k)) : ∀ (tm : zTm), (∀ q ∈ tm, ∃ w, ls[q.1]? = some (.val w) ∧ okP ρ q.2 w) → (∀ q ∈ zdL ρ (zls ls η) (ztL tm), ls[q.1]? = some (.val q.2)) ∧ ∀ q ∈ ztF tm, zgs (zls ls η q.1) q.2 := by
  intro tm
  induction tm with
  | nil => intro _; exact ⟨fun q h => (by cases h), fun q h => (by cases h)⟩
  | cons q t ih =>
    intro h
    obtain ⟨l, p⟩ := q
    obtain ⟨i1, i2⟩ := ih (fun q hq => h q (List.mem_cons_of_mem _ hq))
    obtain ⟨w, hw, hp⟩ := h _ List.mem_cons_self
    dsimp only at hw hp
    constructor
    · intro q hq
      rcases List.mem_cons.mp hq with e | e
      · rw [e]
        show ls[l]? = some (.val (zv ρ (zls ls η) (ztV l p)))
        rw [ztL_in hw hp]
        exact hw
      · exact i1 q e
    · intro q hq
      rcases p with ⟨a, b⟩ | c
      · rcases List.mem_cons.mp hq with e | e
        · rw [e]
          obtain ⟨x, rfl, h1, h2⟩ := hp
          have : zls ls η l = x.toInt := by unfold zls; rw [hw]
          show zgs (zls ls η l) (a, b, [])
          rw [this]
          exact ⟨h1, h2, fun _ z => by cases z⟩
        · exact i2 q e
      · exact i2 q hq
theorem ztB_ok {ρ : Nat → Nat} {η : zE} {fa : zFa} {lo : zL} (hs : zsat η fa) {ls : Array Slot} (hl : ∀ q ∈ zdL ρ η lo, ls[q.1]? = some (.val q.2)) : ∀ (tm : zTm), ztB fa lo tm = true → ∀ q ∈ tm, ∃ w, ls[q.1]? = some (.val w) ∧ okP ρ q.2 w := by
  intro tm
  induction tm with
  | nil => intro _ q hq; cases hq
  | cons x t ih =>
    intro h q hq
    obtain ⟨l, p⟩ := x
    unfold ztB at h
    rw [Bool.and_eq_true] at h
    rcases List.mem_cons.mp hq with e | e
    · rw [e]
      cases e2 : zll lo l with
      | none => rw [e2] at h; cases h.1
      | some v =>
        rw [e2] at h
        have := zaB_ok (ρ := ρ) hs _ _ h.1
        exact ⟨zv ρ η v, hl _ (zll_ok e2), this.1⟩
    · exact ih h.2 q e
theorem zaT_ok {ρ : Nat → Nat} : ∀ (ps : List zP) (vs : List Value) (k : Nat), zaO ρ ps vs → ∀ q ∈ zaT k ps, ∃ w, (q.1, w) ∈ lv_args k vs ∧ okP ρ q.2 w := by
  intro ps
  induction ps with
  | nil => intro vs k _ q hq; cases hq
  | cons p ps ih =>
    intro vs k h q hq
    cases vs with
    | nil => exact h.elim
    | cons v vs =>
      obtain ⟨h1, h2⟩ := h
      rcases p with a | c | u
      · have e : lv_args k (v :: vs) = (k, v) :: lv_args (k + 1) vs := by
          obtain ⟨x, rfl, -⟩ := h1
          rfl
        rw [e]
        rcases List.mem_cons.mp hq with e2 | e2
        · rw [e2]; exact ⟨v, List.mem_cons_self, h1⟩
        · obtain ⟨w, w1, w2⟩ := ih vs (k + 1) h2 q e2
          exact ⟨w, List.mem_cons_of_mem _ w1, w2⟩
      · have e : lv_args k (v :: vs) = (k, v) :: lv_args (k + 1) vs := by
          have h1 : v = zv ρ (fun _ => 0) (.inr (.inl c)) := h1
          rw [h1]
          rcases c with _ | c <;> rfl
        rw [e]
        rcases List.mem_cons.mp hq with e2 | e2
        · rw [e2]; exact ⟨v, List.mem_cons_self, h1⟩
        · obtain ⟨w, w1, w2⟩ := ih vs (k + 1) h2 q e2
          exact ⟨w, List.mem_cons_of_mem _ w1, w2⟩
      · have e : lv_args k (v :: vs) = (k, v) :: lv_args (k + 2) vs := by
          obtain ⟨x, rfl⟩ := h1
          rfl
        rw [e]
        rcases List.mem_cons.mp hq with e2 | e2
        · rw [e2]; exact ⟨v, List.mem_cons_self, h1⟩
        · obtain ⟨w, w1, w2⟩ := ih vs (k + 2) h2 q e2
          exact ⟨w, List.mem_cons_of_mem _ w1, w2⟩
theorem zaO_cats {ρ : Nat → Nat} : ∀ (ps : List zP) (vs : List Value), zaO ρ ps vs → (lg_sl vs).length = (ps.map (fun p => match p with | .inr (.inr _) => 2 | _ => 1)).sum := by
  intro ps
  induction ps with
  | nil =>
    intro vs h
    cases vs with
    | nil => rfl
    | cons v t => exact h.elim
  | cons p ps ih =>
    intro vs h
    cases vs with
    | nil => exact h.elim
    | cons v vs =>
      obtain ⟨h1, h2⟩ := h
      have i := ih vs h2
      unfold lg_sl at i ⊢
      rw [List.flatMap_cons, List.length_append, i, List.map_cons, List.sum_cons]
      congr 1
      rcases p with a | c | u
      · obtain ⟨x, rfl, -⟩ := h1
        rfl
      · have h1 : v = zv ρ (fun _ => 0) (.inr (.inl c)) := h1
        rw [h1]
        rcases c with _ | c <;> rfl
      · obtain ⟨x, rfl⟩ := h1
        rfl
-- ranks
def zenc : List Int → Nat
  | [] => 0
  | x :: t => x.toNat * 17179869184 ^ t.length + zenc t
theorem zenc_lt : ∀ (xs : List Int), (∀ x ∈ xs, 0 ≤ x ∧ x < 17179869184) → zenc xs < 17179869184 ^ xs.length := by
  intro xs
  induction xs with
  | nil => intro _; exact Nat.one_pos
  | cons x t ih =>
    intro h
    have h1 := h x List.mem_cons_self
    have h2 := ih (fun y hy => h y (List.mem_cons_of_mem _ hy))
    have h3 : x.toNat + 1 ≤ 17179869184 := by omega
    have h4 := Nat.mul_le_mul_right (17179869184 ^ t.length) h3
    show x.toNat * 17179869184 ^ t.length + zenc t < 17179869184 ^ (t.length + 1)
    rw [Nat.pow_succ, Nat.mul_comm (17179869184 ^ t.length)]
    rw [Nat.add_mul, Nat.one_mul] at h4
    omega
def zlexP : List Int → List Int → Prop
  | x :: s, y :: t => x < y ∨ (x ≤ y ∧ zlexP s t)
  | _, _ => False
theorem zenc_lex : ∀ (xs ys : List Int), xs.length = ys.length → (∀ x ∈ xs, 0 ≤ x ∧ x < 17179869184) → (∀ y ∈ ys, 0 ≤ y ∧ y < 17179869184) → zlexP xs ys → zenc xs < zenc ys := by
  intro xs
  induction xs with
  | nil => intro ys _ _ _ h; exact h.elim
  | cons x s ih =>
    intro ys hl h1 h2 h
    cases ys with
    | nil => exact h.elim
    | cons y t =>
      have hl2 : s.length = t.length := Nat.succ.inj hl
      have hx := h1 x List.mem_cons_self
      have hy := h2 y List.mem_cons_self
      have hs := zenc_lt s (fun z hz => h1 z (List.mem_cons_of_mem _ hz))
      show x.toNat * 17179869184 ^ s.length + zenc s < y.toNat * 17179869184 ^ t.length + zenc t
      rw [← hl2]
      by_cases e : x < y
      · have h3 : x.toNat + 1 ≤ y.toNat := by omega
        have h4 := Nat.mul_le_mul_right (17179869184 ^ s.length) h3
        rw [Nat.add_mul, Nat.one_mul] at h4
        omega
      · rcases h with h | ⟨h3, h4⟩
        · exact absurd h e
        · have e2 : x = y := by omega
          subst e2
          have := ih t hl2 (fun z hz => h1 z (List.mem_cons_of_mem _ hz)) (fun z hz => h2 z (List.mem_cons_of_mem _ hz)) h4
          omega
theorem zcm_bd {η : zE} {fs : List (Nat × zG)} (hb : ∀ k, zbd (η k)) (hs : ∀ q ∈ fs, zgs (η q.1) q.2) {c : zCm} (h : zwfc fs c = true) : 0 ≤ zd η (zcm0 c) ∧ zd η (zcm0 c) < 17179869184 := by
  rcases c with n | ⟨up, l⟩
  · have := blt_ok h
    show 0 ≤ (n : Int) ∧ (n : Int) < 17179869184
    omega
  · unfold zwfc at h
    rw [Bool.and_eq_true, Bool.and_eq_true] at h
    obtain ⟨-, h1, h2⟩ := h
    simp only [xin, Bool.and_eq_true, decide_eq_true_eq] at h1 h2
    have hr := zr0_ok hb l _ hs
    have r1 := hr.1
    have r2 := hr.2.1
    cases up with
    | true =>
      show 0 ≤ -1 * η l + 2147483648 ∧ -1 * η l + 2147483648 < 17179869184
      constructor <;> omega
    | false =>
      show 0 ≤ 1 * η l + 2147483648 ∧ 1 * η l + 2147483648 < 17179869184
      constructor <;> omega
/-- the environment at a cut -/
def zle (ls : Array Slot) (fl : zFl) (es : va_W) (η : zE) : zE := fun k => match zfS fl k with
  | some (i, f) => match zfv es i f with
    | some (.int x) => x.toInt
    | _ => η k
  | none => zls ls η k
theorem zle_bd {ls : Array Slot} {fl : zFl} {es : va_W} {η : zE} (h : ∀ k, zbd (η k)) : ∀ k, zbd (zle ls fl es η k) := by
  intro k
  unfold zle
  split
  · split
    · exact zbd32 _
    · exact h k
  · exact zls_bd h k
theorem zsv_ok {ρ : Nat → Nat} {η : zE} {fa : zFa} {lo : zL} {ca : zCa} {fl : zFl} {es : va_W} (hs : zsat η fa) (hh : zcH ρ η ca es) {ls : Array Slot} (hsz : ls.size ≤ 40) (hl : ∀ q ∈ zdL ρ η lo, ls[q.1]? = some (.val q.2)) {l : Nat} {v : zI} (e1 : zsv fl ca lo l = some (.inl v)) (e2 : z32 fa v = true) : zle ls fl es η l = zd η v := by
  have hx := z32_ok hs e2
  unfold zsv at e1
  unfold zle
  cases e4 : zfS fl l with
  | none =>
    rw [e4] at e1
    dsimp only at e1 ⊢
    cases e5 : Nat.ble 40 l && Nat.blt l 60 with
    | true =>
      rw [e5] at e1
      cases e1
      rw [Bool.and_eq_true] at e5
      have h1 := Nat.le_of_ble_eq_true e5.1
      unfold zls
      rw [Array.getElem?_eq_none (by omega)]
      show η l = 1 * η l + 0
      omega
    | false =>
      rw [e5] at e1
      have := hl _ (zll_ok (ρ := ρ) e1)
      dsimp only at this ⊢
      unfold zls
      rw [this]
      exact hx
  | some q =>
    rw [e4] at e1
    obtain ⟨i, k⟩ := q
    have h9 : zfv es i k = some (.int (zi η v)) := (hh _ (zcF_some e1)).1
    dsimp only
    rw [h9]
    exact hx
theorem zcmv_ok {ρ : Nat → Nat} {η : zE} {fa : zFa} {lo : zL} {ca : zCa} {fl : zFl} {es : va_W} (hs : zsat η fa) (hh : zcH ρ η ca es) {ls : Array Slot} (hsz : ls.size ≤ 40) (hl : ∀ q ∈ zdL ρ η lo, ls[q.1]? = some (.val q.2)) {c : zCm} {a : zI} (h : zcmv fa fl ca lo c = some a) : zd η a = zd (zle ls fl es η) (zcm0 c) := by
  rcases c with n | ⟨up, l⟩
  · cases h; rfl
  · dsimp only [zcmv] at h
    cases e1 : zsv fl ca lo l with
    | none => rw [e1] at h; cases h
    | some v =>
      rw [e1] at h
      rcases v with v | v
      · dsimp only at h
        cases e2 : z32 fa v with
        | false => rw [e2] at h; cases h
        | true =>
          rw [e2] at h
          have e3 := zsv_ok hs hh hsz hl e1 e2
          cases up with
          | true =>
            cases h
            show zd η (zad (zneg v) 2147483648) = -1 * zle ls fl es η l + 2147483648
            rw [zd_ad, e3]
            rcases v with z | ⟨k, m, c⟩
            · show -z + 2147483648 = -1 * z + 2147483648
              omega
            · show -m * η k + -c + 2147483648 = -1 * (m * η k + c) + 2147483648
              rw [Int.neg_mul]
              omega
          | false =>
            cases h
            show zd η (zad v 2147483648) = 1 * zle ls fl es η l + 2147483648
            rw [zd_ad, e3]
            omega
      · cases h
theorem zvB_ok {η η2 : zE} {fa : zFa} (hs : zsat η fa) {vl : Nat → Option zV} {rg : zRg} {rl : List zRl} (hv : ∀ l v, vl l = some (.inl v) → z32 fa v = true → η2 l = zd η v) (h : zvB fa vl rg rl = true) : zEr rg η2 ∧ ∀ q ∈ rl, zrs η2 q := by
  unfold zvB at h
  rw [Bool.and_eq_true] at h
  constructor
  · intro q hq
    have h1 := zAll_ok h.1 q hq
    split at h1
    · rename_i v e
      rw [Bool.and_eq_true, zrk_eq, Bool.and_eq_true, decide_eq_true_eq, decide_eq_true_eq] at h1
      rw [hv _ _ e h1.1]
      have := zrg_ok hs v
      constructor <;> omega
    · cases h1
  · intro q hq
    have h1 := zAll_ok h.2 q hq
    obtain ⟨sg, a, b, c⟩ := q
    dsimp only at h1
    split at h1
    · rename_i x y e1 e2
      rw [Bool.and_eq_true, Bool.and_eq_true] at h1
      obtain ⟨x1, x2, x3⟩ := h1
      have ea := hv _ _ e1 x1
      have eb := hv _ _ e2 x2
      cases sg with
      | true =>
        show η2 a + η2 b ≤ c
        rw [ea, eb]
        exact zsmB_ok hs x3
      | false =>
        have := zleB_ok hs x3
        rw [zd_ad] at this
        show η2 a - η2 b ≤ c
        rw [ea, eb]
        omega
    · cases h1
theorem zlex_ok {ρ : Nat → Nat} {η : zE} {fa : zFa} {lo : zL} {ca : zCa} {fl : zFl} {es : va_W} (hs : zsat η fa) (hh : zcH ρ η ca es) {ls : Array Slot} (hsz : ls.size ≤ 40) (hl : ∀ q ∈ zdL ρ η lo, ls[q.1]? = some (.val q.2)) : ∀ (cm : List zCm) (ob : List zI), zlex fa fl ca lo cm ob = true → zlexP ((zold cm).map (zd (zle ls fl es η))) (ob.map (zd η)) := by
  intro cm
  induction cm with
  | nil => intro ob h; cases ob <;> (unfold zlex at h; cases h)
  | cons c t ih =>
    intro ob h
    cases ob with
    | nil => unfold zlex at h; cases h
    | cons b ob =>
      unfold zlex at h
      cases e1 : zcmv fa fl ca lo c with
      | none => rw [e1] at h; cases h
      | some a =>
        rw [e1] at h
        dsimp only at h
        have e2 := zcmv_ok (ρ := ρ) hs hh hsz hl e1
        rw [Bool.or_eq_true, Bool.and_eq_true] at h
        show zd (zle ls fl es η) (zcm0 c) < zd η b ∨ (zd (zle ls fl es η) (zcm0 c) ≤ zd η b ∧ zlexP _ _)
        rw [← e2]
        rcases h with h | h
        · exact Or.inl (zlB_ok hs h)
        · exact Or.inr ⟨zleB_ok hs h.1, ih ob h.2⟩
theorem zold_len (cm : List zCm) : (zold cm).length = cm.length := by
  induction cm with
  | nil => rfl
  | cons c t ih => exact congrArg (· + 1) ih
theorem zold_bd {η : zE} {fs : List (Nat × zG)} (hb : ∀ k, zbd (η k)) (hs : ∀ q ∈ fs, zgs (η q.1) q.2) : ∀ (cm : List zCm), zAll (zwfc fs) cm = true → ∀ x ∈ (zold cm).map (zd η), 0 ≤ x ∧ x < 17179869184 := by
  intro cm
  induction cm with
  | nil => intro _ x hx; cases hx
  | cons c t ih =>
    intro h x hx
    unfold zAll at h
    rw [Bool.and_eq_true] at h
    rcases List.mem_cons.mp hx with e | e
    · rw [e]; exact zcm_bd hb hs h.1
    · exact ih h.2 x e
theorem zany_ok {p : zCut → Bool} {pc : Nat} : ∀ {cts : zCt}, zany p pc cts = true → ∃ c, (pc, c) ∈ cts ∧ p c = true := by
  intro cts
  induction cts with
  | nil => intro h; cases h
  | cons x t ih =>
    obtain ⟨k, c⟩ := x
    intro h
    unfold zany at h
    cases e : Nat.beq k pc with
    | true =>
      rw [e] at h
      dsimp only at h
      cases e2 : p c with
      | true => rw [← Nat.eq_of_beq_eq_true e]; exact ⟨c, List.mem_cons_self, e2⟩
      | false =>
        rw [e2] at h
        obtain ⟨c2, h1, h2⟩ := ih h
        exact ⟨c2, List.mem_cons_of_mem _ h1, h2⟩
    | false =>
      rw [e] at h
      obtain ⟨c2, h1, h2⟩ := ih h
      exact ⟨c2, List.mem_cons_of_mem _ h1, h2⟩
theorem zex1_ok {p : zAl → Bool} : ∀ {l : List zAl}, zex1 p l = true → ∃ a ∈ l, p a = true := by
  intro l
  induction l with
  | nil => intro h; cases h
  | cons a t ih =>
    intro h
    unfold zex1 at h
    cases e : p a with
    | true => exact ⟨a, List.mem_cons_self, e⟩
    | false =>
      rw [e] at h
      obtain ⟨c2, h1, h2⟩ := ih h
      exact ⟨c2, List.mem_cons_of_mem _ h1, h2⟩
/-- fields' symbols at a cut: they hold what the fields hold, and lie in the declared ranges -/
theorem zfl_ok {T : zTb} {ρ : Nat → Nat} {γ : Nat → ClassId} {es : va_W} {η0 : zE} (C : zCo T ρ γ η0 [] es) {η : zE} : ∀ (fl : zFl), (∀ q ∈ fl, ∀ x : Int32, zfv es q.2.1 q.2.2 = some (.int x) → η q.1 = x.toInt) → zAll (fun q => Nat.ble 60 q.1 && (match zrgF T.2.1 q.2.1 q.2.2 with | some _ => true | none => false)) fl = true → zCo T ρ γ η (zcC fl) es ∧ ∀ q ∈ zfF T fl, zgs (η q.1) q.2 := by
  intro fl
  induction fl with
  | nil =>
    intro _ _
    refine ⟨?_, fun q hq => by cases hq⟩
    refine ⟨fun i ty n rs hi ht => ?_, C.2.1, C.2.2.1, C.2.2.2.1, fun q hq => (by cases hq)⟩
    obtain ⟨f, h1, h2⟩ := C.1 i ty n rs hi ht
    refine ⟨f, h1, fun j hj => ?_⟩
    rcases h2 j hj with ⟨ix, v, hm, -⟩ | h
    · cases hm
    · exact Or.inr h
  | cons q t ih =>
    intro h1 h2
    obtain ⟨s, i, k⟩ := q
    unfold zAll at h2
    rw [Bool.and_eq_true, Bool.and_eq_true] at h2
    obtain ⟨i1, i2⟩ := ih (fun q hq => h1 q (List.mem_cons_of_mem _ hq)) h2.2
    have h3 := h2.1.2
    dsimp only at h3
    cases e1 : zrgF T.2.1 i k with
    | none => rw [e1] at h3; cases h3
    | some q2 =>
    obtain ⟨a, b⟩ := q2
    obtain ⟨ci, fs, g1, g2⟩ := zrgF_ok e1
    obtain ⟨vs, w, g3, g4, x, g5, g6, g7⟩ := zCo.fld C g1 g2 (show zcF i k [] = none from rfl)
    subst g5
    have hv : zfv es i k = some (.int x) := by rw [zfv_get g3]; exact g4
    have hx : η s = x.toInt := h1 _ List.mem_cons_self x hv
    constructor
    · refine zCo.add (q := ((i, .inl k), .inl (zsym s))) i1 ⟨?_, fun ix z => by cases z⟩
      show zfv es i k = some (.int (Int32.ofInt (1 * η s + 0)))
      rw [hv, hx, Int.one_mul, Int.add_zero, i32_of]
    · intro q hq
      unfold zfF at hq
      rw [e1] at hq
      rcases List.mem_cons.mp hq with e | e
      · rw [e]
        show zgs (η s) (a, b, [])
        rw [hx]
        exact ⟨g6, g7, fun _ z => by cases z⟩
      · exact i2 q e
theorem zfS_mem {s : Nat} {q : Nat × Nat} : ∀ {fl : zFl}, zfS fl s = some q → (s, q) ∈ fl := by
  intro fl
  induction fl with
  | nil => intro h; cases h
  | cons x t ih =>
    obtain ⟨j, i, k⟩ := x
    intro h
    unfold zfS at h
    cases e : Nat.beq j s with
    | true =>
      rw [e] at h
      cases h
      rw [← Nat.eq_of_beq_eq_true e]
      exact List.mem_cons_self
    | false =>
      rw [e] at h
      exact List.mem_cons_of_mem _ (ih h)
theorem zfS_get : ∀ {fl : zFl}, zfD0 fl = true → ∀ q ∈ fl, zfS fl q.1 = some q.2 := by
  intro fl
  induction fl with
  | nil => intro _ q hq; cases hq
  | cons x t ih =>
    obtain ⟨j, i, k⟩ := x
    intro h q hq
    unfold zfD0 at h
    rw [Bool.and_eq_true] at h
    unfold zfS
    rcases List.mem_cons.mp hq with e | e
    · rw [e]
      dsimp only
      rw [Nat.beq_refl]
    · have h3 := zAll_ok h.1 q e
      dsimp only at h3
      cases e2 : Nat.beq j q.1 with
      | false => exact ih h.2 q e
      | true =>
        have := Nat.eq_of_beq_eq_true e2
        rw [← this, Nat.beq_refl] at h3
        cases h3
theorem zpC_add {T : zTb} {ρ : Nat → Nat} {γ : Nat → ClassId} {η : zE} {es : va_W} {ca : zCa} (C : zCo T ρ γ η ca es) : ∀ (pre : List (Nat × Nat × Nat)), (∀ q ∈ pre, zfv es q.1 q.2.1 = some (.ref (ρ q.2.2))) → zCo T ρ γ η (zpC pre ++ ca) es := by
  intro pre
  induction pre with
  | nil => intro _; exact C
  | cons q t ih =>
    obtain ⟨i, k, c⟩ := q
    intro h
    exact zCo.add (q := ((i, .inl k), .inr (.inl (some c)))) (ih (fun q hq => h q (List.mem_cons_of_mem _ hq))) ⟨h _ List.mem_cons_self, fun ix z => by cases z⟩
theorem zCo.perm {T : zTb} {ρ : Nat → Nat} {γ : Nat → ClassId} {η : zE} {es : va_W} {ca cb : zCa} (h : ∀ q, q ∈ ca ↔ q ∈ cb) (C : zCo T ρ γ η ca es) : zCo T ρ γ η cb es := by
  have hF : ∀ {a b : Nat}, cF ca a b → cF cb a b := fun ⟨v, hv⟩ => ⟨v, (h _).mp hv⟩
  refine ⟨fun i ty n rs hi ht => ?_, C.2.1, fun i ci fs hi => ?_, fun q hq => ?_, fun q hq => C.2.2.2.2 q ((h q).mpr hq)⟩
  · obtain ⟨f, h1, h2⟩ := C.1 i ty n rs hi ht
    exact ⟨f, h1, fun j hj => (h2 j hj).imp (fun ⟨ix, v, a, b⟩ => ⟨ix, v, (h _).mp a, b⟩) id⟩
  · obtain ⟨vs, h1, h2, h3⟩ := C.2.2.1 i ci fs hi
    exact ⟨vs, h1, h2, fun k f v a b => (h3 k f v a b).imp hF id⟩
  · exact (C.2.2.2.1 q hq).imp hF (fun h => h.imp hF id)
theorem zfv_kept {wr : List Nat} {es es2 : va_W} (hf : zfrm wr es es2) {i k : Nat} {v : Value} (hk : k < 64) (hw : xmN wr (64 * i + k) = false) (h : zfv es i k = some v) : zfv es2 i k = some v := by
  have h5 := hf.1 i k hk hw
  unfold zct at h5
  unfold zfv at h ⊢
  split at h
  · rename_i x0 x1 vs e1
    rw [e1] at h5
    dsimp only at h5
    split at h5
    · rename_i y0 y1 vs2 e2
      rw [e2]
      have h8 := Sum.inl.inj (Option.some.inj h5)
      dsimp only
      rw [h8]
      exact h
    · rename_i y0 y1 e2
      cases k <;> cases h5
    · cases h5
  · cases h
theorem zpW_ok {sm : zSm} (h : zpW sm = true) {ρ : Nat → Nat} {es es2 : va_W} (hf : zfrm sm.2.2.2.2.1 es es2) (hp : ∀ q ∈ sm.2.2.2.2.2.1, zfv es q.1 q.2.1 = some (.ref (ρ q.2.2))) : ∀ q ∈ sm.2.2.2.2.2.1, zfv es2 q.1 q.2.1 = some (.ref (ρ q.2.2)) := by
  intro q hq
  have h1 := zAll_ok h q hq
  rw [Bool.and_eq_true] at h1
  refine zfv_kept hf (blt_ok h1.1) ?_ (hp q hq)
  cases e : xmN sm.2.2.2.2.1 (64 * q.1 + q.2.1) with
  | false => rfl
  | true => rw [e] at h1; cases h1.2
