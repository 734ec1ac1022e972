/-! THE CLAIM OUT OF ONE WALK OF THE LAW'S BODY. Your part is whole_start (and what it stands on); all else here is the same for every law, but numbers. -/
def R_law : String := "NightLightsLaw"
def lw_P (b : Addr) (xs : List Int32) (args : Array Value) (s : State) : Prop := args = #[.ref b] ∧ s.IntsAt b xs ∧ xs.length ≤ 3072 ∧ (Jvm.Cond.and given_1 narrow_1).before args s = true
def lw_Q (_ : Array Value) (s : State) (o : Outcome) (t : State) : Prop := o = .returned (some (.int 1)) ∧ Framed s o t [] 600000 7302250
def lw_Z (below : List Frame) (a : Array Value) (s : State) : State → Prop := fun t => ∃ o, t.status = .running ∧ Ended t below o ∧ lw_Q a s o t
/-- the law's own end, with 1 on the stack, nothing written that was there before, its room as the claim has it -/
theorem lw_ret {p : Program} {l : Launch} {e : Env} {s : State} {m : MethodId} {below : List Frame} {meth : Method} {c : Code} {b : Nat} (hx : p.tables.exec = Jvm.exec) (hb : c.code = code) (hr : meth.sig.returnType = ret) (hlocks : meth.locks = false) {pc : Nat} {H : Heap} {ls : Array Slot} (hdg : decode code pc = .ok (.ireturn, 1)) : W p l e room_1 s m #[Value.ref b] below meth c H [] 600000 7302250 (lw_Z below #[Value.ref b] s) (F0 m pc ls [.int 1]) := by
  intro T hT X
  obtain ⟨fs, hret, hrun, hended, hW, hframe⟩ := X.leave (v := some (.int 1)) (hlocks := hlocks) (fun h => by rw [hr] at h; cases h)
  have hmeth' : T.vm.method? m = some meth := X.method'
  refine ⟨T.setFrames fs, ?_, .returned (some (.int 1)), hrun, hended, rfl, ⟨_, rfl⟩, hW, hframe⟩
  jvm_step X.here [X.here.top, hx, hb, hdg, hmeth', hr, ret, narrow_b1]
  (try refine ⟨rfl, ?_⟩); (try refine ⟨rfl, ?_⟩)
  first | (intro acts; rw [hret _ acts rfl rfl rfl]) | rw [hret _ _ rfl rfl rfl]
  exact Steps.refl _
/-- what holds at the law's entry: the machine, the code, the tables' words (any of lw_tbl by 'hts w (by decide +kernel)'), the script of L ints xs at the cell b, what the Statement gives of the start (any of its parts by flat_of_before) -/
def lw_At (p : Program) (s : State) (m : MethodId) (meth : Method) (c : Code) (b L : Nat) (xs : Nat → Int32) : Prop :=
  p.tables.exec = Jvm.exec ∧ c.code = code ∧ meth.sig.returnType = ret ∧ c.maxLocals = 4 ∧ s.vm.findClass R_law = some m.cls ∧ (∀ w ∈ lw_tbl, w.before #[Value.ref b] s = true) ∧ va_X b L xs s s.heap ∧ b < s.heap.size ∧ meth.locks = false ∧ (Jvm.Cond.and given_1 narrow_1).before #[Value.ref b] s = true

def xWX : List xC := [.inr (10, [.inr (.inl (some 1)), .inr (.inl (some 3)), .inr (.inl (some 6)), .inr (.inl (some 10)), .inr (.inl (some 14)), .inr (.inl (some 16)), .inr (.inl (some 17)), .inr (.inl (some 23)), .inr (.inl (some 29)), .inr (.inl (some 32)), .inr (.inl (some 33)), .inr (.inl (some 34)), .inr (.inl (some 45)), .inl (.inl 0), .inl (.inl 0), .inl (.inl 0), .inl (.inl 0), .inl (.inl (-1))]),
  .inr (8, [.inl (.inl 0), .inl (.inl 0), .inl (.inl 0), .inl (.inl 0), .inr (.inr 0), .inr (.inl (some 2)), .inl (.inl 0)]),
  .inl (.byte, 1600, .inl []),
  .inr (5, [.inl (.inl 0), .inl (.inl 0), .inr (.inl (some 1)), .inr (.inl (some 4)), .inr (.inl (some 5)), .inr (.inl none), .inl (.inl 0)]),
  .inl (.long, 6, .inr []),
  .inl (.long, 4, .inr []),
  .inr (7, [.inr (.inl (some 7)), .inr (.inl (some 8)), .inr (.inl (some 9)), .inl (.inl 0), .inl (.inl 0), .inl (.inl 0), .inl (.inl 0)]),
  .inl (.int, 6, .inl [(5, .inl 0), (4, .inl 0), (3, .inl 0), (2, .inl 0), (1, .inl 0), (0, .inl 0)]),
  .inl (.int, 6, .inl [(5, .inl 0), (4, .inl 0), (3, .inl 0), (2, .inl 0), (1, .inl 0), (0, .inl 0)]),
  .inl (.int, 6, .inl [(5, .inl (-1)), (4, .inl (-1)), (3, .inl (-1)), (2, .inl (-1)), (1, .inl (-1)), (0, .inl (-1))]),
  .inr (7, [.inr (.inl (some 11)), .inr (.inl (some 12)), .inr (.inl (some 13)), .inl (.inl 0), .inl (.inl 0), .inl (.inl 0), .inl (.inl 0)]),
  .inl (.int, 6, .inl []),
  .inl (.int, 6, .inl []),
  .inl (.int, 6, .inl []),
  .inr (2, [.inr (.inl (some 15)), .inl (.inl 0), .inl (.inl 0)]),
  .inl (.int, 902, .inl [(21, .inl 0), (20, .inl 0), (19, .inl 0), (18, .inl 0), (17, .inl (-1)), (16, .inl (-1)), (15, .inl (-1)), (14, .inl (-1)), (13, .inl (-1)), (12, .inl (-1)), (11, .inl 0), (10, .inl 0), (9, .inl 0), (8, .inl 0), (7, .inl 0), (6, .inl 0), (5, .inl 0), (4, .inl 0), (3, .inl 0), (2, .inl 0), (1, .inl 0), (0, .inl 0)]),
  .inl (.int, 66, .inl []),
  .inr (6, [.inl (.inl 0), .inr (.inl (some 18)), .inr (.inl (some 19)), .inr (.inl (some 20)), .inr (.inl (some 21)), .inr (.inl (some 22)), .inr (.inr 0)]),
  .inl (.int, 30, .inl []),
  .inl (.boolean, 30, .inl []),
  .inl (.int, 30, .inl []),
  .inl (.int, 30, .inl []),
  .inl (.long, 13, .inr []),
  .inr (3, [.inr (.inl (some 24)), .inl (.inl 0), .inl (.inl 0), .inl (.inl 0), .inl (.inl 0), .inr (.inl (some 25)), .inr (.inl (some 26)), .inr (.inl (some 27)), .inr (.inl (some 28))]),
  .inl (.int, 6, .inl []),
  .inl (.int, 24, .inl []),
  .inl (.int, 6, .inl []),
  .inl (.int, 6, .inl []),
  .inl (.int, 6, .inl []),
  .inr (9, [.inr (.inl (some 30)), .inr (.inl (some 31)), .inl (.inl 0)]),
  .inl (.int, 6, .inl []),
  .inl (.int, 6, .inl []),
  .inr (0, [.inl (.inl 0), .inl (.inl 0), .inr (.inl none), .inr (.inl none), .inl (.inl 0), .inl (.inl 0)]),
  .inl (.int, 6, .inl []),
  .inr (4, [.inl (.inl 0), .inl (.inl 0), .inl (.inl 0), .inl (.inl 0), .inl (.inl 0), .inr (.inl (some 35)), .inr (.inl (some 39)), .inr (.inl (some 40)), .inr (.inl (some 41)), .inr (.inl (some 42)), .inr (.inl (some 43)), .inr (.inl (some 44)), .inl (.inl 0)]),
  .inr (1, [.inl (.inl 0), .inl (.inl 3), .inr (.inl (some 36)), .inr (.inl (some 37)), .inr (.inl (some 38))]),
  .inl (.int, 270, .inl [(2, .inl 45), (1, .inl 203), (0, .inl 202)]),
  .inl (.int, 30, .inl []),
  .inl (.int, 6, .inl []),
  .inl (.int, 6, .inl []),
  .inl (.int, 6, .inl []),
  .inl (.int, 4, .inl []),
  .inl (.int, 4, .inl []),
  .inl (.int, 6, .inl []),
  .inl (.int, 6, .inl []),
  .inr (4, [.inl (.inl 0), .inl (.inl 0), .inl (.inl 0), .inl (.inl 0), .inl (.inl 0), .inr (.inl (some 46)), .inr (.inl (some 50)), .inr (.inl (some 51)), .inr (.inl (some 52)), .inr (.inl (some 53)), .inr (.inl (some 54)), .inr (.inl (some 55)), .inl (.inl 0)]),
  .inr (1, [.inl (.inl 0), .inl (.inl 0), .inr (.inl (some 47)), .inr (.inl (some 48)), .inr (.inl (some 49))]),
  .inl (.int, 270, .inl []),
  .inl (.int, 30, .inl []),
  .inl (.int, 6, .inl []),
  .inl (.int, 6, .inl []),
  .inl (.int, 6, .inl []),
  .inl (.int, 4, .inl []),
  .inl (.int, 4, .inl []),
  .inl (.int, 6, .inl []),
  .inl (.int, 6, .inl [])]
def xWM : List xC := [.inr (11, [.inr (.inl (some 57)), .inr (.inl (some 58)), .inl (.inl 0), .inl (.inl 0), .inl (.inl 0), .inl (.inl (-1)), .inl (.inl 0), .inl (.inl 0), .inl (.inl 0), .inl (.inl 0), .inr (.inr 0), .inr (.inl (some 59)), .inr (.inl (some 60)), .inr (.inl (some 61)), .inr (.inl (some 62)), .inr (.inl (some 63)), .inr (.inl (some 64)), .inr (.inl (some 65)), .inr (.inl (some 66)), .inr (.inl (some 67)), .inr (.inl (some 68)), .inr (.inl (some 69)), .inr (.inl (some 70)), .inr (.inl (some 71)), .inr (.inl (some 72)), .inr (.inl (some 73)), .inr (.inl (some 74)), .inr (.inl (some 75)), .inr (.inl (some 76)), .inr (.inl (some 77)), .inr (.inl (some 78)), .inr (.inl (some 79)), .inr (.inl (some 80)), .inr (.inl (some 81)), .inl (.inl 0), .inl (.inl 0), .inl (.inl 0), .inl (.inl 0), .inl (.inl 0), .inl (.inl 0), .inl (.inl 0), .inl (.inl 0), .inl (.inl 0), .inr (.inl (some 82)), .inr (.inl (some 83)), .inr (.inl (some 84)), .inl (.inl 0), .inl (.inl 0), .inr (.inl (some 85)), .inl (.inl 0), .inr (.inl (some 86)), .inr (.inl (some 87)), .inr (.inl (some 88)), .inr (.inl (some 89)), .inr (.inl (some 90)), .inr (.inl (some 91)), .inr (.inl (some 92)), .inl (.inl 0), .inl (.inl 0), .inr (.inl (some 93)), .inr (.inl (some 94))]),
  .inl (.byte, 1620, .inl []),
  .inl (.byte, 1600, .inl []),
  .inl (.int, 2, .inl [(0, .inl 0)]),
  .inl (.int, 2, .inl [(0, .inl 0)]),
  .inl (.int, 2, .inl [(0, .inl 0)]),
  .inl (.int, 2, .inl [(0, .inl 0)]),
  .inl (.int, 2, .inl [(0, .inl 0)]),
  .inl (.int, 2, .inl [(0, .inl 0)]),
  .inl (.int, 2, .inl [(0, .inl 0)]),
  .inl (.int, 12, .inl []),
  .inl (.int, 12, .inl []),
  .inl (.int, 12, .inl []),
  .inl (.int, 12, .inl []),
  .inl (.int, 12, .inl []),
  .inl (.int, 8, .inl []),
  .inl (.int, 8, .inl []),
  .inl (.int, 2, .inl []),
  .inl (.int, 2, .inl []),
  .inl (.long, 12, .inr []),
  .inl (.long, 8, .inr []),
  .inl (.int, 1120, .inl []),
  .inl (.int, 1120, .inl []),
  .inl (.int, 90, .inl []),
  .inl (.int, 90, .inl []),
  .inl (.int, 60, .inl []),
  .inl (.int, 25, .inl [(24, .inl 0), (22, .inl 0), (21, .inl (-1)), (20, .inl (-1)), (19, .inl (-1)), (18, .inl (-1)), (24, .inl 0), (23, .inl 0), (22, .inl 0), (21, .inl 0), (20, .inl 0), (19, .inl 0), (18, .inl 0), (17, .inl 0), (16, .inl 0), (15, .inl 0), (14, .inl 0), (13, .inl 0), (12, .inl 0), (11, .inl 0), (10, .inl 0), (9, .inl 0), (8, .inl 0), (7, .inl 0), (6, .inl 0), (5, .inl 0), (4, .inl 0), (3, .inl 0), (2, .inl 0), (1, .inl 0), (0, .inl 0)]),
  .inl (.int, 25, .inl []),
  .inl (.int, 1025, .inl []),
  .inl (.int, 6, .inl []),
  .inl (.int, 4, .inl []),
  .inl (.int, 6, .inl []),
  .inl (.int, 41, .inl []),
  .inl (.int, 30, .inl []),
  .inl (.int, 30, .inl []),
  .inl (.int, 30, .inl []),
  .inl (.int, 30, .inl []),
  .inl (.int, 75, .inl []),
  .inl (.boolean, 3, .inl [(2, .inl 0), (1, .inl 0), (0, .inl 0)])]
def xW1 : List xC := xWX ++ xWM
def xeI : xI → xI → Bool
  | .inl a, .inl b => decide (a = b)
  | _, _ => false
theorem xeI_ok {a b : xI} (h : xeI a b = true) : a = b := by
  rcases a with a | a <;> rcases b with b | b
  · rw [of_decide_eq_true h]
  · cases h
  · cases h
  · cases h
def xeV : xV → xV → Bool
  | .inl a, .inl b => xeI a b
  | .inr (.inl a), .inr (.inl b) => decide (a = b)
  | .inr (.inr a), .inr (.inr b) => decide (a = b)
  | _, _ => false
theorem xeV_ok {a b : xV} (h : xeV a b = true) : a = b := by
  rcases a with a | a | a <;> rcases b with b | b | b <;> first | (rw [xeI_ok h]; done) | (rw [of_decide_eq_true h]; done) | cases h
def xeL {α β : Type} (f : α → β → Bool) : List α → List β → Bool
  | [], [] => true
  | a :: s, b :: t => f a b && xeL f s t
  | _, _ => false
theorem xeL_ok {α : Type} {f : α → α → Bool} (hf : ∀ {a b : α}, f a b = true → a = b) : ∀ {s t : List α}, xeL f s t = true → s = t := by
  intro s
  induction s with
  | nil =>
    intro t h
    cases t with
    | nil => rfl
    | cons b t => cases h
  | cons a s ih =>
    intro t h
    cases t with
    | nil => cases h
    | cons b t =>
      unfold xeL at h
      rw [Bool.and_eq_true] at h
      rw [hf h.1, ih h.2]
def xeP {α : Type} (f : α → α → Bool) (a b : Nat × α) : Bool := Nat.beq a.1 b.1 && f a.2 b.2
theorem xeP_ok {α : Type} {f : α → α → Bool} (hf : ∀ {a b : α}, f a b = true → a = b) {a b : Nat × α} (h : xeP f a b = true) : a = b := by
  obtain ⟨a1, a2⟩ := a
  obtain ⟨b1, b2⟩ := b
  unfold xeP at h
  rw [Bool.and_eq_true] at h
  have e1 : a1 = b1 := Nat.eq_of_beq_eq_true h.1
  have e2 : a2 = b2 := hf h.2
  rw [e1, e2]
def xeC : xC → xC → Bool
  | .inl (t, n, .inl us), .inl (t2, n2, .inl us2) => decide (t = t2) && (Nat.beq n n2 && xeL (xeP xeI) us us2)
  | .inl (t, n, .inr us), .inl (t2, n2, .inr us2) => decide (t = t2) && (Nat.beq n n2 && xeL (xeP (fun a b => decide (a = b))) us us2)
  | .inr (ci, fs), .inr (ci2, fs2) => Nat.beq ci ci2 && xeL xeV fs fs2
  | _, _ => false
theorem xeC_ok {a b : xC} (h : xeC a b = true) : a = b := by
  rcases a with ⟨t, n, us | us⟩ | ⟨ci, fs⟩ <;> rcases b with ⟨t2, n2, us2 | us2⟩ | ⟨ci2, fs2⟩ <;> try (cases h; done)
  · unfold xeC at h
    rw [Bool.and_eq_true, Bool.and_eq_true] at h
    rw [of_decide_eq_true h.1, Nat.eq_of_beq_eq_true h.2.1, xeL_ok (xeP_ok xeI_ok) h.2.2]
  · unfold xeC at h
    rw [Bool.and_eq_true, Bool.and_eq_true] at h
    rw [of_decide_eq_true h.1, Nat.eq_of_beq_eq_true h.2.1, xeL_ok (xeP_ok (fun h => of_decide_eq_true h)) h.2.2]
  · unfold xeC at h
    rw [Bool.and_eq_true] at h
    rw [Nat.eq_of_beq_eq_true h.1, xeL_ok xeV_ok h.2]
def chk0 : xCk := fun _ _ _ _ _ _ => false
def s0 : Nat → Int32 := fun _ => 0
def KX (t : List xC) : xK := fun _ v w => (match v with | none => true | some _ => false) && xeL xeC w t
def yRun (mi i0 : Nat) (w t : List xC) : Bool := match (gt xmt mi).bind xrow with
  | some r => xex 0 chk0 1300 r 0 (xargs 0 [.inr (.inl (some i0))]) [] w 0 0 ([], []) (KX t)
  | none => false
theorem yr_X : yRun 32 0 [.inr (10, xzero 10)] xWX = true := by decide +kernel
theorem yr_M : yRun 124 56 (xWX ++ [.inr (11, xzero 11)]) xW1 = true := by decide +kernel
def xρ (b : Nat) : Nat → Nat := fun i => if i = xz_SC then b else 0
theorem xρ_SC (b : Nat) : xρ b xz_SC = b := by
  unfold xρ
  rw [if_pos rfl]
def yC (D : va_G) (p : Program) (s : State) (m : MethodId) (args : Array Value) (c : Code) (A : Nat → Prop) : Prop := p.tables.exec = Jvm.exec ∧ c.code = code ∧ c.maxLocals = 4 ∧ s.vm.findClass (xnm 12) = some m.cls ∧ (∀ w ∈ xGd, w.before args s = true) ∧ va_K D vwCl [] s ∧ (∀ q, s.heap.size ≤ q → A q) ∧ ∀ q ∈ xne, va_Nw (.methodLinkNest q.1 q.2.1 q.2.2.1 q.2.2.2.1) s
def yV (D : va_G) (s : State) (A : Nat → Prop) (H : Heap) (locs : List Loc) (ρ : Nat → Nat) (γ : Nat → ClassId) (w : List xC) : Prop := hTp s γ w ∧ va_P D vwCl (cw ρ γ s0 w) H ∧ va_D A (cw ρ γ s0 w) ∧ va_S A s.heap H locs
set_option maxHeartbeats 1000000 in
theorem y_new {D : va_G} {p : Program} {l : Launch} {e : Env} {R : Room} {s : State} {m : MethodId} {args : Array Value} {below : List Frame} {meth : Method} {c : Code} {A : Nat → Prop} {Q : State → Prop} (C : yC D p s m args c A) {H : Heap} {locs : List Loc} {ρ : Nat → Nat} {γ : Nat → ClassId} {w : List xC} (V : yV D s A H locs ρ γ w) {pc x cs ss : Nat} {ls : Array Slot} {rest : List Value} (hd : decode code pc = .ok (.new x, 3)) {q : Nat × Nat × Nat × Nat} (e1 : xfi (xcl 12) x = some q) {C1 : String} {T1 : u_T} {N1 : Nat} (e2 : vwCl[q.1]? = some (C1, T1, N1)) (hcs : cs + 1 ≤ R.cells) (hss : ss + N1 ≤ R.slots) (hw : xwW w.length w = true) (hn : w.length < xz_SC)
    (kk : ∀ (ρ2 : Nat → Nat) (γ2 : Nat → ClassId) (H1 : Heap), ag w.length ρ ρ2 → yV D s A H1 locs ρ2 γ2 (w ++ [.inr (q.1, xzero q.1)]) → W p l e R s m args below meth c H1 locs (cs + 1) (ss + N1) Q (F0 m (pc + 3) ls (.ref (ρ2 w.length) :: rest))) : W p l e R s m args below meth c H locs cs ss Q (F0 m pc ls rest) := by
  obtain ⟨c1, c2, c3, c4, c5, c6, c7, c9⟩ := C
  obtain ⟨v1, v2, v3, v4⟩ := V
  obtain ⟨b1, b2, b3⟩ := xcl_ok _ _ _ (xfi_ok e1) _ e2
  refine va_new (D := D) (cl := vwCl) (tys := []) (ci := q.1) (fs := (xzero q.1).map (dV ρ s0)) (C := C1) (T := T1) (N := N1) (Ts := xGd) c1 c2 c5 (u_ok e2) (xty q.1) (fun k hk => (t_ok e2 k hk).1) c4 (c5 _ b1) (c5 _ b2) (c5 _ b3) c6 v2 v3 v4 c7 e2 ?_ hcs hss hd ?_
  · intro j hj
    have hz := (t_ok e2 j hj).2.1
    cases e3 : gt (xzero q.1) j with
    | none =>
      rw [e3] at hz
      exfalso
      revert hz
      cases xty q.1 j <;> exact fun hz => Bool.noConfusion hz
    | some v =>
      rw [e3] at hz
      rw [gt_eq] at e3
      show _ = ((xzero q.1).map (dV ρ s0)).getD j .null
      rw [List.getD_eq_getElem?_getD, List.getElem?_map, e3]
      exact okz_ok hz ρ s0
  · intro qn H1 hP hD hS
    have e5 : dE (xt ρ w.length qn) (xt γ w.length 0) s0 w.length (.inr (q.1, xzero q.1)) = (qn, .inr (q.1, (xzero q.1).map (dV ρ s0))) := by
      show (xt ρ w.length qn w.length, Sum.inr (q.1, (xzero q.1).map (dV (xt ρ w.length qn) s0))) = _
      rw [xt_at, zero_nr (ci12 e2) ρ (xt ρ w.length qn) s0]
    rw [← e5] at hP hD
    have hag : ag w.length ρ (xt ρ w.length qn) := xt_ag hn
    rw [← cw_ag hag (fun i hi => xt_lt (f := γ) (q := 0) hi) hw, ← cw_app] at hP hD
    have k := kk (xt ρ w.length qn) (xt γ w.length 0) H1 hag ⟨hT_app v1 (fun _ _ _ z => by cases z), hP, hD, hS⟩
    rw [xt_at] at k
    exact k
set_option maxHeartbeats 1000000 in
theorem y_init {D : va_G} {p : Program} {l : Launch} {e : Env} {R : Room} {s : State} {m : MethodId} {args : Array Value} {below : List Frame} {meth : Method} {c : Code} {A : Nat → Prop} {Q : State → Prop} (C : yC D p s m args c A) {H : Heap} {locs : List Loc} {ρ : Nat → Nat} {γ : Nat → ClassId} {w t : List xC} (V : yV D s A H locs ρ γ w) {pc x cs ss mi g1 g2 g3 i0 : Nat} {ls : Array Slot} (hls : ls.size = 4) {rest : List Value} (hd : decode code pc = .ok (.invokespecial x, 3)) (hl : xfi (xml 12) x = some (2, mi, g1, g2, g3)) {r2 : xR} (hr : (gt xmt mi).bind xrow = some r2) (hcat : 1 ≤ r2.2.2.1) (hna : r2.2.2.2.2.2.2.1 = 0) (hrest : (rest.map fun v => v.category).sum ≤ 8) (hR : (xrm r2).frames + 1 ≤ R.frames ∧ 8 + (r2.2.2.1 + 11) + (xrm r2).locals ≤ R.locals) (hcs : cs + (xrm r2).cells ≤ R.cells ∧ ss + (xrm r2).slots ≤ R.slots) (hrun : yRun mi i0 w t = true)
    (kk : ∀ (ρ2 : Nat → Nat) (γ2 : Nat → ClassId) (H1 : Heap) (locs1 : List Loc), ag w.length ρ ρ2 → yV D s A H1 locs1 ρ2 γ2 t → W p l e R s m args below meth c H1 locs1 (cs + (xrm r2).cells) (ss + (xrm r2).slots) Q (F0 m (pc + 3) ls rest)) : W p l e R s m args below meth c H locs cs ss Q (F0 m pc ls (.ref (ρ i0) :: rest)) := by
  obtain ⟨c1, c2, c3, c4, c5, c6, c7, c9⟩ := C
  obtain ⟨v1, v2, v3, v4⟩ := V
  unfold yRun at hrun
  rw [hr] at hrun
  dsimp only at hrun
  obtain ⟨b1, b2, b3, b4, b5, b6, b7⟩ := xrow_ok hr
  have hw := xlk_2 (xml_ok (xfi_ok hl)) hr
  rw [Bool.and_eq_true, Bool.and_eq_true] at hw
  obtain ⟨f1, f2⟩ := of_decide_eq_true hw.2.2
  have hM := xmet (σ := s0) (ρ := ρ) (γ := γ) (sz := H.size) (D := D) (l := l) (vs := [.inr (.inl (some i0))]) (xex_ok (L := 0) (chk := chk0) (σ := s0) (D := D) (l := l) (by decide) 1300) hr ⟨fun q hq => (by cases hq), fun q hq => (by cases hq)⟩ hcat hrun
  have hFc : ∀ q, va_A (cw ρ γ s0 w) H.size q → A q := by
    intro q hq
    rcases hq with ⟨k, e9, hk⟩ | hq
    · exact v3.2 k (q, e9) hk
    · exact c7 q (Nat.le_trans v4.1 hq)
  have hp : PreS s H (xPc s0 D ρ γ w [.inr (.inl (some i0))] H.size) ([.inr (.inl (some i0))].map (dV ρ s0)) := ⟨fun a U g mk q => ⟨q.1, q.2.1, q.2.2.1, va_K.moved (u := U) (U := U.calling g mk a) (Vm.Alike.refl U.vm) q.2.2.2.1, q.2.2.2.2.1, hTp.moved (s := U) (t := U.calling g mk a) (Vm.Alike.refl U.vm) q.2.2.2.2.2.1, fun z hz => va_Nw.same rfl rfl (q.2.2.2.2.2.2 z hz)⟩, fun U hU hW => ⟨rfl, by rw [hU], by rw [hU]; exact v2, va_K.moved hW.alike c6, v3.weaken (fun _ _ _ _ => trivial), hTp.moved hW.alike v1, fun z hz => va_Nw.warmM hW (c9 z hz)⟩⟩
  rw [f2] at hM
  have b1 := b1
  rw [f2] at b1
  have hrun2 : va_Run p l e R s m args below meth c H locs cs ss (xrm r2).cells (xrm r2).slots (F0 m pc ls (.ref (ρ i0) :: rest)) rest (xQc s0 D ρ γ w H.size (KX t) ([.inr (.inl (some i0))].map (dV ρ s0)).toArray) (va_A (cw ρ γ s0 w) H.size) :=
    va_runI (As := []) (rest := rest) ⟨c1, c2, c3, c4, c5⟩ hM ⟨callB_of _ c5 (fun w hw => by have h1 : w ∈ xGd := (List.mem_cons.mp hw).elim (fun e9 => by rw [e9]; exact b1) id; exact ⟨h1, good_of_word (List.mem_filter.mp h1).2⟩) rfl rfl rfl (c5 _ b2) (c5 _ (inG _ (of_decide_eq_true hw.1) rfl)) ⟨b6.1, b6.2, b4⟩ hR, f1, c5 _ (inG _ (of_decide_eq_true hw.2.1) rfl)⟩ hp rfl hna.symm hls rfl (lv_room hrest) hd hcs
  refine va_callg (A0 := A) (A1 := va_A (cw ρ γ s0 w) H.size) hrun2 v4 (fun q _ h => hFc q h) hFc (fun _ _ _ z => z.2) (fun v st t1 H1 locs1 ht hvm hq hS1 => ?_)
  obtain ⟨⟨fa2, v2', w2, ρ2, γ2, ev, hk, hs2, hl2, hag, hP2, hK2, hD2, hT2⟩, -⟩ := hq
  cases ev
  rw [ht] at hP2
  unfold KX at hk
  rw [Bool.and_eq_true] at hk
  have hw2 := xeL_ok xeC_ok hk.2
  subst hw2
  cases v2' with
  | some v => cases hk.1
  | none => exact kk ρ2 γ2 H1 locs1 hag ⟨hTp.moved hvm.symm hT2, hP2, hD2.weaken (fun _ _ _ z => hFc _ z), hS1⟩

