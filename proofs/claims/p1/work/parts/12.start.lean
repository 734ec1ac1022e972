/-! THE CLAIM OUT OF ONE WALK OF THE LAW'S BODY. Your part is whole_start (and what it stands on); all else here is the same for every law, but numbers. -/
def R_law : String := "NightLightsLaw"
def lw_P (b : Addr) (xs : List Int32) (args : Array Value) (s : State) : Prop := args = #[.ref b] ∧ s.IntsAt b xs ∧ xs.length ≤ 6 ∧ (Jvm.Cond.and given_1 narrow_1).before args s = true
def lw_Q (_ : Array Value) (s : State) (o : Outcome) (t : State) : Prop := o = .returned (some (.int 1)) ∧ Framed s o t [] 600000 7302250
def lw_Z (below : List Frame) (a : Array Value) (s : State) : State → Prop := fun t => ∃ o, t.status = .running ∧ Ended t below o ∧ lw_Q a s o t
/-- the law's own end, with 1 on the stack, nothing written that was there before, its room as the claim has it -/
theorem lw_ret {p : Program} {l : Launch} {e : Env} {s : State} {m : MethodId} {below : List Frame} {meth : Method} {c : Code} {b : Nat} (hx : p.tables.exec = Jvm.exec) (hb : c.code = code) (hr : meth.sig.returnType = ret) (hlocks : meth.locks = false) {pc : Nat} {H : Heap} {ls : Array Slot} (hdg : decode code pc = .ok (.ireturn, 1)) : W p l e room_1 s m #[Value.ref b] below meth c H [] 600000 7302250 (lw_Z below #[Value.ref b] s) (F0 m pc ls [.int 1]) := by
  intro T hT X
  obtain ⟨fs, hret, hrun, hended, hW, hframe⟩ := X.leave (v := some (.int 1)) (hlocks := hlocks) (fun h => by rw [hr] at h; cases h)
  have hmeth' : T.vm.method? m = some meth := X.method'
  refine ⟨T.setFrames fs, ?_, .returned (some (.int 1)), hrun, hended, rfl, ⟨_, rfl⟩, hW, hframe⟩
  jvm_step X.here [X.here.top, hx, hb, hdg, hmeth', hr, ret, narrow_b1]
  (try refine ⟨rfl, ?_⟩); (try refine ⟨rfl, ?_⟩)
  first | (intro acts; rw [hret _ acts rfl rfl rfl]) | rw [hret _ _ rfl rfl rfl]
  exact Steps.refl _
/-- what holds at the law's entry: the machine, the code, the tables' words (any of lw_tbl by 'hts w (by decide +kernel)'), the script of L ints xs at the cell b, what the Statement gives of the start (any of its parts by flat_of_before) -/
def lw_At (p : Program) (s : State) (m : MethodId) (meth : Method) (c : Code) (b L : Nat) (xs : Nat → Int32) : Prop :=
  p.tables.exec = Jvm.exec ∧ c.code = code ∧ meth.sig.returnType = ret ∧ c.maxLocals = 4 ∧ s.vm.findClass R_law = some m.cls ∧ (∀ w ∈ lw_tbl, w.before #[Value.ref b] s = true) ∧ va_X b L xs s s.heap ∧ b < s.heap.size ∧ meth.locks = false ∧ (Jvm.Cond.and given_1 narrow_1).before #[Value.ref b] s = true

def xW1 : List xC := [.inr (10, [.inr (.inl (some 1)), .inr (.inl (some 3)), .inr (.inl (some 6)), .inr (.inl (some 10)), .inr (.inl (some 14)), .inr (.inl (some 16)), .inr (.inl (some 17)), .inr (.inl (some 23)), .inr (.inl (some 29)), .inr (.inl (some 32)), .inr (.inl (some 33)), .inr (.inl (some 34)), .inr (.inl (some 45)), .inl (.inl 0), .inl (.inl 0), .inl (.inl 0), .inl (.inl 0), .inl (.inl (-1))]),
  .inr (8, [.inl (.inl 0), .inl (.inl 0), .inl (.inl 0), .inl (.inl 0), .inr (.inr 0), .inr (.inl (some 2)), .inl (.inl 0)]),
  .inl (.byte, 1600, .inl []),
  .inr (5, [.inl (.inl 0), .inl (.inl 0), .inr (.inl (some 1)), .inr (.inl (some 4)), .inr (.inl (some 5)), .inr (.inl none), .inl (.inl 0)]),
  .inl (.long, 6, .inr []),
  .inl (.long, 4, .inr []),
  .inr (7, [.inr (.inl (some 7)), .inr (.inl (some 8)), .inr (.inl (some 9)), .inl (.inl 0), .inl (.inl 0), .inl (.inl 0), .inl (.inl 0)]),
  .inl (.int, 6, .inl [(5, .inl 0), (4, .inl 0), (3, .inl 0), (2, .inl 0), (1, .inl 0), (0, .inl 0)]),
  .inl (.int, 6, .inl [(5, .inl 0), (4, .inl 0), (3, .inl 0), (2, .inl 0), (1, .inl 0), (0, .inl 0)]),
  .inl (.int, 6, .inl [(5, .inl (-1)), (4, .inl (-1)), (3, .inl (-1)), (2, .inl (-1)), (1, .inl (-1)), (0, .inl (-1))]),
  .inr (7, [.inr (.inl (some 11)), .inr (.inl (some 12)), .inr (.inl (some 13)), .inl (.inl 0), .inl (.inl 0), .inl (.inl 0), .inl (.inl 0)]),
  .inl (.int, 6, .inl []),
  .inl (.int, 6, .inl []),
  .inl (.int, 6, .inl []),
  .inr (2, [.inr (.inl (some 15)), .inl (.inl 0), .inl (.inl 0)]),
  .inl (.int, 902, .inl [(21, .inl 0), (20, .inl 0), (19, .inl 0), (18, .inl 0), (17, .inl (-1)), (16, .inl (-1)), (15, .inl (-1)), (14, .inl (-1)), (13, .inl (-1)), (12, .inl (-1)), (11, .inl 0), (10, .inl 0), (9, .inl 0), (8, .inl 0), (7, .inl 0), (6, .inl 0), (5, .inl 0), (4, .inl 0), (3, .inl 0), (2, .inl 0), (1, .inl 0), (0, .inl 0)]),
  .inl (.int, 66, .inl []),
  .inr (6, [.inl (.inl 0), .inr (.inl (some 18)), .inr (.inl (some 19)), .inr (.inl (some 20)), .inr (.inl (some 21)), .inr (.inl (some 22)), .inr (.inr 0)]),
  .inl (.int, 30, .inl []),
  .inl (.boolean, 30, .inl []),
  .inl (.int, 30, .inl []),
  .inl (.int, 30, .inl []),
  .inl (.long, 13, .inr []),
  .inr (3, [.inr (.inl (some 24)), .inl (.inl 0), .inl (.inl 0), .inl (.inl 0), .inl (.inl 0), .inr (.inl (some 25)), .inr (.inl (some 26)), .inr (.inl (some 27)), .inr (.inl (some 28))]),
  .inl (.int, 6, .inl []),
  .inl (.int, 24, .inl []),
  .inl (.int, 6, .inl []),
  .inl (.int, 6, .inl []),
  .inl (.int, 6, .inl []),
  .inr (9, [.inr (.inl (some 30)), .inr (.inl (some 31)), .inl (.inl 0)]),
  .inl (.int, 6, .inl []),
  .inl (.int, 6, .inl []),
  .inr (0, [.inl (.inl 0), .inl (.inl 0), .inr (.inl none), .inr (.inl none), .inl (.inl 0), .inl (.inl 0)]),
  .inl (.int, 6, .inl []),
  .inr (4, [.inl (.inl 0), .inl (.inl 0), .inl (.inl 0), .inl (.inl 0), .inl (.inl 0), .inr (.inl (some 35)), .inr (.inl (some 39)), .inr (.inl (some 40)), .inr (.inl (some 41)), .inr (.inl (some 42)), .inr (.inl (some 43)), .inr (.inl (some 44)), .inl (.inl 0)]),
  .inr (1, [.inl (.inl 0), .inl (.inl 3), .inr (.inl (some 36)), .inr (.inl (some 37)), .inr (.inl (some 38))]),
  .inl (.int, 270, .inl [(2, .inl 45), (1, .inl 203), (0, .inl 202)]),
  .inl (.int, 30, .inl []),
  .inl (.int, 6, .inl []),
  .inl (.int, 6, .inl []),
  .inl (.int, 6, .inl []),
  .inl (.int, 4, .inl []),
  .inl (.int, 4, .inl []),
  .inl (.int, 6, .inl []),
  .inl (.int, 6, .inl []),
  .inr (4, [.inl (.inl 0), .inl (.inl 0), .inl (.inl 0), .inl (.inl 0), .inl (.inl 0), .inr (.inl (some 46)), .inr (.inl (some 50)), .inr (.inl (some 51)), .inr (.inl (some 52)), .inr (.inl (some 53)), .inr (.inl (some 54)), .inr (.inl (some 55)), .inl (.inl 0)]),
  .inr (1, [.inl (.inl 0), .inl (.inl 0), .inr (.inl (some 47)), .inr (.inl (some 48)), .inr (.inl (some 49))]),
  .inl (.int, 270, .inl []),
  .inl (.int, 30, .inl []),
  .inl (.int, 6, .inl []),
  .inl (.int, 6, .inl []),
  .inl (.int, 6, .inl []),
  .inl (.int, 4, .inl []),
  .inl (.int, 4, .inl []),
  .inl (.int, 6, .inl []),
  .inl (.int, 6, .inl []),
  .inr (11, [.inr (.inl (some 57)), .inr (.inl (some 58)), .inl (.inl 0), .inl (.inl 0), .inl (.inl 0), .inl (.inl (-1)), .inl (.inl 0), .inl (.inl 0), .inl (.inl 0), .inl (.inl 0), .inr (.inr 0), .inr (.inl (some 59)), .inr (.inl (some 60)), .inr (.inl (some 61)), .inr (.inl (some 62)), .inr (.inl (some 63)), .inr (.inl (some 64)), .inr (.inl (some 65)), .inr (.inl (some 66)), .inr (.inl (some 67)), .inr (.inl (some 68)), .inr (.inl (some 69)), .inr (.inl (some 70)), .inr (.inl (some 71)), .inr (.inl (some 72)), .inr (.inl (some 73)), .inr (.inl (some 74)), .inr (.inl (some 75)), .inr (.inl (some 76)), .inr (.inl (some 77)), .inr (.inl (some 78)), .inr (.inl (some 79)), .inr (.inl (some 80)), .inr (.inl (some 81)), .inl (.inl 0), .inl (.inl 0), .inl (.inl 0), .inl (.inl 0), .inl (.inl 0), .inl (.inl 0), .inl (.inl 0), .inl (.inl 0), .inl (.inl 0), .inr (.inl (some 82)), .inr (.inl (some 83)), .inr (.inl (some 84)), .inl (.inl 0), .inl (.inl 0), .inr (.inl (some 85)), .inl (.inl 0), .inr (.inl (some 86)), .inr (.inl (some 87)), .inr (.inl (some 88)), .inr (.inl (some 89)), .inr (.inl (some 90)), .inr (.inl (some 91)), .inr (.inl (some 92)), .inl (.inl 0), .inl (.inl 0), .inr (.inl (some 93)), .inr (.inl (some 94))]),
  .inl (.byte, 1620, .inl []),
  .inl (.byte, 1600, .inl []),
  .inl (.int, 2, .inl [(0, .inl 0)]),
  .inl (.int, 2, .inl [(0, .inl 0)]),
  .inl (.int, 2, .inl [(0, .inl 0)]),
  .inl (.int, 2, .inl [(0, .inl 0)]),
  .inl (.int, 2, .inl [(0, .inl 0)]),
  .inl (.int, 2, .inl [(0, .inl 0)]),
  .inl (.int, 2, .inl [(0, .inl 0)]),
  .inl (.int, 12, .inl []),
  .inl (.int, 12, .inl []),
  .inl (.int, 12, .inl []),
  .inl (.int, 12, .inl []),
  .inl (.int, 12, .inl []),
  .inl (.int, 8, .inl []),
  .inl (.int, 8, .inl []),
  .inl (.int, 2, .inl []),
  .inl (.int, 2, .inl []),
  .inl (.long, 12, .inr []),
  .inl (.long, 8, .inr []),
  .inl (.int, 1120, .inl []),
  .inl (.int, 1120, .inl []),
  .inl (.int, 90, .inl []),
  .inl (.int, 90, .inl []),
  .inl (.int, 60, .inl []),
  .inl (.int, 25, .inl [(24, .inl 0), (22, .inl 0), (21, .inl (-1)), (20, .inl (-1)), (19, .inl (-1)), (18, .inl (-1)), (24, .inl 0), (23, .inl 0), (22, .inl 0), (21, .inl 0), (20, .inl 0), (19, .inl 0), (18, .inl 0), (17, .inl 0), (16, .inl 0), (15, .inl 0), (14, .inl 0), (13, .inl 0), (12, .inl 0), (11, .inl 0), (10, .inl 0), (9, .inl 0), (8, .inl 0), (7, .inl 0), (6, .inl 0), (5, .inl 0), (4, .inl 0), (3, .inl 0), (2, .inl 0), (1, .inl 0), (0, .inl 0)]),
  .inl (.int, 25, .inl []),
  .inl (.int, 1025, .inl []),
  .inl (.int, 6, .inl []),
  .inl (.int, 4, .inl []),
  .inl (.int, 6, .inl []),
  .inl (.int, 41, .inl []),
  .inl (.int, 30, .inl []),
  .inl (.int, 30, .inl []),
  .inl (.int, 30, .inl []),
  .inl (.int, 30, .inl []),
  .inl (.int, 75, .inl []),
  .inl (.boolean, 3, .inl [(2, .inl 0), (1, .inl 0), (0, .inl 0)])]
def xlo1 : xL := [(3, .inl (.inl 0)), (2, .inr (.inl (some 56))), (1, .inr (.inl (some 0))), (0, .inr (.inl (some xz_SC)))]
def xeI : xI → xI → Bool
  | .inl a, .inl b => decide (a = b)
  | _, _ => false
theorem xeI_ok {a b : xI} (h : xeI a b = true) : a = b := by
  rcases a with a | a <;> rcases b with b | b
  · rw [of_decide_eq_true h]
  · cases h
  · cases h
  · cases h
def xeV : xV → xV → Bool
  | .inl a, .inl b => xeI a b
  | .inr (.inl a), .inr (.inl b) => decide (a = b)
  | .inr (.inr a), .inr (.inr b) => decide (a = b)
  | _, _ => false
theorem xeV_ok {a b : xV} (h : xeV a b = true) : a = b := by
  rcases a with a | a | a <;> rcases b with b | b | b <;> first | (rw [xeI_ok h]; done) | (rw [of_decide_eq_true h]; done) | cases h
def xeL {α β : Type} (f : α → β → Bool) : List α → List β → Bool
  | [], [] => true
  | a :: s, b :: t => f a b && xeL f s t
  | _, _ => false
theorem xeL_ok {α : Type} {f : α → α → Bool} (hf : ∀ {a b : α}, f a b = true → a = b) : ∀ {s t : List α}, xeL f s t = true → s = t := by
  intro s
  induction s with
  | nil =>
    intro t h
    cases t with
    | nil => rfl
    | cons b t => cases h
  | cons a s ih =>
    intro t h
    cases t with
    | nil => cases h
    | cons b t =>
      unfold xeL at h
      rw [Bool.and_eq_true] at h
      rw [hf h.1, ih h.2]
def xeP {α : Type} (f : α → α → Bool) (a b : Nat × α) : Bool := Nat.beq a.1 b.1 && f a.2 b.2
theorem xeP_ok {α : Type} {f : α → α → Bool} (hf : ∀ {a b : α}, f a b = true → a = b) {a b : Nat × α} (h : xeP f a b = true) : a = b := by
  obtain ⟨a1, a2⟩ := a
  obtain ⟨b1, b2⟩ := b
  unfold xeP at h
  rw [Bool.and_eq_true] at h
  have e1 : a1 = b1 := Nat.eq_of_beq_eq_true h.1
  have e2 : a2 = b2 := hf h.2
  rw [e1, e2]
def xeC : xC → xC → Bool
  | .inl (t, n, .inl us), .inl (t2, n2, .inl us2) => decide (t = t2) && (Nat.beq n n2 && xeL (xeP xeI) us us2)
  | .inl (t, n, .inr us), .inl (t2, n2, .inr us2) => decide (t = t2) && (Nat.beq n n2 && xeL (xeP (fun a b => decide (a = b))) us us2)
  | .inr (ci, fs), .inr (ci2, fs2) => Nat.beq ci ci2 && xeL xeV fs fs2
  | _, _ => false
theorem xeC_ok {a b : xC} (h : xeC a b = true) : a = b := by
  rcases a with ⟨t, n, us | us⟩ | ⟨ci, fs⟩ <;> rcases b with ⟨t2, n2, us2 | us2⟩ | ⟨ci2, fs2⟩ <;> try (cases h; done)
  · unfold xeC at h
    rw [Bool.and_eq_true, Bool.and_eq_true] at h
    rw [of_decide_eq_true h.1, Nat.eq_of_beq_eq_true h.2.1, xeL_ok (xeP_ok xeI_ok) h.2.2]
  · unfold xeC at h
    rw [Bool.and_eq_true, Bool.and_eq_true] at h
    rw [of_decide_eq_true h.1, Nat.eq_of_beq_eq_true h.2.1, xeL_ok (xeP_ok (fun h => of_decide_eq_true h)) h.2.2]
  · unfold xeC at h
    rw [Bool.and_eq_true] at h
    rw [Nat.eq_of_beq_eq_true h.1, xeL_ok xeV_ok h.2]
def chkA : xCk := fun pc lo sk w cs ss => Nat.beq pc 18 && (xeL (xeP xeV) lo xlo1 && (xeL xeV sk [] && (xeL xeC w xW1 && (Nat.beq cs 95 && Nat.beq ss 10804))))
def chk0 : xCk := fun _ _ _ _ _ _ => false
def pLA : List (Nat × Instr × Nat) := [(0, .new 7, 3), (3, .dup, 1), (4, .invokespecial 9, 3), (7, .astore_n 1, 1), (8, .new 10, 3), (11, .dup, 1), (12, .invokespecial 12, 3), (15, .astore_n 2, 1), (16, .iconst 0, 1), (17, .istore_n 3, 1)]
def xlawA : xR := (x, code, 4, some .boolean, 12, (2048, 84000, 600000, 7302250), 1, pLA)
theorem pLA_ok : xpg code pLA = true := by decide +kernel
def xlo0 : xL := [(0, .inr (.inl (some xz_SC)))]
theorem run_A : xex 6 chkA 1300 xlawA 0 xlo0 [] [] 0 0 ([], []) xfin0 = true := by decide +kernel
