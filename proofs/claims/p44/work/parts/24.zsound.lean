
def okf (ρ : Nat → Nat) (f : zF) (v : Value) : Prop := match f with
  | .inl q => ∃ x : Int32, v = .int x ∧ q.1 ≤ x.toInt ∧ x.toInt ≤ q.2
  | .inr (.inl cs) => ∃ c ∈ cs, v = zv ρ (fun _ => 0) (.inr (.inl c))
  | .inr (.inr _) => ∃ x : Int64, v = .long x
def cF (ca : zCa) (i k : Nat) : Prop := ∃ v, ((i, Sum.inl k), v) ∈ ca
def cA (η : zE) (ca : zCa) (i j : Nat) : Prop := ∃ ix v, ((i, Sum.inr ix), v) ∈ ca ∧ (zd η ix).toNat = j
def zfv (es : va_W) (i k : Nat) : Option Value := match es[i]? with
  | some (_, .inr (_, vs)) => vs[k]?
  | _ => none
def zav (es : va_W) (i j : Nat) : Option Value := match es[i]? with
  | some (_, .inl (_, _, .inl f)) => some (.int (f j))
  | _ => none
def zat (η : zE) (es : va_W) (q : Nat × zKy) : Option Value := match q.2 with
  | .inl k => zfv es q.1 k
  | .inr ix => zav es q.1 (zd η ix).toNat
def inR (q : Int × Int) (x : Int32) : Prop := q.1 ≤ x.toInt ∧ x.toInt ≤ q.2
def zpR (q : zPr) (x y : Int) : Prop := match q.1 with
  | true => x + y ≤ q.2.2.2
  | false => x - y ≤ q.2.2.2
def zcI (T : zTb) (ρ : Nat → Nat) (γ : Nat → ClassId) (η : zE) (ca : zCa) (es : va_W) : Prop := ∀ (i : Nat) (ty : FieldType) (n : Nat) (rs : List (Int × Int)), T.2.1[i]? = some (.inl (ty, n, rs)) → ty ≠ .long → ∃ f : Nat → Int32, es[i]? = some (ρ i, .inl (γ i, n, .inl f)) ∧ ∀ j, j < n → cA η ca i j ∨ inR (zrj rs j) (f j)
def zcL (T : zTb) (ρ : Nat → Nat) (γ : Nat → ClassId) (es : va_W) : Prop := ∀ (i : Nat) (n : Nat) (rs : List (Int × Int)), T.2.1[i]? = some (.inl (.long, n, rs)) → ∃ f : Nat → Int64, es[i]? = some (ρ i, .inl (γ i, n, .inr (.inl f)))
def zcO (T : zTb) (ρ : Nat → Nat) (ca : zCa) (es : va_W) : Prop := ∀ (i ci : Nat) (fs : List zF), T.2.1[i]? = some (.inr (ci, fs)) → ∃ vs : List Value, es[i]? = some (ρ i, .inr (ci, vs)) ∧ vs.length = fs.length ∧ ∀ (k : Nat) (f : zF) (v : Value), fs[k]? = some f → vs[k]? = some v → cF ca i k ∨ okf ρ f v
def zcP (T : zTb) (ca : zCa) (es : va_W) : Prop := ∀ q ∈ T.2.2, cF ca q.2.1.1 q.2.1.2 ∨ cF ca q.2.2.1.1 q.2.2.1.2 ∨ ∃ x y : Int32, zfv es q.2.1.1 q.2.1.2 = some (.int x) ∧ zfv es q.2.2.1.1 q.2.2.1.2 = some (.int y) ∧ zpR q x.toInt y.toInt
def zcH (ρ : Nat → Nat) (η : zE) (ca : zCa) (es : va_W) : Prop := ∀ q ∈ ca, zat η es q.1 = some (zv ρ η q.2) ∧ ∀ ix, q.1.2 = .inr ix → 0 ≤ zd η ix
/-- the cells are as declared but where the cache says what they hold -/
def zCo (T : zTb) (ρ : Nat → Nat) (γ : Nat → ClassId) (η : zE) (ca : zCa) (es : va_W) : Prop := zcI T ρ γ η ca es ∧ zcL T ρ γ es ∧ zcO T ρ ca es ∧ zcP T ca es ∧ zcH ρ η ca es
def zct (es : va_W) (i k : Nat) : Option (Option Value ⊕ (ClassId × vp_A)) := match es[i]? with
  | some (_, .inr (_, vs)) => some (.inl vs[k]?)
  | some (_, .inl a) => match k with
    | 0 => some (.inr a)
    | _ => none
  | none => none
/-- what an int array holds -/
def zar (es : va_W) (i : Nat) : Nat → Int32 := match es[i]? with
  | some (_, .inl (_, _, .inl f)) => f
  | _ => fun _ => 0
/-- the rule's code is run over a pile: how high it is then -/
def kLet (x : Int32) : Bool := decide (97 ≤ x.toInt) && decide (x.toInt ≤ 122)
def kOne (x : Int32) (d : Nat) : Option Nat := match decide (x.toInt = 126) with
  | true => match d with
    | 0 => none
    | d + 1 => some (d + 1)
  | false => match kLet x with
    | true => match decide (d < 60) with
      | true => some (d + 1)
      | false => none
    | false => match d with
      | d + 2 => some (d + 1)
      | _ => none
def kRun (f : Nat → Int32) : Nat → Nat → Nat → Option Nat
  | 0, _, d => some d
  | n + 1, k, d => match kOne (f k) d with
    | some e => kRun f n (k + 1) e
    | none => none
def kSeg (es : va_W) (b : Nat) : Prop := 0 ≤ (zar es 73 b).toInt ∧ (zar es 73 b).toInt ≤ (zar es 74 b).toInt ∧ (zar es 74 b).toInt ≤ 1119 ∧ (∃ d, kRun (zar es 77) ((zar es 74 b).toInt - (zar es 73 b).toInt).toNat (zar es 73 b).toInt.toNat 0 = some d) ∧ ((zar es 73 b).toInt < (zar es 74 b).toInt → (560 * b : Int) ≤ (zar es 73 b).toInt ∧ (zar es 74 b).toInt ≤ 560 * b + 560)
/-- both banks' rules can be run -/
def pM (es : va_W) : Prop := kSeg es 0 ∧ kSeg es 1
theorem pM.of {es es2 : va_W} (h1 : zar es2 73 = zar es 73) (h2 : zar es2 74 = zar es 74) (h3 : zar es2 77 = zar es 77) (h : pM es) : pM es2 := by
  unfold pM kSeg at h ⊢
  rw [h1, h2, h3]
  exact h
theorem zar_ne {es : va_W} {i j : Nat} {x : Nat × va_E} (h : i ≠ j) : zar (es.set i x) j = zar es j := by
  unfold zar
  rw [List.getElem?_set, if_neg h]
theorem zar_obj {es : va_W} {i j a b ci cj : Nat} {vs ws : List Value} (hg : es[i]? = some (a, .inr (ci, vs))) : zar (es.set i (b, .inr (cj, ws))) j = zar es j := by
  by_cases e : i = j
  · subst e
    unfold zar
    rw [List.getElem?_set, if_pos rfl, if_pos (List.getElem?_eq_some_iff.mp hg).1, hg]
  · exact zar_ne e
theorem zar_long {es : va_W} {i j a b : Nat} {x : ClassId × vp_A} {g : Nat → Int64} {c2 : ClassId} {n2 : Nat} (hg : es[i]? = some (a, .inl x)) (hx : ∃ c n f, x = (c, n, .inr (.inl f))) : zar (es.set i (b, .inl (c2, n2, .inr (.inl g)))) j = zar es j := by
  by_cases e : i = j
  · subst e
    obtain ⟨c, n, f, rfl⟩ := hx
    unfold zar
    rw [List.getElem?_set, if_pos rfl, if_pos (List.getElem?_eq_some_iff.mp hg).1, hg]
  · exact zar_ne e
def zfd (es : va_W) (i k : Nat) : Int := match zfv es i k with
  | some (.int x) => x.toInt
  | _ => 0
/-- while a text is good, its code isn't longer than its units allow -/
def pL (es : va_W) : Prop := zfd es 56 4 = 0 → 560 * zfd es 56 35 ≤ zfd es 56 36 ∧ zfd es 56 36 ≤ 560 * zfd es 56 35 + 9 * (zar es 61 (zfd es 56 35).toNat).toInt ∧ 0 ≤ (zar es 61 (zfd es 56 35).toNat).toInt ∧ (zar es 61 (zfd es 56 35).toNat).toInt ≤ 60
def pN (es : va_W) : Prop := pM es ∧ pL es
theorem zfd_arr {es : va_W} {i j k a b : Nat} {x y : ClassId × vp_A} (hg : es[i]? = some (a, .inl x)) : zfd (es.set i (b, .inl y)) j k = zfd es j k := by
  unfold zfd zfv
  by_cases e : i = j
  · subst e
    rw [List.getElem?_set, if_pos rfl, if_pos (List.getElem?_eq_some_iff.mp hg).1, hg]
  · rw [List.getElem?_set, if_neg e]
theorem pN.arr {es : va_W} {i a b : Nat} {x y : ClassId × vp_A} (hg : es[i]? = some (a, .inl x)) (h61 : zar (es.set i (b, .inl y)) 61 = zar es 61) (hm : pM es → pM (es.set i (b, .inl y))) (h : pN es) : pN (es.set i (b, .inl y)) := by
  refine ⟨hm h.1, ?_⟩
  have h2 := h.2
  unfold pL at h2 ⊢
  rw [zfd_arr hg, zfd_arr hg, zfd_arr hg, h61]
  exact h2
theorem pN.ne {es : va_W} {i a b : Nat} {x y : ClassId × vp_A} (hg : es[i]? = some (a, .inl x)) (h : (!(xmN kSp i)) = true) (hp : pN es) : pN (es.set i (b, .inl y)) := by
  have h0 : i ≠ 61 := fun z => by subst z; cases h
  have h1 : i ≠ 73 := fun z => by subst z; cases h
  have h2 : i ≠ 74 := fun z => by subst z; cases h
  have h3 : i ≠ 77 := fun z => by subst z; cases h
  exact pN.arr hg (zar_ne h0) (pM.of (zar_ne h1) (zar_ne h2) (zar_ne h3)) hp
theorem pN.long {es : va_W} {i a b : Nat} {x : ClassId × vp_A} {g : Nat → Int64} {c2 : ClassId} {n2 : Nat} (hg : es[i]? = some (a, .inl x)) (hx : ∃ c n f, x = (c, n, .inr (.inl f))) (hp : pN es) : pN (es.set i (b, .inl (c2, n2, .inr (.inl g)))) := pN.arr hg (zar_long hg hx) (pM.of (zar_long hg hx) (zar_long hg hx) (zar_long hg hx)) hp
theorem zfd_obj {es : va_W} {i a b ci k : Nat} {vs : List Value} {v : Value} (hg : es[i]? = some (a, .inr (ci, vs))) {j k2 : Nat} (h : ¬ (i = j ∧ k = k2)) : zfd (es.set i (b, .inr (ci, vs.set k v))) j k2 = zfd es j k2 := by
  unfold zfd zfv
  by_cases e : i = j
  · subst e
    rw [List.getElem?_set, if_pos rfl, if_pos (List.getElem?_eq_some_iff.mp hg).1, hg]
    dsimp only
    rw [List.getElem?_set, if_neg (fun z => h ⟨rfl, z⟩)]
  · rw [List.getElem?_set, if_neg e]
theorem pN.obj {es : va_W} {i a b ci k : Nat} {vs : List Value} {v : Value} (hg : es[i]? = some (a, .inr (ci, vs))) (hl : k < vs.length) (h35 : ¬ (i = 56 ∧ k = 35)) (h36 : ¬ (i = 56 ∧ k = 36)) (h4 : i = 56 ∧ k = 4 → ∃ x : Int32, v = .int x ∧ x.toInt ≠ 0) (hp : pN es) : pN (es.set i (b, .inr (ci, vs.set k v))) := by
  refine ⟨pM.of (zar_obj hg) (zar_obj hg) (zar_obj hg) hp.1, ?_⟩
  have h2 := hp.2
  unfold pL at h2 ⊢
  rw [zfd_obj hg h35, zfd_obj hg h36, zar_obj hg]
  intro h9
  by_cases e : i = 56 ∧ k = 4
  · obtain ⟨x, hx, h0⟩ := h4 e
    obtain ⟨rfl, rfl⟩ := e
    exfalso
    unfold zfd zfv at h9
    rw [List.getElem?_set, if_pos rfl, if_pos (List.getElem?_eq_some_iff.mp hg).1] at h9
    dsimp only at h9
    rw [List.getElem?_set, if_pos rfl, if_pos hl, hx] at h9
    exact h0 h9
  · rw [zfd_obj hg e] at h9
    exact h2 h9
/-- nothing but these places is written; the rules can still be run, and the code is no longer than it may be (unless 4677 stands among the places) -/
def zfrm (wr : List Nat) (es0 es : va_W) : Prop := (∀ i k : Nat, k < 64 → xmN wr (64 * i + k) = false → zct es i k = zct es0 i k) ∧ (xmN wr 4677 = false → pN es0 → pN es)
/-- the String constants of the tape, and two statics of the JDK -/
def zsLen : List Nat := [81, 11]
def zsByt : List (List Int32) := [[102, 101, 97, 114, 32, 97, 103, 101, 32, 99, 97, 108, 109, 32, 102, 97, 114, 32, 108, 105, 103, 104, 116, 32, 110, 105, 103, 104, 116, 32, 109, 97, 110, 32, 98, 111, 121, 32, 104, 101, 108, 112, 32, 116, 97, 110, 107, 32, 112, 105, 112, 101, 115, 32, 100, 114, 97, 119, 32, 97, 116, 32, 111, 105, 108, 32, 108, 105, 116, 32, 111, 114, 32, 97, 110, 100, 32, 110, 111, 116, 32], [59, 40, 41, 60, 62, 61, 43, 45, 42, 47, 37]]
def zStr (A : Nat → Prop) (U : State) : Prop := (∃ adK adV : Nat → Nat, vk_S 2 zsLen zsByt adK adV A U U.heap ∧ vk_R "NightLights$Tape" 66 "fear age calm far light night man boy help tank pipes draw at oil lit or and not " (adK 0) U ∧ vk_R "NightLights$Tape" 54 ";()<>=+-*/%" (adK 1) U) ∧ va_Z "java/lang/String" "COMPACT_STRINGS" "Z" (.int 1) A U U.heap ∧ va_Zq "jdk/internal/util/Preconditions" "SIOOBE_FORMATTER" "Ljava/util/function/BiFunction;" A U U.heap
theorem zStr.call {A : Nat → Prop} {U V : State} (hv : V.vm = U.vm) (hh : V.heap = U.heap) (h : zStr A U) : zStr A V := by
  have hvm : U.vm.Alike V.vm := by rw [hv]; exact Vm.Alike.refl _
  obtain ⟨⟨k1, k2, h1, h2, h3⟩, h4, h5⟩ := h
  unfold zStr
  rw [hh]
  exact ⟨⟨k1, k2, h1.moved hvm, h2.same hv, h3.same hv⟩, h4.moved hvm, h5.moved hvm⟩
theorem zStr.at {A B : Nat → Prop} {s V : State} {H : Heap} {locs : List Loc} (hW : s.WarmedH V.vm) (hH : V.heap = H) (hS : va_S A s.heap H locs) (hB : ∀ q, B q → A q) (h : zStr A s) : zStr B V := by
  obtain ⟨⟨k1, k2, h1, h2, h3⟩, h4, h5⟩ := h
  unfold zStr
  rw [hH]
  exact ⟨⟨k1, k2, ((h1.kept hS.2.1).moved hW.alike).narrow hB, h2.warm hW, h3.warm hW⟩, ((h4.kept hS.2.1).moved hW.alike).narrow hB, ((h5.kept hS.2.1).moved hW.alike).narrow hB⟩
abbrev hTz (T : zTb) (s : State) (γ : Nat → ClassId) : Prop := ∀ (i : Nat) (ty : FieldType) (n : Nat) (rs : List (Int × Int)), T.2.1[i]? = some (.inl (ty, n, rs)) → ArrOfT s (γ i) ty ∧ va_RA s (γ i) ty
theorem hTz.moved {T : zTb} {s t : State} {γ : Nat → ClassId} (hvm : s.vm.Alike t.vm) (h : hTz T s γ) : hTz T t γ := fun i ty k us hi => ⟨arrOfT_moved hvm (h i ty k us hi).1, (h i ty k us hi).2.moved hvm⟩
def zIv (T : zTb) (U : zRn) (D : va_G) (ρ : Nat → Nat) (γ : Nat → ClassId) (es0 : va_W) (s : State) (A : Nat → Prop) (r : zR) (η0 : zE) (nf0 : Nat) (η : zE) (H : Heap) (locs : List Loc) (ls : Array Slot) (lo : zL) (ca : zCa) (fa : zFa) (nf : Nat) (es : va_W) : Prop :=
  va_P D vwCl es H ∧ va_D A es ∧ va_S A s.heap H locs ∧ lv_has ls r.1.2.2.1 (zdL ρ η lo) ∧ zsat η fa ∧ nf0 ≤ nf ∧ zag nf0 η0 η ∧ zCo T ρ γ η ca es ∧ zfrm U.2.2.2 es0 es
def zrd (η : zE) (r : zR) (pc : Nat) : Option zV → Prop
  | none => decode r.1.2.1 pc = .ok (.return_, 1) ∧ r.1.2.2.2.1 = none
  | some (.inl a) => decode r.1.2.1 pc = .ok (.ireturn, 1) ∧ ∃ ty, r.1.2.2.2.1 = some ty ∧ narrow ty (.int (zi η a)) = .int (zi η a)
  | some (.inr (.inr _)) => decode r.1.2.1 pc = .ok (.lreturn, 1) ∧ r.1.2.2.2.1 = some .long
  | _ => False
def zCx (T : zTb) (U : zRn) (D : va_G) (l : Launch) (ρ : Nat → Nat) (γ : Nat → ClassId) (es0 : va_W) (r : zR) (p : Program) (e : Env) (s : State) (m : MethodId) (args : Array Value) (below : List Frame) (meth : Method) (c : Code) (A : Nat → Prop) (Q : State → Prop) (K : zK) (cs ss : Nat) (η0 : zE) (nf0 : Nat) : Prop :=
  p.tables.exec = Jvm.exec ∧ c.code = r.1.2.1 ∧ c.maxLocals = r.1.2.2.1 ∧ s.vm.findClass (xnm r.1.2.2.2.2.1) = some m.cls ∧ (∀ w ∈ xGd, w.before args s = true) ∧ va_K D vwCl [] s ∧ ((∀ q, s.heap.size ≤ q → A q) ∧ cs ≤ (xrm r.1).cells ∧ ss ≤ (xrm r.1).slots) ∧ (∀ q ∈ r.1.2.2.2.2.2.2.2, decode r.1.2.1 q.1 = .ok q.2) ∧ hTz T s γ ∧
  ((r.1.2.2.2.2.1 = 12 → ∃ (L : Nat) (xs : Nat → Int32), η0 0 = (L : Int) ∧ L ≤ 100000 ∧ 0 < nf0 ∧ va_X (ρ xz_SC) L xs s s.heap ∧ ρ xz_SC < s.heap.size ∧ ¬ A (ρ xz_SC)) ∧ zStr A s) ∧
  (∀ (pc : Nat) (lo : zL) (sk : List zV) (ca : zCa) (fa : zFa) (nf : Nat) (η : zE) (H : Heap) (locs : List Loc) (ls : Array Slot) (es : va_W), xmN r.2 pc = true → U.1 pc lo sk ca fa nf = true → zIv T U D ρ γ es0 s A r η0 nf0 η H locs ls lo ca fa nf es → W p l e (xrm r.1) s m args below meth c H locs cs ss Q (F0 m pc ls (sk.map (zv ρ η)))) ∧
  (∀ (pc : Nat) (v : Option zV) (lo : zL) (ca : zCa) (fa : zFa) (nf : Nat) (η : zE) (H : Heap) (locs : List Loc) (ls : Array Slot) (es : va_W), zIv T U D ρ γ es0 s A r η0 nf0 η H locs ls lo ca fa nf es → K fa nf v ca = true → zrd η r pc v → W p l e (xrm r.1) s m args below meth c H locs cs ss Q (F0 m pc ls (v.toList.map (zv ρ η))))
def zGd (T : zTb) (U : zRn) (D : va_G) (l : Launch) (ρ : Nat → Nat) (γ : Nat → ClassId) (es0 : va_W) (ih : zS) : Prop :=
  ∀ (r : zR) (p : Program) (e : Env) (s : State) (m : MethodId) (args : Array Value) (below : List Frame) (meth : Method) (c : Code) (A : Nat → Prop) (Q : State → Prop) (K : zK) (cs ss : Nat) (η0 : zE) (nf0 : Nat), zCx T U D l ρ γ es0 r p e s m args below meth c A Q K cs ss η0 nf0 →
  ∀ (pc : Nat) (lo : zL) (sk : List zV) (ca : zCa) (fa : zFa) (nf : Nat), ih r pc lo sk ca fa nf K = true →
  ∀ (η : zE) (H : Heap) (locs : List Loc) (ls : Array Slot) (es : va_W), zIv T U D ρ γ es0 s A r η0 nf0 η H locs ls lo ca fa nf es → W p l e (xrm r.1) s m args below meth c H locs cs ss Q (F0 m pc ls (sk.map (zv ρ η)))
theorem zIv.fa {T : zTb} {U : zRn} {D : va_G} {ρ : Nat → Nat} {γ : Nat → ClassId} {es0 : va_W} {s : State} {A : Nat → Prop} {r : zR} {η0 : zE} {nf0 : Nat} {η : zE} {H : Heap} {locs : List Loc} {ls : Array Slot} {lo : zL} {ca : zCa} {fa fa2 : zFa} {nf : Nat} {es : va_W} (V : zIv T U D ρ γ es0 s A r η0 nf0 η H locs ls lo ca fa nf es) (h : zsat η fa2) : zIv T U D ρ γ es0 s A r η0 nf0 η H locs ls lo ca fa2 nf es := ⟨V.1, V.2.1, V.2.2.1, V.2.2.2.1, h, V.2.2.2.2.2⟩
theorem zIv.lo {T : zTb} {U : zRn} {D : va_G} {ρ : Nat → Nat} {γ : Nat → ClassId} {es0 : va_W} {s : State} {A : Nat → Prop} {r : zR} {η0 : zE} {nf0 : Nat} {η : zE} {H : Heap} {locs : List Loc} {ls ls2 : Array Slot} {lo lo2 : zL} {ca : zCa} {fa : zFa} {nf : Nat} {es : va_W} (V : zIv T U D ρ γ es0 s A r η0 nf0 η H locs ls lo ca fa nf es) (h : lv_has ls2 r.1.2.2.1 (zdL ρ η lo2)) : zIv T U D ρ γ es0 s A r η0 nf0 η H locs ls2 lo2 ca fa nf es := ⟨V.1, V.2.1, V.2.2.1, h, V.2.2.2.2⟩
theorem zcA_ag {nf : Nat} {η η2 : zE} (h : zag nf η η2) {ca : zCa} (hc : zbC nf ca = true) {i j : Nat} (hA : cA η ca i j) : cA η2 ca i j := by
  obtain ⟨ix, v, hm, e⟩ := hA
  exact ⟨ix, v, hm, by rw [zbI_ag h ((zbC_ok hc _ hm).2 ix rfl)]; exact e⟩
theorem zCo.ag {T : zTb} {ρ : Nat → Nat} {γ : Nat → ClassId} {nf : Nat} {η η2 : zE} {ca : zCa} {es : va_W} (h : zag nf η η2) (hc : zbC nf ca = true) (C : zCo T ρ γ η ca es) : zCo T ρ γ η2 ca es := by
  refine ⟨fun i ty n rs hi ht => ?_, C.2.1, C.2.2.1, C.2.2.2.1, fun q hq => ?_⟩
  · obtain ⟨f, h1, h2⟩ := C.1 i ty n rs hi ht
    exact ⟨f, h1, fun j hj => (h2 j hj).imp (zcA_ag h hc) id⟩
  · obtain ⟨h9, h8⟩ := C.2.2.2.2 q hq
    refine ⟨?_, fun ix e => by rw [zbI_ag h ((zbC_ok hc q hq).2 ix e)]; exact h8 ix e⟩
    rw [zbV_ag h ρ (zbC_ok hc q hq).1, ← h9]
    obtain ⟨⟨i, k | ix⟩, v⟩ := q
    · rfl
    · show zav es i (zd η2 ix).toNat = zav es i (zd η ix).toNat
      rw [zbI_ag h ((zbC_ok hc _ hq).2 ix rfl)]
theorem zv_cat (ρ : Nat → Nat) (η : zE) (v : zV) : (zv ρ η v).category = zcat v := by
  rcases v with i | (_ | i) | z <;> rfl
theorem zlg_cat {ρ : Nat → Nat} {η : zE} {v : zV} (h : (!(zlg v)) = true) : (zv ρ η v).category = 1 := by
  rw [zv_cat]
  unfold zcat
  cases e : zlg v with
  | true => rw [e] at h; cases h
  | false => rfl
theorem zv_lg (ρ : Nat → Nat) (η : zE) (v : zV) : ((zv ρ η v).category == 2) = zlg v := by
  rcases v with i | (_ | i) | z <;> rfl
theorem zll_ok {ρ : Nat → Nat} {η : zE} {i : Nat} {v : zV} : ∀ {lo : zL}, zll lo i = some v → (i, zv ρ η v) ∈ zdL ρ η lo := by
  intro lo
  induction lo with
  | nil => intro h; cases h
  | cons q t ih =>
    obtain ⟨k, u⟩ := q
    intro h
    unfold zll at h
    cases e : Nat.beq k i with
    | true =>
      rw [e] at h
      cases h
      rw [← Nat.eq_of_beq_eq_true e]
      exact List.mem_cons_self
    | false =>
      rw [e] at h
      exact List.mem_cons_of_mem _ (ih h)
theorem gFil_eq {α : Type} (p : α → Bool) (l : List α) : ∀ (k : List α → Bool), gFil p l k = k (l.filter p) := by
  induction l with
  | nil => intro k; rfl
  | cons q t ih =>
    intro k
    cases h : p q <;> simp [gFil, h, ih]
theorem zdL_p1 (ρ : Nat → Nat) (η : zE) (i : Nat) (lo : zL) : (zdL ρ η lo).filter (fun q => !(q.1 == i) && !(q.1 + 1 == i && q.2.category == 2)) = zdL ρ η (lo.filter (zp1 i)) := by
  unfold zdL
  rw [List.filter_map]
  congr 1
  apply List.filter_congr
  intro q _
  show (!(q.1 == i) && !(q.1 + 1 == i && (zv ρ η q.2).category == 2)) = _
  rw [zv_lg]
  rfl
theorem zdL_p2 (ρ : Nat → Nat) (η : zE) (i : Nat) (lo : zL) : (zdL ρ η lo).filter (fun q => !(q.1 == i) && (!(q.1 == i + 1) && !(q.1 + 1 == i && q.2.category == 2))) = zdL ρ η (lo.filter (zp2 i)) := by
  unfold zdL
  rw [List.filter_map]
  congr 1
  apply List.filter_congr
  intro q _
  show (!(q.1 == i) && (!(q.1 == i + 1) && !(q.1 + 1 == i && (zv ρ η q.2).category == 2))) = _
  rw [zv_lg]
  rfl
theorem zbL_fil {nf : Nat} (p : Nat × zV → Bool) : ∀ {lo : zL}, zbL nf lo = true → zbL nf (lo.filter p) = true := by
  intro lo
  induction lo with
  | nil => intro _; rfl
  | cons q t ih =>
    intro h
    unfold zbL at h
    rw [Bool.and_eq_true] at h
    rw [List.filter_cons]
    split
    · unfold zbL
      rw [h.1, ih h.2]
      rfl
    · exact ih h.2
set_option maxHeartbeats 1000000 in
theorem zIv.up {T : zTb} {U : zRn} {D : va_G} {ρ : Nat → Nat} {γ : Nat → ClassId} {es0 : va_W} {s : State} {A : Nat → Prop} {r : zR} {η0 : zE} {nf0 : Nat} {η : zE} {H : Heap} {locs : List Loc} {ls : Array Slot} {lo : zL} {ca : zCa} {fa : zFa} {nf : Nat} {es : va_W} (V : zIv T U D ρ γ es0 s A r η0 nf0 η H locs ls lo ca fa nf es) {x : Int} {g : zG} {rl : List zRl} {mm : List zMm} {rest : List zV} (hx : zbd x) (hn : znew lo ca fa nf rest = true) (hg : zgs x g) (hr : ∀ q ∈ rl, zrs (zup η nf x) q) (hm : ∀ q ∈ mm, zms (zup η nf x) q) : zIv T U D ρ γ es0 s A r η0 nf0 (zup η nf x) H locs ls lo ca ((nf, g) :: fa.1, rl ++ fa.2.1, mm ++ fa.2.2) (nf + 1) es ∧ rest.map (zv ρ (zup η nf x)) = rest.map (zv ρ η) := by
  unfold znew at hn
  rw [Bool.and_eq_true, Bool.and_eq_true, Bool.and_eq_true] at hn
  obtain ⟨n1, n2, n3, n4⟩ := hn
  have ha := zup_ag η nf x
  refine ⟨⟨V.1, V.2.1, V.2.2.1, by rw [zbL_ag ha ρ n2]; exact V.2.2.2.1, zup_sat hx n4 V.2.2.2.2.1 hg hr hm, Nat.le_succ_of_le V.2.2.2.2.2.1, fun k hk => ?_, zCo.ag ha n3 V.2.2.2.2.2.2.2.1, V.2.2.2.2.2.2.2.2⟩, zbS_ag ha ρ n1⟩
  rw [ha k (Nat.lt_of_lt_of_le hk V.2.2.2.2.2.1)]
  exact V.2.2.2.2.2.2.1 k hk
set_option maxHeartbeats 1000000 in
theorem zIv.upL {T : zTb} {U : zRn} {D : va_G} {ρ : Nat → Nat} {γ : Nat → ClassId} {es0 : va_W} {s : State} {A : Nat → Prop} {r : zR} {η0 : zE} {nf0 : Nat} {η : zE} {H : Heap} {locs : List Loc} {ls : Array Slot} {lo : zL} {ca : zCa} {fa : zFa} {nf : Nat} {es : va_W} (V : zIv T U D ρ γ es0 s A r η0 nf0 η H locs ls lo ca fa nf es) {x : Int} {rest : List zV} (hx : zbd x) (hn : znew lo ca fa nf rest = true) : zIv T U D ρ γ es0 s A r η0 nf0 (zup η nf x) H locs ls lo ca fa (nf + 1) es ∧ rest.map (zv ρ (zup η nf x)) = rest.map (zv ρ η) := by
  unfold znew at hn
  rw [Bool.and_eq_true, Bool.and_eq_true, Bool.and_eq_true] at hn
  obtain ⟨n1, n2, n3, n4⟩ := hn
  have ha := zup_ag η nf x
  refine ⟨⟨V.1, V.2.1, V.2.2.1, by rw [zbL_ag ha ρ n2]; exact V.2.2.2.1, zbF_ag ha (zup_bd V.2.2.2.2.1.1 hx) n4 V.2.2.2.2.1, Nat.le_succ_of_le V.2.2.2.2.2.1, fun k hk => ?_, zCo.ag ha n3 V.2.2.2.2.2.2.2.1, V.2.2.2.2.2.2.2.2⟩, zbS_ag ha ρ n1⟩
  rw [ha k (Nat.lt_of_lt_of_le hk V.2.2.2.2.2.1)]
  exact V.2.2.2.2.2.2.1 k hk
theorem zv_sym (ρ : Nat → Nat) (η : zE) (nf : Nat) (x : Int32) : zv ρ (zup η nf x.toInt) (.inl (zsym nf)) = .int x := by
  show Value.int (Int32.ofInt (1 * zup η nf x.toInt nf + 0)) = _
  rw [zup_n, Int.one_mul, Int.add_zero, i32_of]
theorem zv_symL (ρ : Nat → Nat) (η : zE) (nf : Nat) (x : Int64) : zv ρ (zup η nf x.toInt) (.inr (.inr (zsym nf))) = .long x := by
  show Value.long (Int64.ofInt (1 * zup η nf x.toInt nf + 0)) = _
  rw [zup_n, Int.one_mul, Int.add_zero, i64_of]
set_option maxHeartbeats 1000000 in
theorem ok_zpush {T : zTb} {U : zRn} {D : va_G} {l : Launch} {ρ : Nat → Nat} {γ : Nat → ClassId} {es0 : va_W} {ih : zS} {r : zR} {p : Program} {e : Env} {s : State} {m : MethodId} {args : Array Value} {below : List Frame} {meth : Method} {c : Code} {A : Nat → Prop} {Q : State → Prop} {K : zK} {cs ss : Nat} {η0 : zE} {nf0 : Nat} {pc : Nat} {lo : zL} {ca : zCa} {fa : zFa} {nf : Nat} {n : Nat} {η : zE} {H : Heap} {locs : List Loc} {ls : Array Slot} {es : va_W} (IH : zGd T U D l ρ γ es0 ih) (C : zCx T U D l ρ γ es0 r p e s m args below meth c A Q K cs ss η0 nf0) (V : zIv T U D ρ γ es0 s A r η0 nf0 η H locs ls lo ca fa nf es) {d : Nat} {v : zV} {rest : List zV} (h : zpush ih r pc lo ca fa nf K n d v rest = true) : n = d ∧ W p l e (xrm r.1) s m args below meth c H locs cs ss Q (F0 m (pc + d) ls (zv ρ η v :: rest.map (zv ρ η))) := by
  unfold zpush at h
  rw [Bool.and_eq_true, gV_eq, fN_eq] at h
  exact ⟨Nat.eq_of_beq_eq_true h.1, IH _ _ _ _ _ _ _ _ _ _ _ _ _ _ _ _ C _ _ _ _ _ _ h.2 η H locs ls es V⟩
set_option maxHeartbeats 1000000 in
theorem ok_zpuF {T : zTb} {U : zRn} {D : va_G} {l : Launch} {ρ : Nat → Nat} {γ : Nat → ClassId} {es0 : va_W} {ih : zS} {r : zR} {p : Program} {e : Env} {s : State} {m : MethodId} {args : Array Value} {below : List Frame} {meth : Method} {c : Code} {A : Nat → Prop} {Q : State → Prop} {K : zK} {cs ss : Nat} {η0 : zE} {nf0 : Nat} {pc : Nat} {lo : zL} {ca : zCa} {fa : zFa} {nf : Nat} {n : Nat} {η : zE} {H : Heap} {locs : List Loc} {ls : Array Slot} {es : va_W} (IH : zGd T U D l ρ γ es0 ih) (C : zCx T U D l ρ γ es0 r p e s m args below meth c A Q K cs ss η0 nf0) (V : zIv T U D ρ γ es0 s A r η0 nf0 η H locs ls lo ca fa nf es) {d : Nat} {q : Int × Int} {nes : List Int} {rl : List zRl} {mm : List zMm} {rest : List zV} (h : zpuF ih r pc lo ca fa nf K n d q nes rl mm rest = true) (x : Int32) (h1 : q.1 ≤ x.toInt) (h2 : x.toInt ≤ q.2) (h3 : ∀ k ∈ nes, x.toInt ≠ k) (hr : ∀ z ∈ rl, zrs (zup η nf x.toInt) z) (hm : ∀ z ∈ mm, zms (zup η nf x.toInt) z) : n = d ∧ W p l e (xrm r.1) s m args below meth c H locs cs ss Q (F0 m (pc + d) ls (.int x :: rest.map (zv ρ η))) := by
  unfold zpuF at h
  rw [Bool.and_eq_true, Bool.and_eq_true, fZ_eq, fZ_eq, fN_eq, fN_eq] at h
  obtain ⟨h4, h5, h6⟩ := h
  obtain ⟨V2, e2⟩ := zIv.up V (g := (q.1, q.2, nes)) (zbd32 x) h5 ⟨h1, h2, h3⟩ hr hm
  have k := IH _ _ _ _ _ _ _ _ _ _ _ _ _ _ _ _ C _ _ _ _ _ _ h6 _ H locs ls es V2
  rw [List.map_cons, zv_sym, e2] at k
  exact ⟨Nat.eq_of_beq_eq_true h4, k⟩
set_option maxHeartbeats 1000000 in
theorem ok_zpuF0 {T : zTb} {U : zRn} {D : va_G} {l : Launch} {ρ : Nat → Nat} {γ : Nat → ClassId} {es0 : va_W} {ih : zS} {r : zR} {p : Program} {e : Env} {s : State} {m : MethodId} {args : Array Value} {below : List Frame} {meth : Method} {c : Code} {A : Nat → Prop} {Q : State → Prop} {K : zK} {cs ss : Nat} {η0 : zE} {nf0 : Nat} {pc : Nat} {lo : zL} {ca : zCa} {fa : zFa} {nf : Nat} {n : Nat} {η : zE} {H : Heap} {locs : List Loc} {ls : Array Slot} {es : va_W} (IH : zGd T U D l ρ γ es0 ih) (C : zCx T U D l ρ γ es0 r p e s m args below meth c A Q K cs ss η0 nf0) (V : zIv T U D ρ γ es0 s A r η0 nf0 η H locs ls lo ca fa nf es) {d : Nat} {q : Int × Int} {rest : List zV} (h : zpuF ih r pc lo ca fa nf K n d q [] [] [] rest = true) (x : Int32) (h1 : q.1 ≤ x.toInt ∧ x.toInt ≤ q.2) : n = d ∧ W p l e (xrm r.1) s m args below meth c H locs cs ss Q (F0 m (pc + d) ls (.int x :: rest.map (zv ρ η))) := ok_zpuF IH C V h x h1.1 h1.2 (fun _ z => by cases z) (fun _ z => by cases z) (fun _ z => by cases z)
set_option maxHeartbeats 1000000 in
theorem ok_zpuL {T : zTb} {U : zRn} {D : va_G} {l : Launch} {ρ : Nat → Nat} {γ : Nat → ClassId} {es0 : va_W} {ih : zS} {r : zR} {p : Program} {e : Env} {s : State} {m : MethodId} {args : Array Value} {below : List Frame} {meth : Method} {c : Code} {A : Nat → Prop} {Q : State → Prop} {K : zK} {cs ss : Nat} {η0 : zE} {nf0 : Nat} {pc : Nat} {lo : zL} {ca : zCa} {fa : zFa} {nf : Nat} {n : Nat} {η : zE} {H : Heap} {locs : List Loc} {ls : Array Slot} {es : va_W} (IH : zGd T U D l ρ γ es0 ih) (C : zCx T U D l ρ γ es0 r p e s m args below meth c A Q K cs ss η0 nf0) (V : zIv T U D ρ γ es0 s A r η0 nf0 η H locs ls lo ca fa nf es) {d : Nat} {rest : List zV} (h : zpuL ih r pc lo ca fa nf K n d rest = true) (x : Int64) : n = d ∧ W p l e (xrm r.1) s m args below meth c H locs cs ss Q (F0 m (pc + d) ls (.long x :: rest.map (zv ρ η))) := by
  unfold zpuL at h
  rw [Bool.and_eq_true, Bool.and_eq_true, fN_eq, fN_eq] at h
  obtain ⟨h4, h5, h6⟩ := h
  obtain ⟨V2, e2⟩ := zIv.upL V (zbd64 x) h5
  have k := IH _ _ _ _ _ _ _ _ _ _ _ _ _ _ _ _ C _ _ _ _ _ _ h6 _ H locs ls es V2
  rw [List.map_cons, zv_symL, e2] at k
  exact ⟨Nat.eq_of_beq_eq_true h4, k⟩
