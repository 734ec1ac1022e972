/-! The JDK's string methods. -/
def jM (y : MethodName) (cc : ByteArray) (ml : Nat) (ret : Option FieldType) (na : Nat) : Prop := Jvm.Cond.code y cc ml ret ∈ xGd ∧ Jvm.Cond.initialized y.cls ∈ xGd ∧ (parseMethodDescriptor y.desc).map (fun d => d.parameters.length) = some na ∧ plainName y.cls = true ∧ (y.cls ≠ "java/lang/invoke/MethodHandle" ∧ y.cls ≠ "java/lang/invoke/VarHandle")
def jR (adK : Nat → Nat) (U : State) : Prop := vk_R "NightLights$Tape" 66 "fear age calm far light night man boy help tank pipes draw at oil lit or and not " (adK 0) U ∧ vk_R "NightLights$Tape" 54 ";()<>=+-*/%" (adK 1) U
def jS (adK adV : Nat → Nat) (A : Nat → Prop) (U : State) : Prop := vk_S 2 zsLen zsByt adK adV A U U.heap ∧ jR adK U ∧ va_Z "java/lang/String" "COMPACT_STRINGS" "Z" (.int 1) A U U.heap ∧ va_Zq "jdk/internal/util/Preconditions" "SIOOBE_FORMATTER" "Ljava/util/function/BiFunction;" A U U.heap
theorem jS.call {adK adV : Nat → Nat} {A : Nat → Prop} {U V : State} (hv : V.vm = U.vm) (hh : V.heap = U.heap) (h : jS adK adV A U) : jS adK adV A V := by
  have hvm : U.vm.Alike V.vm := by rw [hv]; exact Vm.Alike.refl _
  obtain ⟨h1, h2, h4, h5⟩ := h
  unfold jS
  rw [hh]
  exact ⟨h1.moved hvm, ⟨h2.1.same hv, h2.2.same hv⟩, h4.moved hvm, h5.moved hvm⟩
theorem jS.at {adK adV : Nat → Nat} {A B : Nat → Prop} {s V : State} {H : Heap} {locs : List Loc} (hW : s.WarmedH V.vm) (hH : V.heap = H) (hS : va_S A s.heap H locs) (hB : ∀ q, B q → A q) (h : jS adK adV A s) : jS adK adV B V := by
  obtain ⟨h1, h2, h4, h5⟩ := h
  unfold jS
  rw [hH]
  exact ⟨((h1.kept hS.2.1).moved hW.alike).narrow hB, ⟨h2.1.warm hW, h2.2.warm hW⟩, ((h4.kept hS.2.1).moved hW.alike).narrow hB, ((h5.kept hS.2.1).moved hW.alike).narrow hB⟩
def jP (adK adV : Nat → Nat) (vs : List Value) (sz : Nat) : Array Value → State → Prop := va_Pc vs (fun U => U.heap.size = sz ∧ jS adK adV (va_A [] sz) U)
def jQ (R : Option Value → Prop) (sz : Nat) : Array Value → State → Outcome → State → Prop := fun _ st oc t => (∃ v : Option Value, oc = .returned v ∧ t.heap = st.heap ∧ R v) ∧ va_F (va_A [] sz) st t
/-- a method's contract -/
def jMet (l : Launch) (y : MethodName) (cc : ByteArray) (ml : Nat) (ret : Option FieldType) (rm : Nat × Nat) (adK adV : Nat → Nat) (vs : List Value) (R : Option Value → Prop) : Prop := ∀ sz : Nat, Met l y (Jvm.Cond.code y cc ml ret :: xGd) (zrmS rm) (jP adK adV vs sz) (jQ R sz) 0 0 (va_A [] sz)
def jB (adK adV : Nat → Nat) (y : MethodName) (cc : ByteArray) (ml : Nat) (p : Program) (s : State) (m : MethodId) (args : Array Value) (c : Code) (A : Nat → Prop) : Prop := p.tables.exec = Jvm.exec ∧ c.code = cc ∧ c.maxLocals = ml ∧ s.vm.findClass y.cls = some m.cls ∧ (∀ w ∈ xGd, w.before args s = true) ∧ jS adK adV A s ∧ ∀ q, s.heap.size ≤ q → A q
theorem goodC {y : MethodName} {cc : ByteArray} {ml : Nat} {ret : Option FieldType} (h : Jvm.Cond.code y cc ml ret ∈ xGd) : GoodIn xGd (Jvm.Cond.code y cc ml ret :: xGd) := by
  intro w hw
  have h1 : w ∈ xGd := by
    rcases List.mem_cons.mp hw with e | e
    · rw [e]; exact h
    · exact e
  exact ⟨h1, good_of_word (List.mem_filter.mp h1).2⟩
abbrev jW (l : Launch) (rm : Nat × Nat) (R : Option Value → Prop) (p : Program) (e : Env) (s : State) (m : MethodId) (vs : List Value) (below : List Frame) (meth : Method) (c : Code) (locs : List Loc) (f : JFrame) : Prop := W p l e (zrmS rm) s m vs.toArray below meth c s.heap locs 0 0 (MQ below (jQ R s.heap.size) vs.toArray s 0 0 (va_A [] s.heap.size)) f
theorem jent {l : Launch} {y : MethodName} {cc : ByteArray} {ml : Nat} {ret : Option FieldType} {na : Nat} (J : jM y cc ml ret na) {rm : Nat × Nat} {adK adV : Nat → Nat} {vs : List Value} {R : Option Value → Prop} (hcat : (lg_sl vs).length ≤ ml)
    (body : ∀ (p : Program) (e : Env) (s : State) (m : MethodId) (below : List Frame) (meth : Method) (c : Code) (ls : Array Slot), jB adK adV y cc ml p s m vs.toArray c (va_A [] s.heap.size) → lv_has ls ml (lv_args 0 vs) →
      (∀ (pc : Nat) (locs : List Loc) (ls2 : Array Slot) (x : Int32) (ty : FieldType), va_S (va_A [] s.heap.size) s.heap s.heap locs → ret = some ty → narrow ty (.int x) = .int x → decode cc pc = .ok (.ireturn, 1) → R (some (.int x)) → jW l rm R p e s m vs below meth c locs (F0 m pc ls2 [.int x])) →
      (∀ (pc : Nat) (locs : List Loc) (ls2 : Array Slot), va_S (va_A [] s.heap.size) s.heap s.heap locs → ret = none → decode cc pc = .ok (.return_, 1) → R none → jW l rm R p e s m vs below meth c locs (F0 m pc ls2 [])) →
      jW l rm R p e s m vs below meth c [] (F0 m 0 ls [])) : jMet l y cc ml ret rm adK adV vs R := by
  intro sz
  obtain ⟨g1, g2, g4, g5, g6⟩ := J
  refine Met.ofW (cc := cc) (maxL := ml) (ret := ret) g5 rfl ?_
  intro p e s m args below meth c s₁ B hml hv
  obtain ⟨rfl, hsz, hSt⟩ := hv
  subst hsz
  have hts := atoms_spec (ws := Jvm.Cond.code y cc ml ret :: xGd) B.pre
  have hown : s.vm.findClass y.cls = some m.cls := findClass_of_methodNamed B.named
  have hl := lv_entry vs (n := ml) hcat
  rw [lg_entry_eq]
  generalize (lg_sl vs ++ List.replicate (ml - (lg_sl vs).length) Slot.unset).toArray = ls at hl ⊢
  refine body p e s m below meth c ls ⟨B.exec, B.bytes, hml, hown, fun x hx => hts x (List.mem_cons_of_mem _ hx), hSt, fun q h => Or.inr h⟩ hl ?_ ?_
  · intro pc locs ls2 x ty hS ht hn hd hR
    exact W.zret B.exec B.bytes (B.returns.trans ht) hn (fun t ht hW => ⟨⟨_, rfl, ht, hR⟩, hS.F ht⟩) hS.2.2 hd
  · intro pc locs ls2 hS ht hd hR
    exact W.vret B.exec B.bytes (B.returns.trans ht) (fun t ht hW => ⟨⟨_, rfl, ht, hR⟩, hS.F ht⟩) hS.2.2 hd
theorem va_callh {p : Program} {l : Launch} {e : Env} {R : Room} {s : State} {m : MethodId} {args : Array Value} {below : List Frame} {meth : Method} {c : Code} {H : Heap} {locs : List Loc} {cells slots : Nat} {Q : State → Prop} {pc : Nat} {ls : Array Slot} {rest st0 : List Value} {A0 A1 : Nat → Prop} {H0 : Heap} {mc ms : Nat} {free : Addr → Prop} {Qa : State → Outcome → State → Prop} (hr : va_Run p l e R s m args below meth c H locs cells slots mc ms (F0 m pc ls st0) rest Qa free) (hS : va_S A0 H0 H locs) (hA : ∀ q, q < H.size → A1 q → A0 q) (hf : ∀ q, free q → A0 q) (hF : ∀ st oc t, Qa st oc t → va_F A1 st t ∧ t.heap = st.heap)
    (kk : ∀ (v : Option Value) (st t : State) (locs1 : List Loc), Qa st (.returned v) t → va_S A0 H0 H locs1 → W p l e R s m args below meth c H locs1 (cells + mc) (slots + ms) Q (F0 m (pc + 3) ls (v.toList ++ rest))) : W p l e R s m args below meth c H locs cells slots Q (F0 m pc ls st0) := by
  intro T hT X
  obtain ⟨v, st₀, t, T', L, h0, X', hL, e1, e2, hq, st⟩ := hr T hT X
  obtain ⟨⟨hz, hk⟩, hh⟩ := hF _ _ _ hq
  rw [h0] at hz hk hh
  rw [hh] at e1
  obtain ⟨t2, a1, b1⟩ := kk v st₀ t (locs ++ L) hq
    ⟨hS.1, hS.2.1, fun q hq => by
      rcases List.mem_append.mp hq with h | h
      · exact hS.2.2 q h
      · exact hf _ (hL q h)⟩ T' e1 X'
  exact ⟨t2, st t2 a1, b1⟩
/-- what a frame that calls one stands on -/
def jF (own : String) (cc : ByteArray) (ml : Nat) (adK adV : Nat → Nat) (p : Program) (s : State) (m : MethodId) (args : Array Value) (c : Code) (A : Nat → Prop) : Prop := p.tables.exec = Jvm.exec ∧ c.code = cc ∧ c.maxLocals = ml ∧ s.vm.findClass own = some m.cls ∧ (∀ w ∈ xGd, w.before args s = true) ∧ jS adK adV A s ∧ ∀ q, s.heap.size ≤ q → A q
theorem jB.F {adK adV : Nat → Nat} {y : MethodName} {cc : ByteArray} {ml : Nat} {p : Program} {s : State} {m : MethodId} {args : Array Value} {c : Code} {A : Nat → Prop} (h : jB adK adV y cc ml p s m args c A) : jF y.cls cc ml adK adV p s m args c A := h
theorem jpre {adK adV : Nat → Nat} {s : State} {A : Nat → Prop} {H : Heap} {locs : List Loc} (h : jS adK adV A s) (hS : va_S A s.heap H locs) (hA : ∀ q, s.heap.size ≤ q → A q) (As : List Value) : PreS s H (jP adK adV As H.size) As := by
  refine ⟨fun a U g mk q => ⟨q.1, q.2.1, jS.call (U := U) (V := U.calling g mk a) rfl rfl q.2.2⟩, fun U hU hW => ⟨rfl, by rw [hU], jS.at hW hU hS (fun q hq => ?_) h⟩⟩
  rcases hq with ⟨k, e9, hk⟩ | hq
  · cases hk
  · exact hA q (Nat.le_trans hS.1 hq)
theorem jnew {s : State} {A : Nat → Prop} {H : Heap} {locs : List Loc} (hS : va_S A s.heap H locs) (hA : ∀ q, s.heap.size ≤ q → A q) : ∀ q, va_A [] H.size q → A q := by
  intro q hq
  rcases hq with ⟨k, e9, hk⟩ | hq
  · cases hk
  · exact hA q (Nat.le_trans hS.1 hq)
theorem jstat {own : String} {cc0 : ByteArray} {ml0 : Nat} {adK adV : Nat → Nat} {p : Program} {l : Launch} {e : Env} {R : Room} {s : State} {m : MethodId} {args : Array Value} {below : List Frame} {meth : Method} {c : Code} {A : Nat → Prop} {Q : State → Prop} (B : jF own cc0 ml0 adK adV p s m args c A) {pc : Nat} {H : Heap} {locs : List Loc} {ls : Array Slot} (hS : va_S A s.heap H locs) (hls : ls.size = ml0) {y : MethodName} {cc : ByteArray} {ml : Nat} {ret : Option FieldType} {na : Nat} (J : jM y cc ml ret na) {x : Nat} (hd : decode cc0 pc = .ok (.invokestatic x, 3)) (hl : Jvm.Cond.methodLink own x y ∈ xGd) (hst : Jvm.Cond.static y ∈ xGd) {As rs : List Value} (hAs : As.length = na) (hrs : (rs.map fun v => v.category).sum ≤ 8) {rm : Nat × Nat} (hR : rm.1 + 1 ≤ R.frames ∧ 8 + (ml + 11) + rm.2 ≤ R.locals) {Rr : Option Value → Prop} (hM : jMet l y cc ml ret rm adK adV As Rr)
    (kk : ∀ (v : Option Value) (locs1 : List Loc), Rr v → va_S A s.heap H locs1 → W p l e R s m args below meth c H locs1 0 0 Q (F0 m (pc + 3) ls (v.toList ++ rs))) :
    W p l e R s m args below meth c H locs 0 0 Q (F0 m pc ls (As.reverse ++ rs)) := by
  obtain ⟨c1, c2, c3, c4, c5, c6, c7⟩ := B
  obtain ⟨g1, g2, g4, g5, g6⟩ := J
  have hFc := jnew (s := s) hS c7
  have hrun : va_Run p l e R s m args below meth c H locs 0 0 0 0 (F0 m pc ls (As.reverse ++ rs)) rs (jQ Rr H.size As.toArray) (va_A [] H.size) :=
    va_runS (As := As) (rest := rs) ⟨c1, c2, c3, c4, c5⟩ (hM H.size) ⟨callB_of _ c5 (goodC g1) rfl rfl rfl (c5 _ g2) (c5 _ hl) ⟨g6.1, g6.2, g4⟩ hR, c5 _ hst⟩ (jpre c6 hS c7 As) rfl hAs hls rfl (lv_room hrs) hd ⟨Nat.zero_le _, Nat.zero_le _⟩
  refine va_callh (A0 := A) (A1 := va_A [] H.size) hrun hS (fun q _ h => hFc q h) hFc (fun st oc t z => ⟨z.2, ?_⟩) (fun v st t locs1 hq hS1 => ?_)
  · obtain ⟨⟨v, -, h, -⟩, -⟩ := z
    exact h
  · obtain ⟨⟨v2, ev, -, h⟩, -⟩ := hq
    cases ev
    exact kk v locs1 h hS1
theorem jvirt {own : String} {cc0 : ByteArray} {ml0 : Nat} {adK adV : Nat → Nat} {p : Program} {l : Launch} {e : Env} {R : Room} {s : State} {m : MethodId} {args : Array Value} {below : List Frame} {meth : Method} {c : Code} {A : Nat → Prop} {Q : State → Prop} (B : jF own cc0 ml0 adK adV p s m args c A) {pc : Nat} {H : Heap} {locs : List Loc} {ls : Array Slot} (hS : va_S A s.heap H locs) (hls : ls.size = ml0) {y : MethodName} {cc : ByteArray} {ml : Nat} {ret : Option FieldType} {na : Nat} (J : jM y cc ml ret na) (hy : y.cls = "java/lang/String") {x : Nat} (hd : decode cc0 pc = .ok (.invokevirtual x, 3)) (hl : Jvm.Cond.methodLink own x y ∈ xGd) (hin : Jvm.Cond.instanceMethod y ∈ xGd) (hse : Jvm.Cond.selects "java/lang/String" y y ∈ xGd) {i : Nat} (hi : i < 2) {As rs : List Value} (hAs : As.length = na) (hrs : (rs.map fun v => v.category).sum ≤ 8) {rm : Nat × Nat} (hR : rm.1 + 1 ≤ R.frames ∧ 8 + (ml + 11) + rm.2 ≤ R.locals) {Rr : Option Value → Prop} (hM : jMet l y cc ml ret rm adK adV (.ref (adK i) :: As) Rr)
    (kk : ∀ (v : Option Value) (locs1 : List Loc), Rr v → va_S A s.heap H locs1 → W p l e R s m args below meth c H locs1 0 0 Q (F0 m (pc + 3) ls (v.toList ++ rs))) :
    W p l e R s m args below meth c H locs 0 0 Q (F0 m pc ls (As.reverse ++ .ref (adK i) :: rs)) := by
  obtain ⟨c1, c2, c3, c4, c5, c6, c7⟩ := B
  obtain ⟨g1, g2, g4, g5, g6⟩ := J
  have hFc := jnew (s := s) hS c7
  have hp := jpre c6 hS c7 (.ref (adK i) :: As)
  have hrun : va_Run p l e R s m args below meth c H locs 0 0 0 0 (F0 m pc ls (As.reverse ++ .ref (adK i) :: rs)) rs (jQ Rr H.size (.ref (adK i) :: As).toArray) (va_A [] H.size) := by
    refine va_runV (C := "java/lang/String") (As := As) (rest := rs) ⟨c1, c2, c3, c4, c5⟩ (hM H.size) ⟨callB_of _ c5 (goodC g1) rfl rfl rfl (c5 _ g2) (c5 _ hl) ⟨g6.1, g6.2, g4⟩ hR, c5 _ hin, c5 _ hse⟩ ⟨hp.1, ?_, hp.2⟩ rfl hAs hls rfl (lv_room hrs) hd ⟨Nat.zero_le _, Nat.zero_le _⟩
    exact vk_recv c6.1 hi hS
  refine va_callh (A0 := A) (A1 := va_A [] H.size) hrun hS (fun q _ h => hFc q h) hFc (fun st oc t z => ⟨z.2, ?_⟩) (fun v st t locs1 hq hS1 => ?_)
  · obtain ⟨⟨v, -, h, -⟩, -⟩ := z
    exact h
  · obtain ⟨⟨v2, ev, -, h⟩, -⟩ := hq
    cases ev
    exact kk v locs1 h hS1

theorem jw_init_S : Jvm.Cond.initialized "java/lang/String" ∈ xGd := inG 128 (by decide +kernel) rfl
theorem jw_init_L : Jvm.Cond.initialized "java/lang/StringLatin1" ∈ xGd := inG 129 (by decide +kernel) rfl
theorem jw_init_P : Jvm.Cond.initialized "jdk/internal/util/Preconditions" ∈ xGd := inG 130 (by decide +kernel) rfl
theorem jm_length : jM yJ0_length_8abf5 cJ0_length_8abf5 1 (some .int) 0 := ⟨inG 610 (by decide +kernel) rfl, jw_init_S, by decide +kernel, by decide +kernel, by decide +kernel, by decide +kernel⟩
theorem jm_coder : jM yJ0_coder_7d493 cJ0_coder_7d493 1 (some .byte) 0 := ⟨inG 614 (by decide +kernel) rfl, jw_init_S, by decide +kernel, by decide +kernel, by decide +kernel, by decide +kernel⟩
theorem jm_charAt : jM yJ0_charAt_5068e cJ0_charAt_5068e 2 (some .char) 1 := ⟨inG 620 (by decide +kernel) rfl, jw_init_S, by decide +kernel, by decide +kernel, by decide +kernel, by decide +kernel⟩
theorem jm_isLatin1 : jM yJ0_isLatin1_aae02 cJ0_isLatin1_aae02 1 (some .boolean) 0 := ⟨inG 624 (by decide +kernel) rfl, jw_init_S, by decide +kernel, by decide +kernel, by decide +kernel, by decide +kernel⟩
theorem jm_LcharAt : jM yJ1_charAt_3b067 cJ1_charAt_3b067 2 (some .char) 2 := ⟨inG 627 (by decide +kernel) rfl, jw_init_L, by decide +kernel, by decide +kernel, by decide +kernel, by decide +kernel⟩
theorem jm_checkIndex : jM yJ0_checkIndex_df160 cJ0_checkIndex_df160 2 none 2 := ⟨inG 630 (by decide +kernel) rfl, jw_init_S, by decide +kernel, by decide +kernel, by decide +kernel, by decide +kernel⟩
theorem jm_PcheckIndex : jM yJ3_checkIndex_8e157 cJ3_checkIndex_8e157 3 (some .int) 3 := ⟨inG 635 (by decide +kernel) rfl, jw_init_P, by decide +kernel, by decide +kernel, by decide +kernel, by decide +kernel⟩
theorem jm_indexOf1 : jM yJ0_indexOf_0f7a4 cJ0_indexOf_0f7a4 2 (some .int) 1 := ⟨inG 666 (by decide +kernel) rfl, jw_init_S, by decide +kernel, by decide +kernel, by decide +kernel, by decide +kernel⟩
theorem jm_indexOf2 : jM yJ0_indexOf_7cf53 cJ0_indexOf_7cf53 3 (some .int) 2 := ⟨inG 670 (by decide +kernel) rfl, jw_init_S, by decide +kernel, by decide +kernel, by decide +kernel, by decide +kernel⟩
theorem jm_LindexOf : jM yJ1_indexOf_4cfef cJ1_indexOf_4cfef 4 (some .int) 4 := ⟨inG 674 (by decide +kernel) rfl, jw_init_L, by decide +kernel, by decide +kernel, by decide +kernel, by decide +kernel⟩
theorem jm_canEncode : jM yJ1_canEncode_9a6ad cJ1_canEncode_9a6ad 1 (some .boolean) 1 := ⟨inG 677 (by decide +kernel) rfl, jw_init_L, by decide +kernel, by decide +kernel, by decide +kernel, by decide +kernel⟩
theorem jm_indexOfChar : jM yJ1_indexOfChar_4cfef cJ1_indexOfChar_4cfef 6 (some .int) 4 := ⟨inG 686 (by decide +kernel) rfl, jw_init_L, by decide +kernel, by decide +kernel, by decide +kernel, by decide +kernel⟩
theorem jl_len_coder : Jvm.Cond.methodLink "java/lang/String" 335 yJ0_coder_7d493 ∈ xGd := inG 611 (by decide +kernel) rfl
theorem jl_c_isL : Jvm.Cond.methodLink "java/lang/String" 492 yJ0_isLatin1_aae02 ∈ xGd := inG 621 (by decide +kernel) rfl
theorem jl_c_LcharAt : Jvm.Cond.methodLink "java/lang/String" 495 yJ1_charAt_3b067 ∈ xGd := inG 625 (by decide +kernel) rfl
theorem jl_L_check : Jvm.Cond.methodLink "java/lang/StringLatin1" 9 yJ0_checkIndex_df160 ∈ xGd := inG 628 (by decide +kernel) rfl
theorem jl_s_Pcheck : Jvm.Cond.methodLink "java/lang/String" 1059 yJ3_checkIndex_8e157 ∈ xGd := inG 633 (by decide +kernel) rfl
theorem jl_i_i2 : Jvm.Cond.methodLink "java/lang/String" 633 yJ0_indexOf_7cf53 ∈ xGd := inG 667 (by decide +kernel) rfl
theorem jl_i_len : Jvm.Cond.methodLink "java/lang/String" 505 yJ0_length_8abf5 ∈ xGd := inG 671 (by decide +kernel) rfl
theorem jl_i_L : Jvm.Cond.methodLink "java/lang/String" 637 yJ1_indexOf_4cfef ∈ xGd := inG 672 (by decide +kernel) rfl
theorem jl_L_can : Jvm.Cond.methodLink "java/lang/StringLatin1" 88 yJ1_canEncode_9a6ad ∈ xGd := inG 675 (by decide +kernel) rfl
theorem jl_L_ioc : Jvm.Cond.methodLink "java/lang/StringLatin1" 95 yJ1_indexOfChar_4cfef ∈ xGd := inG 684 (by decide +kernel) rfl
theorem jl_max : Jvm.Cond.methodLink "java/lang/StringLatin1" 92 Lib.Math.max.name ∈ xGd := inG 678 (by decide +kernel) rfl
theorem jl_min : Jvm.Cond.methodLink "java/lang/StringLatin1" 38 Lib.Math.min.name ∈ xGd := inG 681 (by decide +kernel) rfl
theorem jt_len : Jvm.Cond.methodLink "NightLights$Tape" 68 yJ0_length_8abf5 ∈ xGd := inG 607 (by decide +kernel) rfl
theorem jt_charAt : Jvm.Cond.methodLink "NightLights$Tape" 71 yJ0_charAt_5068e ∈ xGd := inG 617 (by decide +kernel) rfl
theorem jt_ix : Jvm.Cond.methodLink "NightLights$Tape" 56 yJ0_indexOf_0f7a4 ∈ xGd := inG 663 (by decide +kernel) rfl
theorem js_LcharAt : Jvm.Cond.static yJ1_charAt_3b067 ∈ xGd := inG 626 (by decide +kernel) rfl
theorem js_checkIndex : Jvm.Cond.static yJ0_checkIndex_df160 ∈ xGd := inG 629 (by decide +kernel) rfl
theorem js_PcheckIndex : Jvm.Cond.static yJ3_checkIndex_8e157 ∈ xGd := inG 634 (by decide +kernel) rfl
theorem js_LindexOf : Jvm.Cond.static yJ1_indexOf_4cfef ∈ xGd := inG 673 (by decide +kernel) rfl
theorem js_canEncode : Jvm.Cond.static yJ1_canEncode_9a6ad ∈ xGd := inG 676 (by decide +kernel) rfl
theorem js_indexOfChar : Jvm.Cond.static yJ1_indexOfChar_4cfef ∈ xGd := inG 685 (by decide +kernel) rfl
theorem ji_length : Jvm.Cond.instanceMethod yJ0_length_8abf5 ∈ xGd := inG 608 (by decide +kernel) rfl
theorem je_length : Jvm.Cond.selects "java/lang/String" yJ0_length_8abf5 yJ0_length_8abf5 ∈ xGd := inG 609 (by decide +kernel) rfl
theorem ji_coder : Jvm.Cond.instanceMethod yJ0_coder_7d493 ∈ xGd := inG 612 (by decide +kernel) rfl
theorem je_coder : Jvm.Cond.selects "java/lang/String" yJ0_coder_7d493 yJ0_coder_7d493 ∈ xGd := inG 613 (by decide +kernel) rfl
theorem ji_charAt : Jvm.Cond.instanceMethod yJ0_charAt_5068e ∈ xGd := inG 618 (by decide +kernel) rfl
theorem je_charAt : Jvm.Cond.selects "java/lang/String" yJ0_charAt_5068e yJ0_charAt_5068e ∈ xGd := inG 619 (by decide +kernel) rfl
theorem ji_isLatin1 : Jvm.Cond.instanceMethod yJ0_isLatin1_aae02 ∈ xGd := inG 622 (by decide +kernel) rfl
theorem je_isLatin1 : Jvm.Cond.selects "java/lang/String" yJ0_isLatin1_aae02 yJ0_isLatin1_aae02 ∈ xGd := inG 623 (by decide +kernel) rfl
theorem ji_indexOf1 : Jvm.Cond.instanceMethod yJ0_indexOf_0f7a4 ∈ xGd := inG 664 (by decide +kernel) rfl
theorem je_indexOf1 : Jvm.Cond.selects "java/lang/String" yJ0_indexOf_0f7a4 yJ0_indexOf_0f7a4 ∈ xGd := inG 665 (by decide +kernel) rfl
theorem ji_indexOf2 : Jvm.Cond.instanceMethod yJ0_indexOf_7cf53 ∈ xGd := inG 668 (by decide +kernel) rfl
theorem je_indexOf2 : Jvm.Cond.selects "java/lang/String" yJ0_indexOf_7cf53 yJ0_indexOf_7cf53 ∈ xGd := inG 669 (by decide +kernel) rfl
theorem jf_value : Jvm.Cond.fieldLink "java/lang/String" 9 "java/lang/String" "value" "[B" ∈ xGd := inG 2000 (by decide +kernel) rfl
theorem jf_coder : Jvm.Cond.fieldLink "java/lang/String" 15 "java/lang/String" "coder" "B" ∈ xGd := inG 2001 (by decide +kernel) rfl
theorem jf_compact : Jvm.Cond.fieldLink "java/lang/String" 38 "java/lang/String" "COMPACT_STRINGS" "Z" ∈ xGd := inG 615 (by decide +kernel) rfl
theorem jf_siobe : Jvm.Cond.fieldLink "java/lang/String" 1053 "jdk/internal/util/Preconditions" "SIOOBE_FORMATTER" "Ljava/util/function/BiFunction;" ∈ xGd := inG 631 (by decide +kernel) rfl
