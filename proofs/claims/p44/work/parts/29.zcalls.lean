theorem zcats_eq (ρ : Nat → Nat) (η : zE) : ∀ vs : List zV, ((vs.map (zv ρ η)).map fun v => v.category).sum = zcats vs := by
  intro vs
  induction vs with
  | nil => rfl
  | cons v t ih =>
    rw [List.map_cons, List.map_cons, List.sum_cons, ih, zv_cat]
    rfl
theorem zcat12 (v : zV) : zcat v = 1 ∨ zcat v = 2 := by
  unfold zcat
  cases zlg v
  · exact Or.inl rfl
  · exact Or.inr rfl
theorem zsl_len (ρ : Nat → Nat) (η : zE) : ∀ vs : List zV, (lg_sl (vs.map (zv ρ η))).length = zcats vs := by
  intro vs
  induction vs with
  | nil => rfl
  | cons v t ih =>
    show (lg_sl (zv ρ η v :: t.map (zv ρ η))).length = zcat v + zcats t
    unfold lg_sl at ih ⊢
    rw [List.flatMap_cons, List.length_append, ih, zv_cat]
    rcases zcat12 v with h | h <;> rw [h] <;> rfl
theorem zargs_eq (ρ : Nat → Nat) (η : zE) : ∀ (vs : List zV) (k : Nat), lv_args k (vs.map (zv ρ η)) = zdL ρ η (zargs k vs) := by
  intro vs
  induction vs with
  | nil => intro k; rfl
  | cons v t ih =>
    intro k
    show (k, zv ρ η v) :: lv_args (if (zv ρ η v).category = 2 then k + 2 else k + 1) (t.map (zv ρ η)) = (k, zv ρ η v) :: zdL ρ η (zargs (k + zcat v) t)
    rw [zv_cat, ← ih (k + zcat v)]
    rcases zcat12 v with h | h <;> rw [h] <;> rfl
def zPs (T : zTb) (D : va_G) (γ : Nat → ClassId) (es : va_W) (vs : List Value) (sz : Nat) : Array Value → State → Prop := va_Pc vs (fun U => U.heap.size = sz ∧ va_P D vwCl es U.heap ∧ va_K D vwCl [] U ∧ va_D (fun _ => True) es ∧ hTz T U γ ∧ zStr (va_A es sz) U)
def zQi (T : zTb) (U : zRn) (D : va_G) (ρ : Nat → Nat) (γ : Nat → ClassId) (es0 : va_W) (η : zE) (nf : Nat) (es : va_W) (sz : Nat) (K : zK) : Array Value → State → Outcome → State → Prop := fun _ st oc t => (∃ (fa2 : zFa) (nf2 : Nat) (v2 : Option zV) (ca2 : zCa) (η2 : zE) (es2 : va_W), oc = .returned (v2.map (zv ρ η2)) ∧ K fa2 nf2 v2 ca2 = true ∧ zsat η2 fa2 ∧ nf ≤ nf2 ∧ zag nf η η2 ∧ va_P D vwCl es2 t.heap ∧ va_K D vwCl [] t ∧ va_D (va_A es sz) es2 ∧ zCo T ρ γ η2 ca2 es2 ∧ zfrm U.2.2.2 es0 es2) ∧ va_F (va_A es sz) st t
def okP (ρ : Nat → Nat) (p : zP) (v : Value) : Prop := match p with
  | .inl q => ∃ x : Int32, v = .int x ∧ q.1 ≤ x.toInt ∧ x.toInt ≤ q.2
  | .inr (.inl c) => v = zv ρ (fun _ => 0) (.inr (.inl c))
  | .inr (.inr _) => ∃ x : Int64, v = .long x
def zaO (ρ : Nat → Nat) : List zP → List Value → Prop
  | [], [] => True
  | p :: ps, v :: vs => okP ρ p v ∧ zaO ρ ps vs
  | _, _ => False
def zrO (p : Option zP) (v : Option Value) : Prop := match p with
  | none => v = none
  | some (.inl q) => ∃ x : Int32, v = some (.int x) ∧ q.1 ≤ x.toInt ∧ x.toInt ≤ q.2
  | some (.inr (.inr _)) => ∃ x : Int64, v = some (.long x)
  | some (.inr (.inl _)) => False
/-- names at the start of a summary; what holds behind it -/
def zEn (nm : zNm) (es : va_W) (g : zE) : Prop := ∀ q ∈ nm, match q.2.2 with
  | .inl f => ∃ x : Int32, zfv es q.2.1 f = some (.int x) ∧ g q.1 = x.toInt
  | .inr s2 => 0 ≤ g s2 ∧ ∃ x : Int32, zav es q.2.1 (g s2).toNat = some (.int x) ∧ g q.1 = x.toInt
def zEr (rg : zRg) (g : zE) : Prop := ∀ q ∈ rg, q.2.1 ≤ g q.1 ∧ g q.1 ≤ q.2.2
def zPo (al : zAl) (es : va_W) (g : zE) : Prop := (∀ q ∈ al.1, ∃ x : Int32, zfv es q.2.1 q.2.2 = some (.int x) ∧ g q.1 = x.toInt) ∧ zEr al.2.1 g ∧ ∀ q ∈ al.2.2, zrs g q
def zag4 (g g2 : zE) : Prop := ∀ k, 40 ≤ k → k < 60 → g2 k = g k
def zQs (T : zTb) (D : va_G) (ρ : Nat → Nat) (γ : Nat → ClassId) (ret : Option zP) (wr : List Nat) (als : List zAl) (g : zE) (es : va_W) (sz : Nat) : Array Value → State → Outcome → State → Prop := fun _ st oc t => (∃ (v2 : Option Value) (es2 : va_W), oc = .returned v2 ∧ zrO ret v2 ∧ va_P D vwCl es2 t.heap ∧ va_K D vwCl [] t ∧ va_D (va_A es sz) es2 ∧ zCo T ρ γ (fun _ => 0) [] es2 ∧ zfrm wr es es2 ∧ ∃ al ∈ als, ∃ g2 : zE, zag4 g g2 ∧ zPo al es2 g2) ∧ va_F (va_A es sz) st t
def zrmS (q : Nat × Nat) : Room := { frames := q.1, cells := 0, slots := 0, locals := q.2 }
/-- a summary holds where the cells are es -/
def zSOe (T : zTb) (D : va_G) (l : Launch) (sm : zSm) (es : va_W) : Prop := ∀ (r : xR), (gt xmt sm.1).bind xrow = some r → ∀ (ρ : Nat → Nat) (γ : Nat → ClassId) (vs : List Value) (sz : Nat) (g : zE), (∀ k, zbd (g k)) → zCo T ρ γ (fun _ => 0) [] es → zaO ρ sm.2.2.1 vs → (∀ q ∈ sm.2.2.2.2.2.1, zfv es q.1 q.2.1 = some (.ref (ρ q.2.2))) → zEn sm.2.2.2.2.2.2.1.1 es g → zEr sm.2.2.2.2.2.2.1.2 g → Met l r.1 (Jvm.Cond.code r.1 r.2.1 r.2.2.1 r.2.2.2.1 :: xGd) (zrmS sm.2.1) (zPs T D γ es vs sz) (zQs T D ρ γ sm.2.2.2.1 sm.2.2.2.2.1 sm.2.2.2.2.2.2.2 g es sz) 0 0 (va_A es sz)
theorem zpB_ok {ρ : Nat → Nat} {η : zE} {ca : zCa} {es : va_W} {pre : List (Nat × Nat × Nat)} (hh : zcH ρ η ca es) (h : zpB ca pre = true) : ∀ q ∈ pre, zfv es q.1 q.2.1 = some (.ref (ρ q.2.2)) := by
  intro q hq
  have h1 := zAll_ok h q hq
  split at h1
  · rename_i c e
    rw [← Nat.eq_of_beq_eq_true h1]
    exact (hh _ (zcF_some e)).1
  · cases h1
theorem zaB_ok {ρ : Nat → Nat} {η : zE} {fa : zFa} (hs : zsat η fa) : ∀ (ps : List zP) (vs : List zV), zaB fa ps vs = true → zaO ρ ps (vs.map (zv ρ η)) := by
  intro ps
  induction ps with
  | nil =>
    intro vs h
    cases vs with
    | nil => trivial
    | cons v t => unfold zaB at h; cases h
  | cons p ps ih =>
    intro vs h
    cases vs with
    | nil => rcases p with ⟨a, b⟩ | (_ | i) | u <;> (unfold zaB at h; cases h)
    | cons v vs =>
      rcases p with ⟨a, b⟩ | (_ | i) | u <;> rcases v with x | (_ | j) | y <;> first | (unfold zaB at h; cases h; done) | skip
      · unfold zaB at h
        rw [Bool.and_eq_true, zrk_eq, Bool.and_eq_true, Bool.and_eq_true, Bool.and_eq_true, decide_eq_true_eq, decide_eq_true_eq] at h
        obtain ⟨⟨h1, h2, h3, h4⟩, h5⟩ := h
        simp only [xin, Bool.and_eq_true, decide_eq_true_eq] at h3 h4
        have hr := zrg_ok hs x
        have e : (zi η x).toInt = zd η x := i32_big (by omega) (by omega)
        exact ⟨⟨zi η x, rfl, by rw [e]; dsimp only; omega, by rw [e]; dsimp only; omega⟩, ih vs h5⟩
      · exact ⟨rfl, ih vs h⟩
      · unfold zaB at h
        rw [Bool.and_eq_true] at h
        refine ⟨?_, ih vs h.2⟩
        rw [Nat.eq_of_beq_eq_true h.1]
        rfl
      · exact ⟨⟨_, rfl⟩, ih vs h⟩
set_option maxHeartbeats 1000000 in
theorem zmet {T : zTb} {U : zRn} {D : va_G} {l : Launch} {ρ : Nat → Nat} {γ : Nat → ClassId} {es0 : va_W} {ih : zS} (IH : zGd T U D l ρ γ es0 ih) {i : Nat} {r : xR} (hr : (gt xmt i).bind xrow = some r) {vs : List zV} {es : va_W} {ca : zCa} {η : zE} {fa : zFa} {nf : Nat} {K : zK} {sz : Nat} (hs : zsat η fa) (hc : zCo T ρ γ η ca es) (hf : zfrm U.2.2.2 es0 es) (hcat : zcats vs ≤ r.2.2.1) (h0 : (xrm r).cells = 0 ∧ (xrm r).slots = 0) (h : ih (r, []) 0 (zargs 0 vs) [] ca fa nf K = true) : Met l r.1 (Jvm.Cond.code r.1 r.2.1 r.2.2.1 r.2.2.2.1 :: xGd) (xrm r) (zPs T D γ es (vs.map (zv ρ η)) sz) (zQi T U D ρ γ es0 η nf es sz K) 0 0 (va_A es sz) := by
  obtain ⟨g1, g2, g3, g4, g5, g6, g7⟩ := xrow_ok hr
  refine Met.ofW (cc := r.2.1) (maxL := r.2.2.1) (ret := r.2.2.2.1) g5 rfl ?_
  intro p e s m args below meth c s₁ B hml hv
  obtain ⟨rfl, hsz, hP, hK, hD0, hT, hSt⟩ := hv
  subst hsz
  have hts := atoms_spec (ws := Jvm.Cond.code r.1 r.2.1 r.2.2.1 r.2.2.2.1 :: xGd) B.pre
  have hown : s.vm.findClass r.1.cls = some m.cls := findClass_of_methodNamed B.named
  have hl := lv_entry (vs.map (zv ρ η)) (n := r.2.2.1) (by rw [zsl_len]; exact hcat)
  rw [lg_entry_eq]
  generalize (lg_sl (vs.map (zv ρ η)) ++ List.replicate (r.2.2.1 - (lg_sl (vs.map (zv ρ η))).length) Slot.unset).toArray = ls at hl ⊢
  rw [zargs_eq] at hl
  have C : zCx T U D l ρ γ es0 (r, []) p e s m (vs.map (zv ρ η)).toArray below meth c (va_A es s.heap.size) (MQ below (zQi T U D ρ γ es0 η nf es s.heap.size K) (vs.map (zv ρ η)).toArray s 0 0 (va_A es s.heap.size)) K 0 0 η nf := by
    refine ⟨B.exec, B.bytes, hml, by rw [← g3]; exact hown, fun x hx => hts x (List.mem_cons_of_mem _ hx), hK, ⟨fun q h => Or.inr h, Nat.zero_le _, Nat.zero_le _⟩, g7, hT, ⟨fun h12 => absurd h12 (own12 hr), hSt⟩, fun pc lo sk ca fa nf η H locs ls es h9 => (by cases h9), ?_⟩
    intro pc v2 lo2 ca2 fa2 nf2 η2 H locs ls2 es2 V2 hk hx
    have hq : ∀ t : State, t.heap = H → s.WarmedH t.vm → zQi T U D ρ γ es0 η nf es s.heap.size K (vs.map (zv ρ η)).toArray s (.returned (v2.map (zv ρ η2))) t := fun t ht hW => ⟨⟨fa2, nf2, v2, ca2, η2, es2, rfl, hk, V2.2.2.2.2.1, V2.2.2.2.2.2.1, V2.2.2.2.2.2.2.1, by rw [ht]; exact V2.1, va_K.moved hW.alike hK, V2.2.1, V2.2.2.2.2.2.2.2.1, V2.2.2.2.2.2.2.2.2⟩, V2.2.2.1.F ht⟩
    rcases v2 with _ | (a | (b | z))
    · exact W.vret B.exec B.bytes (B.returns.trans hx.2) hq V2.2.2.1.2.2 hx.1
    · obtain ⟨hd, ty, ht, hn⟩ := hx
      exact W.zret B.exec B.bytes (B.returns.trans ht) hn hq V2.2.2.1.2.2 hd
    · exact hx.elim
    · exact W.lret B.exec B.bytes (B.returns.trans hx.2) hq V2.2.2.1.2.2 hx.1
  exact IH (r, []) p e s m _ below meth c _ _ K 0 0 η nf C 0 (zargs 0 vs) [] ca fa nf h η s.heap [] ls es ⟨hP, hD0.self, va_S.rf, hl, hs, Nat.le_refl _, fun _ _ => rfl, hc, hf⟩
set_option maxHeartbeats 1000000 in
theorem ok_zcall {T : zTb} {U : zRn} {D : va_G} {l : Launch} {ρ : Nat → Nat} {γ : Nat → ClassId} {es0 : va_W} {ih : zS} {r : zR} {p : Program} {e : Env} {s : State} {m : MethodId} {args : Array Value} {below : List Frame} {meth : Method} {c : Code} {A : Nat → Prop} {Q : State → Prop} {K : zK} {cs ss : Nat} {η0 : zE} {nf0 : Nat} {pc : Nat} {lo : zL} {ca : zCa} {fa : zFa} {nf : Nat} {n : Nat} {η : zE} {H : Heap} {locs : List Loc} {ls : Array Slot} {es : va_W} (IH : zGd T U D l ρ γ es0 ih) (C : zCx T U D l ρ γ es0 r p e s m args below meth c A Q K cs ss η0 nf0) (V : zIv T U D ρ γ es0 s A r η0 nf0 η H locs ls lo ca fa nf es) {i : Nat} {r2 : xR} {vs rest : List zV} {st0 : List Value} (hr : (gt xmt i).bind xrow = some r2) (hrun : ∀ {rm : Room} {Pc : Array Value → State → Prop} {Qc : Array Value → State → Outcome → State → Prop} {free : Addr → Prop}, n = 3 → zcats rest ≤ 8 → rm.frames + 1 ≤ (xrm r.1).frames ∧ 8 + (r2.2.2.1 + 11) + rm.locals ≤ (xrm r.1).locals → rm.cells = 0 ∧ rm.slots = 0 → Met l r2.1 (Jvm.Cond.code r2.1 r2.2.1 r2.2.2.1 r2.2.2.2.1 :: xGd) rm Pc Qc 0 0 free → PreS s H Pc (vs.map (zv ρ η)) → va_Run p l e (xrm r.1) s m args below meth c H locs cs ss 0 0 (F0 m pc ls st0) (rest.map (zv ρ η)) (Qc (vs.map (zv ρ η)).toArray) free) (h : zcall ih r pc lo ca fa nf K n r2 vs rest = true) : W p l e (xrm r.1) s m args below meth c H locs cs ss Q (F0 m (pc) ls (st0)) := by
  unfold zcall at h
  rw [Bool.and_eq_true, Bool.and_eq_true, Bool.and_eq_true, Bool.and_eq_true, Bool.and_eq_true, Bool.and_eq_true, Bool.and_eq_true, Bool.and_eq_true, Bool.and_eq_true] at h
  obtain ⟨h1, h2, h3, h4, h5, h6, h7, h8, h9, h10⟩ := h
  have hM := zmet (sz := H.size) IH hr V.2.2.2.2.1 V.2.2.2.2.2.2.2.1 V.2.2.2.2.2.2.2.2 (Nat.le_of_ble_eq_true h3) ⟨Nat.eq_of_beq_eq_true h6, Nat.eq_of_beq_eq_true h7⟩ h10
  have hFc : ∀ q, va_A es H.size q → A q := by
    intro q hq
    rcases hq with ⟨k, e9, hk⟩ | hq
    · exact V.2.1.2 k (q, e9) hk
    · exact C.2.2.2.2.2.2.1.1 q (Nat.le_trans V.2.2.1.1 hq)
  have hp : PreS s H (zPs T D γ es (vs.map (zv ρ η)) H.size) (vs.map (zv ρ η)) := ⟨fun a U g mk q => ⟨q.1, q.2.1, q.2.2.1, va_K.moved (u := U) (U := U.calling g mk a) (Vm.Alike.refl U.vm) q.2.2.2.1, q.2.2.2.2.1, hTz.moved (s := U) (t := U.calling g mk a) (Vm.Alike.refl U.vm) q.2.2.2.2.2.1, zStr.call (U := U) (V := U.calling g mk a) rfl rfl q.2.2.2.2.2.2⟩, fun U hU hW => ⟨rfl, by rw [hU], by rw [hU]; exact V.1, va_K.moved hW.alike C.2.2.2.2.2.1, V.2.1.weaken (fun _ _ _ _ => trivial), hTz.moved hW.alike C.2.2.2.2.2.2.2.2.1, zStr.at hW hU V.2.2.1 hFc C.2.2.2.2.2.2.2.2.2.1.2⟩⟩
  refine va_callg (A0 := A) (A1 := va_A es H.size) (hrun (Nat.eq_of_beq_eq_true h1) (Nat.le_of_ble_eq_true h2) ⟨Nat.le_of_ble_eq_true h4, Nat.le_of_ble_eq_true h5⟩ ⟨Nat.eq_of_beq_eq_true h6, Nat.eq_of_beq_eq_true h7⟩ hM hp) V.2.2.1 (fun q _ h => hFc q h) hFc (fun _ _ _ z => z.2) (fun v st t H1 locs1 ht hvm hq hS1 => ?_)
  obtain ⟨⟨fa2, nf2, v2, ca2, η2, es2, ev, hk, hs2, hn2, hag, hP2, hK2, hD2, hC2, hW2⟩, -⟩ := hq
  cases ev
  rw [ht] at hP2
  simp only [fN_eq] at hk
  have V2 : zIv T U D ρ γ es0 s A r η0 nf0 η2 H1 locs1 ls lo ca2 fa2 nf2 es2 := ⟨hP2, hD2.weaken (fun _ _ _ z => hFc _ z), hS1, by rw [zbL_ag hag ρ h9]; exact V.2.2.2.1, hs2, Nat.le_trans V.2.2.2.2.2.1 hn2, fun k hk => by rw [hag k (Nat.lt_of_lt_of_le hk V.2.2.2.2.2.1)]; exact V.2.2.2.2.2.2.1 k hk, hC2, hW2⟩
  cases v2 with
  | none =>
    have k := IH _ _ _ _ _ _ _ _ _ _ _ _ _ _ _ _ C _ _ _ _ _ _ hk η2 H1 locs1 ls es2 V2
    rw [zbS_ag hag ρ h8] at k
    exact k
  | some v =>
    have k := IH _ _ _ _ _ _ _ _ _ _ _ _ _ _ _ _ C _ _ _ _ _ _ hk η2 H1 locs1 ls es2 V2
    rw [List.map_cons, zbS_ag hag ρ h8] at k
    exact k
theorem zbC_fil {nf : Nat} (p : (Nat × zKy) × zV → Bool) : ∀ {ca : zCa}, zbC nf ca = true → zbC nf (ca.filter p) = true := by
  intro ca
  induction ca with
  | nil => intro _; rfl
  | cons q t ih =>
    obtain ⟨⟨i, k | ix⟩, v⟩ := q
    · intro h
      unfold zbC at h
      rw [Bool.and_eq_true] at h
      rw [List.filter_cons]
      split
      · unfold zbC
        rw [h.1, ih h.2]
        rfl
      · exact ih h.2
    · intro h
      unfold zbC at h
      rw [Bool.and_eq_true, Bool.and_eq_true] at h
      rw [List.filter_cons]
      split
      · unfold zbC
        rw [h.1, h.2.1, ih h.2.2]
        rfl
      · exact ih h.2.2
theorem znew_fil {lo : zL} {ca : zCa} {fa : zFa} {nf : Nat} {rest : List zV} {p : (Nat × zKy) × zV → Bool} (h : znew lo ca fa nf rest = true) : znew lo (ca.filter p) fa nf rest = true := by
  unfold znew at h ⊢
  rw [Bool.and_eq_true, Bool.and_eq_true, Bool.and_eq_true] at h ⊢
  exact ⟨h.1, h.2.1, zbC_fil p h.2.2.1, h.2.2.2⟩
theorem zbI_le {n m : Nat} (hn : n ≤ m) {v : zI} (h : zbI n v = true) : zbI m v = true := by
  rcases v with z | ⟨k, m2, c⟩
  · rfl
  · have := blt_ok h
    exact Nat.ble_eq_true_of_le (show k + 1 ≤ m by omega)
theorem zbV_le {n m : Nat} (hn : n ≤ m) {v : zV} (h : zbV n v = true) : zbV m v = true := by
  rcases v with i | (c | i)
  · exact zbI_le hn (v := i) h
  · rfl
  · exact zbI_le hn (v := i) h
theorem zbS_le {n m : Nat} (hn : n ≤ m) : ∀ {l : List zV}, zbS n l = true → zbS m l = true := by
  intro l
  induction l with
  | nil => intro _; rfl
  | cons v t ih =>
    intro h
    unfold zbS at h ⊢
    rw [Bool.and_eq_true] at h ⊢
    exact ⟨zbV_le hn h.1, ih h.2⟩
set_option maxHeartbeats 1000000 in
theorem zIv.fld {T : zTb} {U : zRn} {D : va_G} {ρ : Nat → Nat} {γ : Nat → ClassId} {es0 : va_W} {s : State} {A : Nat → Prop} {r : zR} {η0 : zE} {nf0 : Nat} {H : Heap} {locs : List Loc} {ls : Array Slot} {lo : zL} {es : va_W} {η : zE} {ca : zCa} {fa : zFa} {nf : Nat} {rest : List zV} (V : zIv T U D ρ γ es0 s A r η0 nf0 η H locs ls lo ca fa nf es) {i k : Nat} {a b : Int} {x : Int32} (hn : znew lo ca fa nf rest = true) (hv : zfv es i k = some (.int x)) (h1 : a ≤ x.toInt) (h2 : x.toInt ≤ b) : zIv T U D ρ γ es0 s A r η0 nf0 (zup η nf x.toInt) H locs ls lo (((i, .inl k), .inl (zsym nf)) :: ca) ((nf, (a, b, [])) :: fa.1, fa.2) (nf + 1) es ∧ rest.map (zv ρ (zup η nf x.toInt)) = rest.map (zv ρ η) := by
  obtain ⟨V2, e2⟩ := zIv.up V (g := (a, b, [])) (rl := []) (mm := []) (zbd32 x) hn ⟨h1, h2, fun _ z => by cases z⟩ (fun _ z => by cases z) (fun _ z => by cases z)
  exact ⟨zIv.ca V2 (zCo.add V2.2.2.2.2.2.2.2.1 ⟨(by
    show zfv es i k = _
    rw [zv_sym, hv]), fun ix z => (by cases z)⟩), e2⟩
theorem zrgF_val {T : zTb} {ρ : Nat → Nat} {γ : Nat → ClassId} {η : zE} {ca : zCa} {es : va_W} (C : zCo T ρ γ η ca es) {i k : Nat} {a b : Int} (h : zrgF T.2.1 i k = some (a, b)) (hn : zcF i k ca = none) : ∃ x : Int32, zfv es i k = some (.int x) ∧ a ≤ x.toInt ∧ x.toInt ≤ b := by
  obtain ⟨ci, fs, g1, g2⟩ := zrgF_ok h
  obtain ⟨vs, w, g3, g4, x, g5, g6, g7⟩ := zCo.fld C g1 g2 hn
  subst g5
  exact ⟨x, by rw [zfv_get g3]; exact g4, g6, g7⟩
theorem zag.trans {n m : Nat} {η η1 η2 : zE} (hn : n ≤ m) (h1 : zag n η η1) (h2 : zag m η1 η2) : zag n η η2 := fun k hk => by
  rw [h2 k (by omega), h1 k hk]
set_option maxHeartbeats 1000000 in
theorem ok_zpl {T : zTb} {U : zRn} {D : va_G} {ρ : Nat → Nat} {γ : Nat → ClassId} {es0 : va_W} {s : State} {A : Nat → Prop} {r : zR} {η0 : zE} {nf0 : Nat} {H : Heap} {locs : List Loc} {ls : Array Slot} {lo : zL} {es : va_W} {rest : List zV} {k : zCa → zFa → Nat → Bool} : ∀ (nm : zNm) (ca : zCa) (fa : zFa) (nf : Nat) (η : zE), zIv T U D ρ γ es0 s A r η0 nf0 η H locs ls lo ca fa nf es → zpl T lo rest nm ca fa nf k = true → ∃ (ca2 : zCa) (fa2 : zFa) (nf2 : Nat) (η2 : zE), k ca2 fa2 nf2 = true ∧ zIv T U D ρ γ es0 s A r η0 nf0 η2 H locs ls lo ca2 fa2 nf2 es ∧ nf ≤ nf2 ∧ zag nf η η2 := by
  intro nm
  induction nm with
  | nil => intro ca fa nf η V h; exact ⟨ca, fa, nf, η, h, V, Nat.le_refl _, fun _ _ => rfl⟩
  | cons q t ih =>
    intro ca fa nf η V h
    obtain ⟨s9, i, f | s2⟩ := q
    · unfold zpl at h
      cases e1 : zcF i f ca with
      | some v => rw [e1] at h; exact ih ca fa nf η V h
      | none =>
        rw [e1] at h
        dsimp only at h
        cases e2 : zrgF T.2.1 i f with
        | none => rw [e2] at h; cases h
        | some q2 =>
          obtain ⟨a, b⟩ := q2
          rw [e2] at h
          dsimp only at h
          rw [Bool.and_eq_true, fN_eq] at h
          obtain ⟨x, hx, x1, x2⟩ := zrgF_val V.2.2.2.2.2.2.2.1 e2 e1
          obtain ⟨V2, -⟩ := zIv.fld V h.1 hx x1 x2
          obtain ⟨ca2, fa2, nf2, η2, h3, h4, h5, h6⟩ := ih _ _ _ _ V2 h.2
          exact ⟨ca2, fa2, nf2, η2, h3, h4, by omega, zag.trans (Nat.le_succ _) (zup_ag η nf _) h6⟩
    · exact ih ca fa nf η V h
/-- names: the values that stand for them -/
def zac (η : zE) (g : zE) (acc : List (Nat × zI)) : Prop := ∀ q ∈ acc, zd η q.2 = g q.1
def zg0 (η : zE) (acc : List (Nat × zI)) : zE := fun s => match xfi acc s with
  | some v => zd η v
  | none => 0
theorem xfi_cons_ne {α : Type} {l : List (Nat × α)} {s s2 : Nat} {v : α} (h : xfi l s2 ≠ none) (hs : xfi l s = none) : xfi ((s, v) :: l) s2 = xfi l s2 := by
  show (match Nat.beq s s2 with | true => some v | false => xfi l s2) = _
  cases e : Nat.beq s s2 with
  | false => rfl
  | true => exact absurd (Nat.eq_of_beq_eq_true e ▸ hs) h
theorem xfi_cons_eq {α : Type} {l : List (Nat × α)} {s : Nat} {v : α} : xfi ((s, v) :: l) s = some v := by
  show (match Nat.beq s s with | true => some v | false => xfi l s) = _
  rw [Nat.beq_refl]
set_option maxHeartbeats 1000000 in
theorem zas_ok {ρ : Nat → Nat} {η : zE} {fa : zFa} {ca : zCa} {es : va_W} (hs : zsat η fa) (hh : zcH ρ η ca es) {k : List (Nat × zI) → Bool} : ∀ (nm : zNm) (acc : List (Nat × zI)), (∀ q ∈ acc, ((40 ≤ q.1 ∧ q.1 < 60) ∧ zbd (zd η q.2)) ∧ xfi acc q.1 = some q.2) → zas fa ca nm acc k = true → ∃ acc2, k acc2 = true ∧ (∀ q ∈ acc2, ((40 ≤ q.1 ∧ q.1 < 60) ∧ zbd (zd η q.2)) ∧ xfi acc2 q.1 = some q.2) ∧ (∀ s v, xfi acc s = some v → xfi acc2 s = some v) ∧ zEn nm es (zg0 η acc2) := by
  intro nm
  induction nm with
  | nil => intro acc ha h; exact ⟨acc, h, ha, fun _ _ z => z, fun q hq => by cases hq⟩
  | cons q t ih =>
    intro acc ha h
    have step : ∀ (s : Nat) (v : zI), xfi acc s = none → ((Nat.ble 40 s && Nat.blt s 60) && (z32 fa v && zas fa ca t ((s, v) :: acc) k)) = true → ∃ acc2, k acc2 = true ∧ (∀ q ∈ acc2, ((40 ≤ q.1 ∧ q.1 < 60) ∧ zbd (zd η q.2)) ∧ xfi acc2 q.1 = some q.2) ∧ (∀ s v, xfi acc s = some v → xfi acc2 s = some v) ∧ zEn t es (zg0 η acc2) ∧ zg0 η acc2 s = (zi η v).toInt := by
      intro s v hn h9
      rw [Bool.and_eq_true, Bool.and_eq_true, Bool.and_eq_true] at h9
      obtain ⟨⟨h1, h2⟩, h3, h4⟩ := h9
      obtain ⟨acc2, k1, k2, k3, k4⟩ := ih ((s, v) :: acc) (fun q hq => by
        rcases List.mem_cons.mp hq with e | e
        · rw [e]; exact ⟨⟨⟨Nat.le_of_ble_eq_true h1, blt_ok h2⟩, by rw [← z32_ok hs h3]; exact zbd32 _⟩, xfi_cons_eq⟩
        · exact ⟨(ha q e).1, by rw [xfi_cons_ne (by rw [(ha q e).2]; exact Option.some_ne_none _) hn]; exact (ha q e).2⟩) h4
      refine ⟨acc2, k1, k2, fun s2 v2 h5 => k3 s2 v2 ?_, k4, ?_⟩
      · rw [xfi_cons_ne (by rw [h5]; exact Option.some_ne_none _) hn]; exact h5
      · unfold zg0
        rw [k3 s v xfi_cons_eq]
        exact (z32_ok hs h3).symm
    obtain ⟨s, i, f | s2⟩ := q
    · unfold zas at h
      cases e1 : xfi acc s with
      | some w => rw [e1] at h; cases h
      | none =>
        cases e2 : zcF i f ca with
        | none => rw [e1, e2] at h; cases h
        | some v =>
          rcases v with v | v
          · rw [e1, e2] at h
            obtain ⟨acc2, k1, k2, k3, k4, k5⟩ := step s v e1 h
            refine ⟨acc2, k1, k2, k3, fun q hq => ?_⟩
            rcases List.mem_cons.mp hq with e | e
            · rw [e]
              exact ⟨zi η v, (hh _ (zcF_some e2)).1, k5⟩
            · exact k4 q e
          · rw [e1, e2] at h; cases h
    · unfold zas at h
      cases e1 : xfi acc s with
      | some w => rw [e1] at h; cases h
      | none =>
        cases e2 : xfi acc s2 with
        | none => rw [e1, e2] at h; cases h
        | some ix =>
          rw [e1, e2] at h
          dsimp only at h
          cases e3 : zcA i ix ca with
          | none => rw [e3] at h; cases h
          | some v =>
            rw [e3] at h
            rcases v with v | v
            · obtain ⟨acc2, k1, k2, k3, k4, k5⟩ := step s v e1 h
              obtain ⟨y, y1, y2⟩ := zcA_some (η := η) e3
              have h7 := hh _ y1
              refine ⟨acc2, k1, k2, k3, fun q hq => ?_⟩
              rcases List.mem_cons.mp hq with e | e
              · rw [e]
                have h8 : zg0 η acc2 s2 = zd η y := by
                  unfold zg0
                  rw [k3 s2 ix e2, y2]
                show 0 ≤ zg0 η acc2 s2 ∧ ∃ x : Int32, zav es i (zg0 η acc2 s2).toNat = some (.int x) ∧ zg0 η acc2 s = x.toInt
                rw [h8]
                exact ⟨h7.2 y rfl, zi η v, h7.1, k5⟩
              · exact k4 q e
            · cases h
theorem zrB_ok {η : zE} {fa : zFa} (hs : zsat η fa) {acc : List (Nat × zI)} {rg : zRg} (h : zrB fa acc rg = true) : zEr rg (zg0 η acc) := by
  intro q hq
  have h1 := zAll_ok h q hq
  unfold zg0
  cases e : xfi acc q.1 with
  | none => rw [e] at h1; cases h1
  | some v =>
    rw [e] at h1
    dsimp only at h1 ⊢
    rw [zrk_eq, Bool.and_eq_true, decide_eq_true_eq, decide_eq_true_eq] at h1
    have := zrg_ok hs v
    constructor <;> omega
theorem zAny_ok {α : Type} {p : α → Bool} : ∀ {l : List α}, zAny p l = true → ∃ a ∈ l, p a = true := by
  intro l
  induction l with
  | nil => intro h; cases h
  | cons a t ih =>
    intro h
    unfold zAny at h
    cases e : p a with
    | true => exact ⟨a, List.mem_cons_self, e⟩
    | false =>
      rw [e] at h
      obtain ⟨b, h1, h2⟩ := ih h
      exact ⟨b, List.mem_cons_of_mem _ h1, h2⟩
theorem zpr_ok {η g : zE} {fa : zFa} (hs : zsat η fa) {acc : List (Nat × zI)} {rg : zRg} (ha : ∀ q ∈ acc, zd η q.2 = g q.1) (hr : zEr rg g) (h : zpr fa acc rg = true) : False := by
  obtain ⟨q, hq, h1⟩ := zAny_ok h
  cases e : xfi acc q.1 with
  | none => rw [e] at h1; cases h1
  | some v =>
    rw [e] at h1
    dsimp only at h1
    rw [zrk_eq, Bool.or_eq_true, decide_eq_true_eq, decide_eq_true_eq] at h1
    have h2 := zrg_ok hs v
    have h3 := hr q hq
    have h4 : zd η v = g q.1 := ha _ (xfi_ok e)
    omega
set_option maxHeartbeats 1000000 in
theorem ok_zap {T : zTb} {U : zRn} {D : va_G} {ρ : Nat → Nat} {γ : Nat → ClassId} {es0 : va_W} {s : State} {A : Nat → Prop} {r : zR} {η0 : zE} {nf0 : Nat} {H : Heap} {locs : List Loc} {ls : Array Slot} {lo : zL} {es : va_W} {rest : List zV} {k : List (Nat × zI) → zCa → zFa → Nat → Bool} {rg : zRg} {g : zE} (hC : zCo T ρ γ (fun _ => 0) [] es) (hg : zEr rg g) : ∀ (nm : List (Nat × Nat × Nat)) (acc : List (Nat × zI)) (ca : zCa) (fa : zFa) (nf : Nat) (η : zE), zIv T U D ρ γ es0 s A r η0 nf0 η H locs ls lo ca fa nf es → (∀ q ∈ acc, zbI nf q.2 = true) → zac η g acc → (∀ q ∈ nm, ∃ x : Int32, zfv es q.2.1 q.2.2 = some (.int x) ∧ g q.1 = x.toInt) → zbS nf rest = true → zap T lo rest rg nm acc ca fa nf k = true → ∃ (acc2 : List (Nat × zI)) (ca2 : zCa) (fa2 : zFa) (nf2 : Nat) (η2 : zE), k acc2 ca2 fa2 nf2 = true ∧ zIv T U D ρ γ es0 s A r η0 nf0 η2 H locs ls lo ca2 fa2 nf2 es ∧ zac η2 g acc2 ∧ rest.map (zv ρ η2) = rest.map (zv ρ η) := by
  intro nm
  induction nm with
  | nil => intro acc ca fa nf η V _ ha _ _ h; exact ⟨acc, ca, fa, nf, η, h, V, ha, rfl⟩
  | cons q t ih =>
    intro acc ca fa nf η V hb ha hm hr h
    obtain ⟨s9, i, f⟩ := q
    unfold zap at h
    cases e2 : zrng T rg s9 i f with
    | none => rw [e2] at h; cases h
    | some q2 =>
      obtain ⟨a, b⟩ := q2
      rw [e2] at h
      dsimp only at h
      rw [Bool.and_eq_true, fN_eq] at h
      obtain ⟨x, hx, hgx⟩ := hm _ List.mem_cons_self
      have hab : a ≤ x.toInt ∧ x.toInt ≤ b := by
        unfold zrng at e2
        cases e3 : xfi rg s9 with
        | some q3 =>
          rw [e3] at e2
          cases e2
          have := hg _ (xfi_ok e3)
          dsimp only at this hgx
          rw [hgx] at this
          exact this
        | none =>
          rw [e3] at e2
          obtain ⟨y, hy, y1, y2⟩ := zrgF_val hC e2 rfl
          dsimp only at hx
          rw [hx] at hy
          cases hy
          exact ⟨y1, y2⟩
      obtain ⟨V2, e4⟩ := zIv.fld V h.1 hx hab.1 hab.2
      obtain ⟨acc2, ca2, fa2, nf2, η2, k1, k2, k3, k4⟩ := ih _ _ _ _ _ V2 (fun q hq => by
        rcases List.mem_cons.mp hq with e | e
        · rw [e]; exact Nat.ble_eq_true_of_le (Nat.le_refl _)
        · exact zbI_le (Nat.le_succ _) (hb q e)) (fun q hq => by
        rcases List.mem_cons.mp hq with e | e
        · rw [e]
          show 1 * zup η nf _ nf + 0 = g s9
          rw [zup_n, hgx]
          omega
        · rw [zbI_ag (zup_ag η nf _) (hb q e)]
          exact ha q e) (fun q hq => hm q (List.mem_cons_of_mem _ hq)) (zbS_le (Nat.le_succ _) hr) h.2
      exact ⟨acc2, ca2, fa2, nf2, η2, k1, k2, k3, by rw [k4, e4]⟩
theorem zmp_ok {η g : zE} {acc : List (Nat × zI)} (ha : zac η g acc) {q q2 : zRl} (h : zmp acc q = some q2) (hq : zrs g q) : zrs η q2 := by
  unfold zmp at h
  split at h
  · rename_i k m x j n y e1 e2
    split at h
    · rename_i e3
      rw [Bool.and_eq_true, decide_eq_true_eq, decide_eq_true_eq] at e3
      have h1 : m * η k + x = g q.2.1 := ha _ (xfi_ok e1)
      have h2 : n * η j + y = g q.2.2.1 := ha _ (xfi_ok e2)
      rw [e3.1, Int.one_mul] at h1
      rw [e3.2, Int.one_mul] at h2
      obtain ⟨sg, a, b, c⟩ := q
      cases sg with
      | true =>
        cases h
        have hq : g a + g b ≤ c := hq
        show η k + η j ≤ c - x - y
        dsimp only at h1 h2
        omega
      | false =>
        cases h
        have hq : g a - g b ≤ c := hq
        show η k - η j ≤ c - x + y
        dsimp only at h1 h2
        omega
    · cases h
  · cases h
theorem zch_ok {η : zE} {a b : Nat} {c : Int} (h0 : η a - η b ≤ c) {k : List zRl → Bool} : ∀ (l out : List zRl), (∀ q ∈ l, zrs η q) → (∀ q ∈ out, zrs η q) → zch a b c l out k = true → ∃ rl, k rl = true ∧ ∀ q ∈ rl, zrs η q := by
  intro l
  induction l with
  | nil => intro out _ ho h; exact ⟨out, h, ho⟩
  | cons q t ih =>
    intro out hl ho h
    obtain ⟨sg, x, y, d⟩ := q
    unfold zch at h
    split at h
    · rename_i e
      rw [Bool.and_eq_true] at e
      rw [fZ_eq] at h
      refine ih _ (fun q hq => hl q (List.mem_cons_of_mem _ hq)) (fun q hq => ?_) h
      rcases List.mem_cons.mp hq with e2 | e2
      · rw [e2]
        have hs : sg = false := by cases sg with | false => rfl | true => exact absurd e.1 (by decide)
        have h9 := hl _ List.mem_cons_self
        rw [hs] at h9
        have h9 : η x - η y ≤ d := h9
        have hy := Nat.eq_of_beq_eq_true e.2
        rw [hy] at h9
        show η x - η b ≤ d + c
        omega
      · exact ho q e2
    · exact ih _ (fun q hq => hl q (List.mem_cons_of_mem _ hq)) ho h
theorem zrw_ok {η g : zE} {acc : List (Nat × zI)} (ha : zac η g acc) {k : List zRl → Bool} : ∀ (qs rl : List zRl), (∀ q ∈ qs, zrs g q) → (∀ q ∈ rl, zrs η q) → zrw acc qs rl k = true → ∃ rl2, k rl2 = true ∧ ∀ q ∈ rl2, zrs η q := by
  intro qs
  induction qs with
  | nil => intro rl _ hr h; exact ⟨rl, h, hr⟩
  | cons q t ih =>
    intro rl hq hr h
    unfold zrw at h
    split at h
    · rename_i a b c e
      rw [fZ_eq] at h
      refine ih _ (fun q z => hq q (List.mem_cons_of_mem _ z)) (fun q z => ?_) h
      rcases List.mem_cons.mp z with e2 | e2
      · rw [e2]; exact zmp_ok ha e (hq _ List.mem_cons_self)
      · exact hr q e2
    · rename_i a b c e
      rw [fZ_eq] at h
      have h1 := zmp_ok ha e (hq _ List.mem_cons_self)
      obtain ⟨rl2, k1, k2⟩ := zch_ok h1 rl _ hr (fun q z => by
        rcases List.mem_cons.mp z with e2 | e2
        · rw [e2]; exact h1
        · exact hr q e2) h
      exact ih rl2 (fun q z => hq q (List.mem_cons_of_mem _ z)) k2 k1
    · exact ih _ (fun q z => hq q (List.mem_cons_of_mem _ z)) hr h
theorem zIv.rl {T : zTb} {U : zRn} {D : va_G} {ρ : Nat → Nat} {γ : Nat → ClassId} {es0 : va_W} {s : State} {A : Nat → Prop} {r : zR} {η0 : zE} {nf0 : Nat} {H : Heap} {locs : List Loc} {ls : Array Slot} {lo : zL} {es : va_W} {η : zE} {ca : zCa} {fa : zFa} {nf : Nat} (V : zIv T U D ρ γ es0 s A r η0 nf0 η H locs ls lo ca fa nf es) {rl : List zRl} (h : ∀ q ∈ rl, zrs η q) : zIv T U D ρ γ es0 s A r η0 nf0 η H locs ls lo ca (fa.1, rl, fa.2.2) nf es := zIv.fa V ⟨V.2.2.2.2.1.1, V.2.2.2.2.1.2.1, h, V.2.2.2.2.1.2.2.2⟩
set_option maxHeartbeats 1000000 in
theorem ok_zsc {T : zTb} {U : zRn} {D : va_G} {l : Launch} {ρ : Nat → Nat} {γ : Nat → ClassId} {es0 : va_W} {ih : zS} {r : zR} {p : Program} {e : Env} {s : State} {m : MethodId} {args : Array Value} {below : List Frame} {meth : Method} {c : Code} {A : Nat → Prop} {Q : State → Prop} {K : zK} {cs ss : Nat} {η0 : zE} {nf0 : Nat} {pc : Nat} {lo : zL} {ca : zCa} {fa : zFa} {nf : Nat} {n : Nat} {η : zE} {H : Heap} {locs : List Loc} {ls : Array Slot} {es : va_W} (IH : zGd T U D l ρ γ es0 ih) (C : zCx T U D l ρ γ es0 r p e s m args below meth c A Q K cs ss η0 nf0) (V : zIv T U D ρ γ es0 s A r η0 nf0 η H locs ls lo ca fa nf es) {mi : Nat} {r2 : xR} {vs rest : List zV} {st0 : List Value} (HS : ∀ (es1 : va_W), zfrm U.2.2.2 es0 es1 → ∀ (j : Nat) (sm : zSm), j < U.2.2.1 → T.1[j]? = some sm → zSOe T D l sm es1) (hr : (gt xmt mi).bind xrow = some r2) (hrun : ∀ {rm : Room} {Pc : Array Value → State → Prop} {Qc : Array Value → State → Outcome → State → Prop} {free : Addr → Prop}, n = 3 → zcats rest ≤ 8 → rm.frames + 1 ≤ (xrm r.1).frames ∧ 8 + (r2.2.2.1 + 11) + rm.locals ≤ (xrm r.1).locals → rm.cells = 0 ∧ rm.slots = 0 → Met l r2.1 (Jvm.Cond.code r2.1 r2.2.1 r2.2.2.1 r2.2.2.2.1 :: xGd) rm Pc Qc 0 0 free → PreS s H Pc (vs.map (zv ρ η)) → va_Run p l e (xrm r.1) s m args below meth c H locs cs ss 0 0 (F0 m pc ls st0) (rest.map (zv ρ η)) (Qc (vs.map (zv ρ η)).toArray) free) : ∀ js : List Nat, zsc T U ih r pc lo ca fa nf K n mi r2 vs rest js = true → W p l e (xrm r.1) s m args below meth c H locs cs ss Q (F0 m (pc) ls (st0)) := by
  intro js
  induction js with
  | nil => intro h; cases h
  | cons j t iht =>
    intro h
    unfold zsc at h
    cases e1 : gt T.1 j with
    | none => rw [e1] at h; cases h
    | some sm =>
    rw [e1] at h
    dsimp only at h
    cases e2 : zaB fa sm.2.2.1 vs && zpB ca sm.2.2.2.2.2.1 with
    | false =>
      rw [e2] at h
      exact iht h
    | true =>
    rw [e2] at h
    dsimp only at h
    rw [Bool.and_eq_true, Bool.and_eq_true, Bool.and_eq_true, Bool.and_eq_true, Bool.and_eq_true, Bool.and_eq_true, Bool.and_eq_true, Bool.and_eq_true, Bool.and_eq_true] at h
    obtain ⟨h1, h2, h3, h4, h5, h6, h7, h9, h10, h11⟩ := h
    rw [Bool.and_eq_true] at e2
    rw [gt_eq] at e1
    have hr1 : (gt xmt sm.1).bind xrow = some r2 := by rw [Nat.eq_of_beq_eq_true h2]; exact hr
    obtain ⟨ca1, fa1, nf1, η1, k0, V1, n1, a1⟩ := ok_zpl (rest := rest) _ _ _ _ _ V h11
    obtain ⟨acc, k1, k2, -, k4⟩ := zas_ok V1.2.2.2.2.1 V1.2.2.2.2.2.2.2.1.2.2.2.2 _ [] (fun q z => by cases z) k0
    rw [Bool.and_eq_true, Bool.and_eq_true, Bool.and_eq_true, gFil_eq, fN_eq] at k1
    obtain ⟨k1, h8, k5, k6⟩ := k1
    have hrest : rest.map (zv ρ η1) = rest.map (zv ρ η) := zbS_ag a1 ρ h10
    have hM := HS es V.2.2.2.2.2.2.2.2 j sm (blt_ok h1) e1 r2 hr1 ρ γ (vs.map (zv ρ η)) H.size (zg0 η1 acc) (fun k => by
      unfold zg0
      cases e9 : xfi acc k with
      | none => exact (show zbd 0 from ⟨by decide, by decide⟩)
      | some v => exact (k2 _ (xfi_ok e9)).1.2) (zCo.flush V1.2.2.2.2.1 V1.2.2.2.2.2.2.2.1 h8 _) (zaB_ok V.2.2.2.2.1 _ _ e2.1) (zpB_ok V.2.2.2.2.2.2.2.1.2.2.2.2 e2.2) k4 (zrB_ok V1.2.2.2.2.1 k1)
    have hFc : ∀ q, va_A es H.size q → A q := by
      intro q hq
      rcases hq with ⟨k, e9, hk⟩ | hq
      · exact V.2.1.2 k (q, e9) hk
      · exact C.2.2.2.2.2.2.1.1 q (Nat.le_trans V.2.2.1.1 hq)
    have hp : PreS s H (zPs T D γ es (vs.map (zv ρ η)) H.size) (vs.map (zv ρ η)) := ⟨fun a U g mk q => ⟨q.1, q.2.1, q.2.2.1, va_K.moved (u := U) (U := U.calling g mk a) (Vm.Alike.refl U.vm) q.2.2.2.1, q.2.2.2.2.1, hTz.moved (s := U) (t := U.calling g mk a) (Vm.Alike.refl U.vm) q.2.2.2.2.2.1, zStr.call (U := U) (V := U.calling g mk a) rfl rfl q.2.2.2.2.2.2⟩, fun U hU hW => ⟨rfl, by rw [hU], by rw [hU]; exact V.1, va_K.moved hW.alike C.2.2.2.2.2.1, V.2.1.weaken (fun _ _ _ _ => trivial), hTz.moved hW.alike C.2.2.2.2.2.2.2.2.1, zStr.at hW hU V.2.2.1 hFc C.2.2.2.2.2.2.2.2.2.1.2⟩⟩
    refine va_callg (A0 := A) (A1 := va_A es H.size) (hrun (Nat.eq_of_beq_eq_true h3) (Nat.le_of_ble_eq_true h4) ⟨Nat.le_of_ble_eq_true h6, Nat.le_of_ble_eq_true h7⟩ ⟨rfl, rfl⟩ hM hp) V.2.2.1 (fun q _ h => hFc q h) hFc (fun _ _ _ z => z.2) (fun v st t H1 locs1 ht hvm hq hS1 => ?_)
    obtain ⟨⟨v2, es2, ev, hret, hP2, hK2, hD2, hC2, hW2, al, hal, g2, hg2, p1, p2, p3⟩, -⟩ := hq
    cases ev
    rw [ht] at hP2
    have V2 : zIv T U D ρ γ es0 s A r η0 nf0 η1 H1 locs1 ls lo (ca1.filter (znW sm.2.2.2.2.1)) fa1 nf1 es2 := ⟨hP2, hD2.weaken (fun _ _ _ z => hFc _ z), hS1, V1.2.2.2.1, V1.2.2.2.2.1, V1.2.2.2.2.2.1, V1.2.2.2.2.2.2.1, zCo.kept V1.2.2.2.2.2.2.2.1 hC2 hW2, zfrm.trans V1.2.2.2.2.2.2.2.2 hW2 h9⟩
    have hb1 : zbS nf1 rest = true := zbS_le n1 h10
    have hacc : ∀ q ∈ acc, zd η1 q.2 = g2 q.1 := fun q hq => by
      obtain ⟨⟨⟨b1, b2⟩, -⟩, b3⟩ := k2 q hq
      rw [hg2 q.1 b1 b2]
      unfold zg0
      rw [b3]
    have k6 := zAll_ok k6 al hal
    rw [Bool.or_eq_true] at k6
    rcases k6 with k6 | k6
    · exact (zpr_ok V1.2.2.2.2.1 hacc p2 k6).elim
    obtain ⟨acc2, ca2, fa2, nf2, η2, q1, V3, q3, q4⟩ := ok_zap (rest := rest) hC2 p2 al.1 acc _ _ _ _ V2 (fun q hq => zAll_ok k5 q hq) hacc p1 hb1 k6
    obtain ⟨rl, q5, q6⟩ := zrw_ok q3 al.2.2 fa2.2.1 p3 V3.2.2.2.2.1.2.2.1 q1
    rw [Bool.and_eq_true, fN_eq] at q5
    obtain ⟨hnew, h11⟩ := q5
    have V4 := zIv.rl V3 q6
    rw [← hrest, ← q4]
    split at h11
    · rename_i e5
      rw [e5] at hret
      have hret : v = none := hret
      subst hret
      exact IH _ _ _ _ _ _ _ _ _ _ _ _ _ _ _ _ C _ _ _ _ _ _ h11 η2 H1 locs1 ls es2 V4
    · rename_i a b e5
      rw [e5] at hret
      obtain ⟨x, ex, x1, x2⟩ := hret
      subst ex
      obtain ⟨V5, e3⟩ := zIv.up V4 (g := (a, b, [])) (rl := []) (mm := []) (zbd32 x) hnew ⟨x1, x2, fun _ z => by cases z⟩ (fun _ z => by cases z) (fun _ z => by cases z)
      have k := IH _ _ _ _ _ _ _ _ _ _ _ _ _ _ _ _ C _ _ _ _ _ _ h11 _ H1 locs1 ls es2 V5
      rw [List.map_cons, zv_sym, e3] at k
      exact k
    · rename_i u e5
      rw [e5] at hret
      obtain ⟨x, ex⟩ := hret
      subst ex
      obtain ⟨V5, e3⟩ := zIv.upL V4 (zbd64 x) hnew
      have k := IH _ _ _ _ _ _ _ _ _ _ _ _ _ _ _ _ C _ _ _ _ _ _ h11 _ H1 locs1 ls es2 V5
      rw [List.map_cons, zv_symL, e3] at k
      exact k
    · cases h11
set_option maxHeartbeats 1000000 in
theorem ok_zdo {T : zTb} {U : zRn} {D : va_G} {l : Launch} {ρ : Nat → Nat} {γ : Nat → ClassId} {es0 : va_W} {ih : zS} {r : zR} {p : Program} {e : Env} {s : State} {m : MethodId} {args : Array Value} {below : List Frame} {meth : Method} {c : Code} {A : Nat → Prop} {Q : State → Prop} {K : zK} {cs ss : Nat} {η0 : zE} {nf0 : Nat} {pc : Nat} {lo : zL} {ca : zCa} {fa : zFa} {nf : Nat} {n : Nat} {η : zE} {H : Heap} {locs : List Loc} {ls : Array Slot} {es : va_W} (IH : zGd T U D l ρ γ es0 ih) (C : zCx T U D l ρ γ es0 r p e s m args below meth c A Q K cs ss η0 nf0) (V : zIv T U D ρ γ es0 s A r η0 nf0 η H locs ls lo ca fa nf es) {mi : Nat} {r2 : xR} {vs rest : List zV} {st0 : List Value} (HS : ∀ (es1 : va_W), zfrm U.2.2.2 es0 es1 → ∀ (j : Nat) (sm : zSm), j < U.2.2.1 → T.1[j]? = some sm → zSOe T D l sm es1) (hr : (gt xmt mi).bind xrow = some r2) (hrun : ∀ {rm : Room} {Pc : Array Value → State → Prop} {Qc : Array Value → State → Outcome → State → Prop} {free : Addr → Prop}, n = 3 → zcats rest ≤ 8 → rm.frames + 1 ≤ (xrm r.1).frames ∧ 8 + (r2.2.2.1 + 11) + rm.locals ≤ (xrm r.1).locals → rm.cells = 0 ∧ rm.slots = 0 → Met l r2.1 (Jvm.Cond.code r2.1 r2.2.1 r2.2.2.1 r2.2.2.2.1 :: xGd) rm Pc Qc 0 0 free → PreS s H Pc (vs.map (zv ρ η)) → va_Run p l e (xrm r.1) s m args below meth c H locs cs ss 0 0 (F0 m pc ls st0) (rest.map (zv ρ η)) (Qc (vs.map (zv ρ η)).toArray) free) (h : zdo T U ih r pc lo ca fa nf K n mi r2 vs rest = true) : W p l e (xrm r.1) s m args below meth c H locs cs ss Q (F0 m (pc) ls (st0)) := by
  unfold zdo at h
  split at h
  · exact ok_zsc IH C V HS hr hrun _ h
  · exact ok_zcall IH C V hr hrun h
set_option maxHeartbeats 1000000 in
theorem ok_zcpy {T : zTb} {U : zRn} {D : va_G} {l : Launch} {ρ : Nat → Nat} {γ : Nat → ClassId} {es0 : va_W} {ih : zS} {r : zR} {p : Program} {e : Env} {s : State} {m : MethodId} {args : Array Value} {below : List Frame} {meth : Method} {c : Code} {A : Nat → Prop} {Q : State → Prop} {K : zK} {cs ss : Nat} {η0 : zE} {nf0 : Nat} {pc : Nat} {lo : zL} {sk : List zV} {ca : zCa} {fa : zFa} {nf : Nat} {n : Nat} {η : zE} {H : Heap} {locs : List Loc} {ls : Array Slot} {es : va_W} (IH : zGd T U D l ρ γ es0 ih) (C : zCx T U D l ρ γ es0 r p e s m args below meth c A Q K cs ss η0 nf0) (V : zIv T U D ρ γ es0 s A r η0 nf0 η H locs ls lo ca fa nf es) {x : Nat} (hlink : (Jvm.Cond.methodLink (xnm r.1.2.2.2.2.1) x arraycopyName).before args s = true) (hd : decode r.1.2.1 pc = .ok (.invokestatic x, n)) (h : zcpy T U ih r pc lo sk ca fa nf K n = true) : W p l e (xrm r.1) s m args below meth c H locs cs ss Q (F0 m (pc) ls ((sk.map (zv ρ η)))) := by
  unfold zcpy at h
  split at h
  rotate_left
  · cases h
  rename_i m2 dp i sp j rest
  split at h
  rotate_left
  · cases h
  rename_i m0 us m1 rs e1 e2
  rw [Bool.and_eq_true, Bool.and_eq_true, Bool.and_eq_true, Bool.and_eq_true, Bool.and_eq_true, Bool.and_eq_true, Bool.and_eq_true, zrk_eq, zrk_eq, zrk_eq, gFil_eq, fN_eq] at h
  obtain ⟨h1, h2, h3, h4, h5, h6, h7⟩ := h
  rw [Bool.and_eq_true, Bool.and_eq_true, Bool.and_eq_true, Bool.and_eq_true, Bool.and_eq_true, Bool.and_eq_true, Bool.and_eq_true, decide_eq_true_eq, decide_eq_true_eq, decide_eq_true_eq, decide_eq_true_eq, decide_eq_true_eq] at h6
  obtain ⟨g1, g2, g3, g4, g5, g6, g7, g8⟩ := h6
  simp only [xin, Bool.and_eq_true, decide_eq_true_eq] at g6 g7 g8
  have h1 := Nat.eq_of_beq_eq_true h1
  subst h1
  have q1 := zrg_ok V.2.2.2.2.1 m2
  have q2 := zrg_ok V.2.2.2.2.1 dp
  have q3 := zrg_ok V.2.2.2.2.1 sp
  have cl : ∀ {z : zI}, 0 ≤ zd η z → zd η z ≤ 2147483647 → ¬ zi η z < 0 ∧ (zi η z).toNatClampNeg = (zd η z).toNat := by
    intro z h0 hz
    have ez : (zi η z).toInt = zd η z := i32_big (by omega) hz
    constructor
    · rw [Int32.lt_iff_toInt_lt, ez]
      show ¬ zd η z < 0
      omega
    · show (zi η z).toInt.toNat = _
      rw [ez]
  obtain ⟨a1, a2⟩ := cl (z := m2) (by omega) (by omega)
  obtain ⟨b1, b2⟩ := cl (z := dp) (by omega) (by omega)
  obtain ⟨c1, c2⟩ := cl (z := sp) (by omega) (by omega)
  rw [gt_eq] at e1 e2
  have hT1 := C.2.2.2.2.2.2.2.2.1 j .int m0 _ e1
  have hT2 := C.2.2.2.2.2.2.2.2.1 i .int m1 _ e2
  have hk : va_K D vwCl [(γ j, .int), (γ i, .int)] s := ⟨C.2.2.2.2.2.1.1, fun k q hq => by
    cases k with
    | zero => cases hq; exact hT1
    | succ k =>
      cases k with
      | zero => cases hq; exact hT2
      | succ k => cases hq⟩
  obtain ⟨f1, k1, -⟩ := V.2.2.2.2.2.2.2.1.1 j .int m0 us e1 (by decide)
  obtain ⟨f2, k2, -⟩ := V.2.2.2.2.2.2.2.1.1 i .int m1 rs e2 (by decide)
  have hl : i < es.length := (List.getElem?_eq_some_iff.mp k2).1
  refine va_copyi (D := D) (cl := vwCl) C.1 C.2.1 (by rw [C.2.2.1]; exact V.2.2.2.1.1.symm) C.2.2.2.1 hlink (C.2.2.2.2.1 _ w_an) (C.2.2.2.2.1 _ w_as) (C.2.2.2.2.1 _ w_si) hk V.1 V.2.1 V.2.2.1 j i 0 1 k1 k2 rfl rfl rfl c1 b1 a1 (by rw [c2, a2]; omega) (by rw [b2, a2]; omega) (fun _ _ => rfl) (Nat.le_of_ble_eq_true h4) (by rw [zcats_eq]; exact Nat.le_trans (by show zcats rest + _ ≤ zcats rest + 20; exact Nat.add_le_add_left (by decide) _) (Nat.le_of_ble_eq_true h5)) hd ?_
  intro H1 locs1 hP hD hS
  have h2 := of_decide_eq_true h2
  have hc := zCo.setA (cx := []) (f := va_cpy f1 f2 (zi η sp).toNatClampNeg (zi η dp).toNatClampNeg (zi η m2).toNatClampNeg) V.2.2.2.2.2.2.2.1 e2 (by decide) hl (fun q hq => by cases hq) (fun jj hj => Or.inr (by
    have e6 : zrj rs jj = zfull := by
      rw [h2]
      unfold zrj
      rw [gt_eq]
      have e7 : jj % [zfull].length = 0 := Nat.mod_one _
      rw [e7]
      rfl
    rw [e6]
    exact i32_bd _))
  rw [List.nil_append] at hc
  exact IH _ _ _ _ _ _ _ _ _ _ _ _ _ _ _ _ C _ _ _ _ _ _ h7 η H1 locs1 ls _ ⟨hP, hD, hS, V.2.2.2.1, V.2.2.2.2.1, V.2.2.2.2.2.1, V.2.2.2.2.2.2.1, hc, zfrm.setA V.2.2.2.2.2.2.2.2 k2 h3.1 (fun hy => pN.ne k2 (by have h9 := h3.2; rw [hy] at h9; exact h9))⟩
theorem zmax_le {a b c d x y : Int} (h1 : a ≤ x) (h2 : x ≤ b) (h3 : c ≤ y) (h4 : y ≤ d) : (zmax a c ≤ if x < y then y else x) ∧ (if x < y then y else x) ≤ zmax b d := by
  unfold zmax
  by_cases e1 : a ≤ c <;> by_cases e2 : b ≤ d <;> simp only [e1, e2, decide_true, decide_false] <;> split <;> constructor <;> omega
theorem zmin_le {a b c d x y : Int} (h1 : a ≤ x) (h2 : x ≤ b) (h3 : c ≤ y) (h4 : y ≤ d) : (zmin a c ≤ if y < x then y else x) ∧ (if y < x then y else x) ≤ zmin b d := by
  unfold zmin
  by_cases e1 : a ≤ c <;> by_cases e2 : b ≤ d <;> simp only [e1, e2, decide_true, decide_false] <;> split <;> constructor <;> omega
set_option maxHeartbeats 1000000 in
theorem ok_zmax {T : zTb} {U : zRn} {D : va_G} {l : Launch} {ρ : Nat → Nat} {γ : Nat → ClassId} {es0 : va_W} {ih : zS} {r : zR} {p : Program} {e : Env} {s : State} {m : MethodId} {args : Array Value} {below : List Frame} {meth : Method} {c : Code} {A : Nat → Prop} {Q : State → Prop} {K : zK} {cs ss : Nat} {η0 : zE} {nf0 : Nat} {pc : Nat} {lo : zL} {sk : List zV} {ca : zCa} {fa : zFa} {nf : Nat} {n : Nat} {η : zE} {H : Heap} {locs : List Loc} {ls : Array Slot} {es : va_W} (IH : zGd T U D l ρ γ es0 ih) (C : zCx T U D l ρ γ es0 r p e s m args below meth c A Q K cs ss η0 nf0) (V : zIv T U D ρ γ es0 s A r η0 nf0 η H locs ls lo ca fa nf es) {x : Nat} (hlink : (Jvm.Cond.methodLink (xnm r.1.2.2.2.2.1) x Lib.Math.max.name).before args s = true) (hd : decode r.1.2.1 pc = .ok (.invokestatic x, n)) (h : zmm ih r pc lo sk ca fa nf K n true = true) : W p l e (xrm r.1) s m args below meth c H locs cs ss Q (F0 m (pc) ls ((sk.map (zv ρ η)))) := by
  unfold zmm at h
  split at h
  rotate_left
  · cases h
  rename_i b a rest
  rw [Bool.and_eq_true, Bool.and_eq_true, zrk_eq, zrk_eq] at h
  obtain ⟨h1, h2, h⟩ := h
  have ha := zrg_ok V.2.2.2.2.1 a
  have hb := zrg_ok V.2.2.2.2.1 b
  have fin : n = 3 → W p l e (xrm r.1) s m args below meth c H locs cs ss Q (F0 m (pc + 3) ls (.int (if zi η a < zi η b then zi η b else zi η a) :: rest.map (zv ρ η))) → W p l e (xrm r.1) s m args below meth c H locs cs ss Q (F0 m (pc) ls (zv ρ η (.inl b) :: zv ρ η (.inl a) :: rest.map (zv ρ η))) := fun hn k => by
    subst hn
    exact va_mmax C.1 C.2.1 (by rw [C.2.2.1]; exact V.2.2.2.1.1.symm) C.2.2.2.1 hlink (C.2.2.2.2.1 _ w_xs) (C.2.2.2.2.1 _ w_mi) (C.2.2.2.2.1 _ w_xc) (Nat.le_of_ble_eq_true h1) (by rw [zcats_eq]; exact Nat.le_of_ble_eq_true h2) C.2.2.2.2.2.2.1.2.1 C.2.2.2.2.2.2.1.2.2 hd k
  cases e1 : z32 fa a && z32 fa b with
  | false =>
    rw [e1] at h
    obtain ⟨hn, k⟩ := ok_zpuF0 IH C V h (if zi η a < zi η b then zi η b else zi η a) (i32_bd _)
    exact fin hn k
  | true =>
    rw [e1] at h
    rw [Bool.and_eq_true] at e1
    have xa := z32_ok V.2.2.2.2.1 e1.1
    have xb := z32_ok V.2.2.2.2.1 e1.2
    have e5 : (if zi η a < zi η b then zi η b else zi η a).toInt = if zd η a < zd η b then zd η b else zd η a := by
      by_cases z : zi η a < zi η b
      · rw [if_pos z, xb]
        rw [Int32.lt_iff_toInt_lt, xa, xb] at z
        rw [if_pos z]
      · rw [if_neg z, xa]
        rw [Int32.lt_iff_toInt_lt, xa, xb] at z
        rw [if_neg z]
    obtain ⟨hn, k⟩ := ok_zpuF0 IH C V h (if zi η a < zi η b then zi η b else zi η a) (by rw [e5]; exact zmax_le ha.1 ha.2 hb.1 hb.2)
    exact fin hn k
set_option maxHeartbeats 1000000 in
theorem ok_zmin {T : zTb} {U : zRn} {D : va_G} {l : Launch} {ρ : Nat → Nat} {γ : Nat → ClassId} {es0 : va_W} {ih : zS} {r : zR} {p : Program} {e : Env} {s : State} {m : MethodId} {args : Array Value} {below : List Frame} {meth : Method} {c : Code} {A : Nat → Prop} {Q : State → Prop} {K : zK} {cs ss : Nat} {η0 : zE} {nf0 : Nat} {pc : Nat} {lo : zL} {sk : List zV} {ca : zCa} {fa : zFa} {nf : Nat} {n : Nat} {η : zE} {H : Heap} {locs : List Loc} {ls : Array Slot} {es : va_W} (IH : zGd T U D l ρ γ es0 ih) (C : zCx T U D l ρ γ es0 r p e s m args below meth c A Q K cs ss η0 nf0) (V : zIv T U D ρ γ es0 s A r η0 nf0 η H locs ls lo ca fa nf es) {x : Nat} (hlink : (Jvm.Cond.methodLink (xnm r.1.2.2.2.2.1) x Lib.Math.min.name).before args s = true) (hd : decode r.1.2.1 pc = .ok (.invokestatic x, n)) (h : zmm ih r pc lo sk ca fa nf K n false = true) : W p l e (xrm r.1) s m args below meth c H locs cs ss Q (F0 m (pc) ls ((sk.map (zv ρ η)))) := by
  unfold zmm at h
  split at h
  rotate_left
  · cases h
  rename_i b a rest
  rw [Bool.and_eq_true, Bool.and_eq_true, zrk_eq, zrk_eq] at h
  obtain ⟨h1, h2, h⟩ := h
  have ha := zrg_ok V.2.2.2.2.1 a
  have hb := zrg_ok V.2.2.2.2.1 b
  have fin : n = 3 → W p l e (xrm r.1) s m args below meth c H locs cs ss Q (F0 m (pc + 3) ls (.int (if zi η b < zi η a then zi η b else zi η a) :: rest.map (zv ρ η))) → W p l e (xrm r.1) s m args below meth c H locs cs ss Q (F0 m (pc) ls (zv ρ η (.inl b) :: zv ρ η (.inl a) :: rest.map (zv ρ η))) := fun hn k => by
    subst hn
    exact va_mmin C.1 C.2.1 (by rw [C.2.2.1]; exact V.2.2.2.1.1.symm) C.2.2.2.1 hlink (C.2.2.2.2.1 _ w_ns) (C.2.2.2.2.1 _ w_mi) (C.2.2.2.2.1 _ w_nc) (Nat.le_of_ble_eq_true h1) (by rw [zcats_eq]; exact Nat.le_of_ble_eq_true h2) C.2.2.2.2.2.2.1.2.1 C.2.2.2.2.2.2.1.2.2 hd k
  cases e1 : z32 fa a && z32 fa b with
  | false =>
    rw [e1] at h
    obtain ⟨hn, k⟩ := ok_zpuF0 IH C V h (if zi η b < zi η a then zi η b else zi η a) (i32_bd _)
    exact fin hn k
  | true =>
    rw [e1] at h
    rw [Bool.and_eq_true] at e1
    have xa := z32_ok V.2.2.2.2.1 e1.1
    have xb := z32_ok V.2.2.2.2.1 e1.2
    have e5 : (if zi η b < zi η a then zi η b else zi η a).toInt = if zd η b < zd η a then zd η b else zd η a := by
      by_cases z : zi η b < zi η a
      · rw [if_pos z, xb]
        rw [Int32.lt_iff_toInt_lt, xa, xb] at z
        rw [if_pos z]
      · rw [if_neg z, xa]
        rw [Int32.lt_iff_toInt_lt, xa, xb] at z
        rw [if_neg z]
    obtain ⟨hn, k⟩ := ok_zpuF0 IH C V h (if zi η b < zi η a then zi η b else zi η a) (by rw [e5]; exact zmin_le ha.1 ha.2 hb.1 hb.2)
    exact fin hn k
set_option maxHeartbeats 1000000 in
theorem ok_zab {T : zTb} {U : zRn} {D : va_G} {l : Launch} {ρ : Nat → Nat} {γ : Nat → ClassId} {es0 : va_W} {ih : zS} {r : zR} {p : Program} {e : Env} {s : State} {m : MethodId} {args : Array Value} {below : List Frame} {meth : Method} {c : Code} {A : Nat → Prop} {Q : State → Prop} {K : zK} {cs ss : Nat} {η0 : zE} {nf0 : Nat} {pc : Nat} {lo : zL} {sk : List zV} {ca : zCa} {fa : zFa} {nf : Nat} {n : Nat} {η : zE} {H : Heap} {locs : List Loc} {ls : Array Slot} {es : va_W} (IH : zGd T U D l ρ γ es0 ih) (C : zCx T U D l ρ γ es0 r p e s m args below meth c A Q K cs ss η0 nf0) (V : zIv T U D ρ γ es0 s A r η0 nf0 η H locs ls lo ca fa nf es) {x : Nat} (hlink : (Jvm.Cond.methodLink (xnm r.1.2.2.2.2.1) x Lib.Math.abs.name).before args s = true) (hd : decode r.1.2.1 pc = .ok (.invokestatic x, n)) (h : zab ih r pc lo sk ca fa nf K n = true) : W p l e (xrm r.1) s m args below meth c H locs cs ss Q (F0 m (pc) ls ((sk.map (zv ρ η)))) := by
  unfold zab at h
  split at h
  rotate_left
  · cases h
  rename_i a rest
  rw [Bool.and_eq_true, Bool.and_eq_true, zrk_eq] at h
  obtain ⟨h1, h2, h⟩ := h
  have ha := zrg_ok V.2.2.2.2.1 a
  have fin : n = 3 → W p l e (xrm r.1) s m args below meth c H locs cs ss Q (F0 m (pc + 3) ls (.int (if 0 ≤ zi η a then zi η a else 0 - zi η a) :: rest.map (zv ρ η))) → W p l e (xrm r.1) s m args below meth c H locs cs ss Q (F0 m (pc) ls (zv ρ η (.inl a) :: rest.map (zv ρ η))) := fun hn k => by
    subst hn
    exact va_mabs C.1 C.2.1 (by rw [C.2.2.1]; exact V.2.2.2.1.1.symm) C.2.2.2.1 hlink (C.2.2.2.2.1 _ w_bs) (C.2.2.2.2.1 _ w_mi) (C.2.2.2.2.1 _ w_bc) (Nat.le_of_ble_eq_true h1) (by rw [zcats_eq]; exact Nat.le_of_ble_eq_true h2) C.2.2.2.2.2.2.1.2.1 C.2.2.2.2.2.2.1.2.2 hd k
  cases e1 : decide (-2147483647 ≤ (zrg fa a).1) && (xin (zrg fa a).1 && xin (zrg fa a).2) with
  | false =>
    rw [e1] at h
    obtain ⟨hn, k⟩ := ok_zpuF0 IH C V h (if 0 ≤ zi η a then zi η a else 0 - zi η a) (i32_bd _)
    exact fin hn k
  | true =>
    rw [e1] at h
    rw [Bool.and_eq_true, Bool.and_eq_true, decide_eq_true_eq] at e1
    obtain ⟨e2, e3, e4⟩ := e1
    simp only [xin, Bool.and_eq_true, decide_eq_true_eq] at e3 e4
    have xa : (zi η a).toInt = zd η a := i32_big (by omega) (by omega)
    have e5 : (if 0 ≤ zi η a then zi η a else 0 - zi η a).toInt = if 0 ≤ zd η a then zd η a else - zd η a := by
      have z0 : (0 : Int32).toInt = 0 := by decide
      by_cases z : 0 ≤ zi η a
      · rw [if_pos z, xa]
        rw [Int32.le_iff_toInt_le, xa, z0] at z
        rw [if_pos z]
      · rw [if_neg z]
        rw [Int32.le_iff_toInt_le, xa, z0] at z
        rw [if_neg z]
        have e6 : (0 : Int32) - zi η a = Int32.ofInt (- zd η a) := by
          unfold zi
          rw [Int32.ofInt_neg]
          simp
        rw [e6, i32_big (by omega) (by omega)]
    obtain ⟨hn, k⟩ := ok_zpuF0 IH C V h (if 0 ≤ zi η a then zi η a else 0 - zi η a) (by
      rw [e5]
      have hm : ∀ w : Int, w ≤ (zrg fa a).2 ∨ w ≤ -(zrg fa a).1 → w ≤ zmax (zrg fa a).2 (-(zrg fa a).1) := fun w hw => by
        unfold zmax
        by_cases q : (zrg fa a).2 ≤ -(zrg fa a).1
        · rw [decide_eq_true q]; dsimp only; omega
        · rw [decide_eq_false q]; dsimp only; omega
      split
      · exact ⟨by dsimp only; omega, hm _ (Or.inl (by omega))⟩
      · exact ⟨by dsimp only; omega, hm _ (Or.inr (by omega))⟩)
    exact fin hn k
