theorem zretB_ok {ρ : Nat → Nat} {η : zE} {fa : zFa} (hs : zsat η fa) {ret : Option zP} {v : Option zV} (h : zretB fa ret v = true) : zrO ret (v.map (zv ρ η)) := by
  unfold zretB at h
  split at h
  · rfl
  · rename_i a b x
    rw [zrk_eq, Bool.and_eq_true, Bool.and_eq_true, Bool.and_eq_true, decide_eq_true_eq, decide_eq_true_eq] at h
    obtain ⟨h1, h2, h3, h4⟩ := h
    simp only [xin, Bool.and_eq_true, decide_eq_true_eq] at h3 h4
    have hr := zrg_ok hs x
    have e : (zi η x).toInt = zd η x := i32_big (by omega) (by omega)
    exact ⟨zi η x, rfl, by rw [e]; dsimp only; omega, by rw [e]; dsimp only; omega⟩
  · exact ⟨_, rfl⟩
  · cases h
theorem zCo.env {T : zTb} {ρ : Nat → Nat} {γ : Nat → ClassId} {η η2 : zE} {es : va_W} (C : zCo T ρ γ η [] es) : zCo T ρ γ η2 [] es := by
  refine ⟨fun i ty n rs hi ht => ?_, C.2.1, C.2.2.1, C.2.2.2.1, fun q hq => (by cases hq)⟩
  obtain ⟨f, h1, h2⟩ := C.1 i ty n rs hi ht
  refine ⟨f, h1, fun j hj => ?_⟩
  rcases h2 j hj with ⟨ix, v, hm, -⟩ | h
  · cases hm
  · exact Or.inr h
theorem ztL_b : ∀ (tm : zTm), zAll (fun q => Nat.blt q.1 40) tm = true → zbL 40 (ztL tm) = true := by
  intro tm
  induction tm with
  | nil => intro _; rfl
  | cons q t ih =>
    obtain ⟨l, p⟩ := q
    intro h
    unfold zAll at h
    rw [Bool.and_eq_true] at h
    unfold ztL zbL
    rw [Bool.and_eq_true]
    refine ⟨?_, ih h.2⟩
    rcases p with a | c | u
    · exact h.1
    · rfl
    · exact h.1
theorem ztF_b : ∀ (tm : zTm), zAll (fun q => Nat.blt q.1 40) tm = true → ∀ q ∈ ztF tm, q.1 < 40 := by
  intro tm
  induction tm with
  | nil => intro _ q hq; cases hq
  | cons x t ih =>
    obtain ⟨l, p⟩ := x
    intro h q hq
    unfold zAll at h
    rw [Bool.and_eq_true] at h
    rcases p with ⟨a, b⟩ | c
    · rcases List.mem_cons.mp hq with e | e
      · rw [e]; exact blt_ok h.1
      · exact ih h.2 q e
    · exact ih h.2 q hq
theorem bnd46 {k : Nat} (h : (Nat.ble 40 k && Nat.blt k 60) = true) : 40 ≤ k ∧ k < 60 := by
  rw [Bool.and_eq_true] at h
  exact ⟨Nat.le_of_ble_eq_true h.1, blt_ok h.2⟩
theorem zgF_ok {g : zE} : ∀ {rg : zRg}, zEr rg g → ∀ q ∈ zgF rg, zgs (g q.1) q.2 := by
  intro rg
  induction rg with
  | nil => intro _ q hq; cases hq
  | cons x t ih =>
    obtain ⟨s, a, b⟩ := x
    intro h q hq
    rcases List.mem_cons.mp hq with e | e
    · rw [e]
      have := h _ List.mem_cons_self
      exact ⟨this.1, this.2, fun _ z => by cases z⟩
    · exact ih (fun q hq => h q (List.mem_cons_of_mem _ hq)) q e
theorem zgF_sy {P : Nat → Prop} : ∀ {rg : zRg}, (∀ q ∈ rg, P q.1) → ∀ q ∈ zgF rg, P q.1 := by
  intro rg
  induction rg with
  | nil => intro _ q hq; cases hq
  | cons x t ih =>
    obtain ⟨s, a, b⟩ := x
    intro h q hq
    rcases List.mem_cons.mp hq with e | e
    · rw [e]; exact h _ List.mem_cons_self
    · exact ih (fun q hq => h q (List.mem_cons_of_mem _ hq)) q e
theorem zeN_ok {T : zTb} {ρ : Nat → Nat} {γ : Nat → ClassId} {η : zE} {es : va_W} (C : zCo T ρ γ η [] es) {g : zE} : ∀ {nm : zNm}, zEn nm es g → ∀ q ∈ zeN T nm, zgs (g q.1) q.2 := by
  intro nm
  induction nm with
  | nil => intro _ q hq; cases hq
  | cons x t ih =>
    obtain ⟨s, i, f | s2⟩ := x
    · intro h q hq
      have iht := ih (fun q hq => h q (List.mem_cons_of_mem _ hq))
      unfold zeN at hq
      cases e : zrgF T.2.1 i f with
      | none => rw [e] at hq; exact iht q hq
      | some q2 =>
        obtain ⟨a, b⟩ := q2
        rw [e] at hq
        rcases List.mem_cons.mp hq with e2 | e2
        · rw [e2]
          obtain ⟨x, hx, x1, x2⟩ := zrgF_val C e rfl
          obtain ⟨y, hy, y1⟩ := h _ List.mem_cons_self
          dsimp only at hy y1
          rw [hx] at hy
          cases hy
          show zgs (g s) (a, b, [])
          rw [y1]
          exact ⟨x1, x2, fun _ z => by cases z⟩
        · exact iht q e2
    · intro h q hq
      have iht := ih (fun q hq => h q (List.mem_cons_of_mem _ hq))
      rcases List.mem_cons.mp hq with e2 | e2
      · rw [e2]
        obtain ⟨-, y, hy, y1⟩ := h _ List.mem_cons_self
        dsimp only at y1
        show zgs (g s) (zfull.1, zfull.2, [])
        rw [y1]
        exact ⟨(i32_bd y).1, (i32_bd y).2, fun _ z => by cases z⟩
      · exact iht q e2
theorem zeN_sy {T : zTb} {P : Nat → Prop} : ∀ {nm : zNm}, (∀ q ∈ nm, P q.1) → ∀ q ∈ zeN T nm, P q.1 := by
  intro nm
  induction nm with
  | nil => intro _ q hq; cases hq
  | cons x t ih =>
    obtain ⟨s, i, f | s2⟩ := x
    · intro h q hq
      have iht := ih (fun q hq => h q (List.mem_cons_of_mem _ hq))
      unfold zeN at hq
      cases e : zrgF T.2.1 i f with
      | none => rw [e] at hq; exact iht q hq
      | some q2 =>
        obtain ⟨a, b⟩ := q2
        rw [e] at hq
        rcases List.mem_cons.mp hq with e2 | e2
        · rw [e2]; exact h _ List.mem_cons_self
        · exact iht q e2
    · intro h q hq
      rcases List.mem_cons.mp hq with e2 | e2
      · rw [e2]; exact h _ List.mem_cons_self
      · exact ih (fun q hq => h q (List.mem_cons_of_mem _ hq)) q e2
theorem zeF_ok {T : zTb} {ρ : Nat → Nat} {γ : Nat → ClassId} {η : zE} {es : va_W} (C : zCo T ρ γ η [] es) {g : zE} {sm : zSm} (h1 : zEn sm.2.2.2.2.2.2.1.1 es g) (h2 : zEr sm.2.2.2.2.2.2.1.2 g) : ∀ q ∈ zeF T sm, zgs (g q.1) q.2 := by
  intro q hq
  rcases List.mem_append.mp hq with e | e
  · exact zgF_ok h2 q e
  · exact zeN_ok C h1 q e
theorem zeF_sy {T : zTb} {sm : zSm} (h : zeW sm = true) : ∀ q ∈ zeF T sm, 40 ≤ q.1 ∧ q.1 < 60 := by
  unfold zeW at h
  rw [Bool.and_eq_true] at h
  intro q hq
  rcases List.mem_append.mp hq with e | e
  · exact zgF_sy (P := fun k => 40 ≤ k ∧ k < 60) (fun q hq => bnd46 (zAll_ok h.2 q hq)) q e
  · exact zeN_sy (P := fun k => 40 ≤ k ∧ k < 60) (fun q hq => by
      have := zAll_ok h.1 q hq
      rw [Bool.and_eq_true] at this
      exact bnd46 this.1) q e
theorem sym_v {ρ : Nat → Nat} {η : zE} {s : Nat} {x : Int32} (h : η s = x.toInt) : zv ρ η (.inl (zsym s)) = .int x := by
  show Value.int (Int32.ofInt (1 * η s + 0)) = _
  rw [h, Int.one_mul, Int.add_zero, i32_of]
theorem zeC_add {T : zTb} {ρ : Nat → Nat} {γ : Nat → ClassId} {η g : zE} {es : va_W} {ca : zCa} (C : zCo T ρ γ η ca es) (hag : ∀ k, 40 ≤ k → k < 60 → η k = g k) : ∀ (nm : zNm), zAll (fun q => (Nat.ble 40 q.1 && Nat.blt q.1 60) && (match q.2.2 with | .inl _ => true | .inr s2 => Nat.ble 40 s2 && Nat.blt s2 60)) nm = true → zEn nm es g → zCo T ρ γ η (zeC nm ++ ca) es := by
  intro nm
  induction nm with
  | nil => intro _ _; exact C
  | cons x t ih =>
    obtain ⟨s, i, f | s2⟩ := x
    · intro hw h
      unfold zAll at hw
      rw [Bool.and_eq_true, Bool.and_eq_true] at hw
      obtain ⟨b1, b2⟩ := bnd46 hw.1.1
      obtain ⟨x, hx, hg⟩ := h _ List.mem_cons_self
      dsimp only at hx hg
      refine zCo.add (q := ((i, .inl f), .inl (zsym s))) (ih hw.2 (fun q hq => h q (List.mem_cons_of_mem _ hq))) ⟨?_, fun ix z => by cases z⟩
      show zfv es i f = some (zv ρ η (.inl (zsym s)))
      rw [sym_v ((hag s b1 b2).trans hg), hx]
    · intro hw h
      unfold zAll at hw
      rw [Bool.and_eq_true, Bool.and_eq_true] at hw
      obtain ⟨b1, b2⟩ := bnd46 hw.1.1
      obtain ⟨c1, c2⟩ := bnd46 hw.1.2
      obtain ⟨h0, x, hx, hg⟩ := h _ List.mem_cons_self
      dsimp only at h0 hx hg
      have e2 : zd η (zsym s2) = g s2 := by
        show 1 * η s2 + 0 = _
        rw [hag s2 c1 c2]
        omega
      refine zCo.add (q := ((i, .inr (zsym s2)), .inl (zsym s))) (ih hw.2 (fun q hq => h q (List.mem_cons_of_mem _ hq))) ⟨?_, fun ix z => ?_⟩
      · show zav es i (zd η (zsym s2)).toNat = some (zv ρ η (.inl (zsym s)))
        rw [sym_v ((hag s b1 b2).trans hg), e2, hx]
      · cases z
        rw [e2]
        exact h0
theorem zqC_add {T : zTb} {ρ : Nat → Nat} {γ : Nat → ClassId} {η : zE} {es : va_W} {ca : zCa} (C : zCo T ρ γ η ca es) : ∀ (eqs : List (Nat × Nat × Nat)), (∀ q ∈ eqs, ∃ x : Int32, zfv es q.1 q.2.1 = some (.int x) ∧ η q.2.2 = x.toInt) → zCo T ρ γ η (zqC eqs ++ ca) es := by
  intro eqs
  induction eqs with
  | nil => intro _; exact C
  | cons q t ih =>
    obtain ⟨i, k, s⟩ := q
    intro h
    obtain ⟨x, hx, hg⟩ := h _ List.mem_cons_self
    dsimp only at hx hg
    refine zCo.add (q := ((i, .inl k), .inl (zsym s))) (ih (fun q hq => h q (List.mem_cons_of_mem _ hq))) ⟨?_, fun ix z => by cases z⟩
    show zfv es i k = some (zv ρ η (.inl (zsym s)))
    rw [sym_v hg, hx]
theorem zle_gh {T : zTb} {ls : Array Slot} {fl : zFl} {es : va_W} {η : zE} (hsz : ls.size ≤ 40) (hw : zfW T fl = true) : ∀ k, 40 ≤ k → k < 60 → zle ls fl es η k = η k := by
  intro k h1 h2
  unfold zfW at hw
  rw [Bool.and_eq_true] at hw
  unfold zle
  cases e : zfS fl k with
  | some q =>
    have h3 := zAll_ok hw.2 _ (zfS_mem e)
    rw [Bool.and_eq_true] at h3
    have := Nat.le_of_ble_eq_true h3.1
    dsimp only at this
    omega
  | none =>
    dsimp only
    unfold zls
    rw [Array.getElem?_eq_none (by omega)]
theorem zle_fl {T : zTb} {ρ : Nat → Nat} {γ : Nat → ClassId} {ls : Array Slot} {fl : zFl} {es : va_W} {η η0 : zE} (C : zCo T ρ γ η0 [] es) (hw : zfW T fl = true) : zCo T ρ γ (zle ls fl es η) (zcC fl) es ∧ ∀ q ∈ zfF T fl, zgs (zle ls fl es η q.1) q.2 := by
  unfold zfW at hw
  rw [Bool.and_eq_true] at hw
  exact zfl_ok C (η := zle ls fl es η) fl (fun q hq x hx => by
    unfold zle
    rw [zfS_get hw.1 q hq]
    obtain ⟨s, i, k⟩ := q
    dsimp only at hx ⊢
    rw [hx]) hw.2
set_option maxHeartbeats 1000000 in
/-- what holds on arrival at a cut -/
theorem zarr {T : zTb} {ρ : Nat → Nat} {γ : Nat → ClassId} {η : zE} {fa : zFa} {lo : zL} {ca : zCa} {ls : Array Slot} {es : va_W} {η0 : zE} {sm : zSm} {c : zCut} {old : Option (List zI)} (hs : zsat η fa) (hsz : ls.size ≤ 40) (hl : ∀ q ∈ zdL ρ η lo, ls[q.1]? = some (.val q.2)) (hh : zcH ρ η ca es) (C : zCo T ρ γ η0 [] es) (hB : zhk1 lo ca fa old c = true) (hw : zwff T c.1 c.2.1 = true) (hg : ∀ q ∈ zeF T sm, zgs (η q.1) q.2) (hgs : ∀ q ∈ zeF T sm, 40 ≤ q.1 ∧ q.1 < 60) (hpre : ∀ q ∈ sm.2.2.2.2.2.1, zfv es q.1 q.2.1 = some (.ref (ρ q.2.2))) : (∀ q ∈ zdL ρ (zle ls c.2.1 es η) (ztL c.1), ls[q.1]? = some (.val q.2)) ∧ zsat (zle ls c.2.1 es η) (ztG T sm c, c.2.2.2.2.2.1, []) ∧ zCo T ρ γ (zle ls c.2.1 es η) (zcK c sm) es ∧ ∀ k, 40 ≤ k → k < 60 → zle ls c.2.1 es η k = η k := by
  unfold zhk1 at hB
  rw [Bool.and_eq_true, Bool.and_eq_true, Bool.and_eq_true, Bool.and_eq_true] at hB
  obtain ⟨b1, b2, b3, b4, -⟩ := hB
  unfold zwff at hw
  rw [Bool.and_eq_true] at hw
  obtain ⟨w1, w2⟩ := hw
  obtain ⟨t1, t2⟩ := ztm_ok (ρ := ρ) (ls := ls) (η := η) hs.1 c.1 (ztB_ok hs hl c.1 b1)
  have hgh := zle_gh (T := T) (η := η) (es := es) hsz w2
  have hag : zag 40 (zls ls η) (zle ls c.2.1 es η) := fun k hk => by
    unfold zle
    cases e : zfS c.2.1 k with
    | none => rfl
    | some q =>
      exfalso
      unfold zfW at w2
      rw [Bool.and_eq_true] at w2
      have h1 := zAll_ok w2.2 _ (zfS_mem e)
      rw [Bool.and_eq_true] at h1
      have := Nat.le_of_ble_eq_true h1.1
      dsimp only at this
      omega
  obtain ⟨c1, c2⟩ := zle_fl (ls := ls) (η := η) C w2
  have hv : ∀ (l : Nat) (v : zI), zsv c.2.1 ca lo l = some (.inl v) → z32 fa v = true → zle ls c.2.1 es η l = zd η v := fun l v e1 e2 => zsv_ok hs hh hsz hl e1 e2
  obtain ⟨r1, r2⟩ := zvB_ok hs hv b3
  refine ⟨by rw [zbL_ag hag ρ (ztL_b c.1 w1)]; exact t1, ⟨zle_bd hs.1, fun q hq => ?_, r2, fun q hq => (by cases hq)⟩, ?_, hgh⟩
  · rcases List.mem_append.mp hq with e | e
    · exact zgF_ok r1 q e
    · rcases List.mem_append.mp e with e | e
      · rw [hag q.1 (ztF_b c.1 w1 q e)]
        exact t2 q e
      · rcases List.mem_append.mp e with e | e
        · exact c2 q e
        · rw [hgh q.1 (hgs q e).1 (hgs q e).2]
          exact hg q e
  · refine zpC_add (zqC_add (zpC_add c1 _ hpre) _ (fun q hq => ?_)) _ (zpB_ok hh b2)
    have h1 := zAll_ok b4 q hq
    split at h1
    · rename_i v w e1 e2
      rw [Bool.and_eq_true] at h1
      refine ⟨zi η v, (hh _ (zcF_some e1)).1, ?_⟩
      rw [hv _ _ e2 h1.1]
      have h2 := z32_ok hs h1.1
      unfold zi at h2 ⊢
      rw [zeB_ok (η := η) h1.2, h2]
    · cases h1
/-- what holds behind it -/
theorem zfn1_ok {T : zTb} {ρ : Nat → Nat} {γ : Nat → ClassId} {η g : zE} {fa : zFa} {ca : zCa} {es : va_W} {η0 : zE} {al : zAl} (hs : zsat η fa) (hh : zcH ρ η ca es) (C : zCo T ρ γ η0 [] es) (hag : ∀ k, 40 ≤ k → k < 60 → η k = g k) (h : zfn1 T fa ca al = true) : ∃ g2 : zE, zag4 g g2 ∧ zPo al es g2 := by
  unfold zfn1 at h
  rw [Bool.and_eq_true] at h
  obtain ⟨w, h⟩ := h
  have hz : (#[] : Array Slot).size ≤ 40 := Nat.zero_le _
  have hv : ∀ (l : Nat) (v : zI), zsv al.1 ca [] l = some (.inl v) → z32 fa v = true → zle #[] al.1 es η l = zd η v := fun l v e1 e2 => zsv_ok (ρ := ρ) (lo := []) hs hh hz (fun q hq => by cases hq) e1 e2
  obtain ⟨r1, r2⟩ := zvB_ok hs hv h
  refine ⟨zle #[] al.1 es η, fun k h1 h2 => (zle_gh hz w k h1 h2).trans (hag k h1 h2), fun q hq => ?_, r1, r2⟩
  have w0 := w
  unfold zfW at w
  rw [Bool.and_eq_true] at w
  have h1 := zAll_ok w.2 q hq
  rw [Bool.and_eq_true] at h1
  have h3 := h1.2
  cases e1 : zrgF T.2.1 q.2.1 q.2.2 with
  | none => rw [e1] at h3; cases h3
  | some q2 =>
    obtain ⟨a, b⟩ := q2
    obtain ⟨x, hx, -, -⟩ := zrgF_val C e1 rfl
    refine ⟨x, hx, ?_⟩
    unfold zle
    rw [zfS_get w.1 q hq]
    dsimp only
    rw [hx]
/-- a summary holds wherever Ψ does -/
def zSO (T : zTb) (D : va_G) (l : Launch) (Ψ : va_W → Prop) (sm : zSm) : Prop := ∀ es : va_W, Ψ es → zSOe T D l sm es
theorem zold_ag {η η2 : zE} {fs : List (Nat × zG)} (h : zag 100 η η2) : ∀ (cm : List zCm), zAll (zwfc fs) cm = true → ∀ b ∈ zold cm, zd η2 b = zd η b := by
  intro cm
  induction cm with
  | nil => intro _ b hb; cases hb
  | cons c t ih =>
    intro hc b hb
    unfold zAll at hc
    rw [Bool.and_eq_true] at hc
    rcases c with n | ⟨up, l⟩
    · rcases List.mem_cons.mp hb with e | e
      · rw [e]; rfl
      · exact ih hc.2 b e
    · have h1 := hc.1
      unfold zwfc at h1
      rw [Bool.and_eq_true] at h1
      rcases List.mem_cons.mp hb with e | e
      · rw [e]
        cases up with
        | true => exact zbI_ag h (v := .inr (l, -1, 2147483648)) h1.1
        | false => exact zbI_ag h (v := .inr (l, 1, 2147483648)) h1.1
      · exact ih hc.2 b e
set_option maxHeartbeats 4000000 in
theorem zfloyd {T : zTb} {D : va_G} {l : Launch} {Ψ : va_W → Prop} {ns : Nat} {sm : zSm} {cts : zCt} {cm : List (Nat × List Nat)} {nE : Nat} (HS : ∀ (j : Nat) (sm : zSm), j < ns → T.1[j]? = some sm → zSO T D l Ψ sm) (hE : zrunE T cm ns sm cts nE = true) (hC : ∀ q ∈ cts, ∃ n, zrunC T cm ns sm cts n q = true) (hΨ : ∀ es es2 : va_W, zfrm sm.2.2.2.2.1 es es2 → Ψ es → Ψ es2) (hcat : ∀ r : xR, (gt xmt sm.1).bind xrow = some r → (sm.2.2.1.map (fun p => match p with | .inr (.inr _) => 2 | _ => 1)).sum ≤ r.2.2.1) : zSO T D l Ψ sm := by
  intro es hΨ0 r hr ρ γ vs sz g hgb hco hao hpre hen her
  have HSr : ∀ (es1 : va_W), zfrm sm.2.2.2.2.1 es es1 → ∀ (j : Nat) (sm : zSm), j < ns → T.1[j]? = some sm → zSOe T D l sm es1 := fun es1 h1 j sm hj e => HS j sm hj e es1 (hΨ es es1 h1 hΨ0)
  obtain ⟨g1, g2, g3, g4, g5, g6, g7⟩ := xrow_ok hr
  refine Met.ofW (cc := r.2.1) (maxL := r.2.2.1) (ret := r.2.2.2.1) g5 rfl ?_
  intro p e s m args below meth c s₁ B hml hv
  obtain ⟨rfl, hsz, hP, hK, hD0, hT, hSt⟩ := hv
  subst hsz
  have hts := atoms_spec (ws := Jvm.Cond.code r.1 r.2.1 r.2.2.1 r.2.2.2.1 :: xGd) B.pre
  have hown : s.vm.findClass r.1.cls = some m.cls := findClass_of_methodNamed B.named
  have hl := lv_entry vs (n := r.2.2.1) (by rw [zaO_cats _ _ hao]; exact hcat r hr)
  rw [lg_entry_eq]
  generalize (lg_sl vs ++ List.replicate (r.2.2.1 - (lg_sl vs).length) Slot.unset).toArray = ls at hl ⊢
  unfold zrunE at hE
  rw [hr] at hE
  dsimp only at hE
  rw [Bool.and_eq_true, Bool.and_eq_true, Bool.and_eq_true] at hE
  obtain ⟨⟨hpw, hew, hmx⟩, hE⟩ := hE
  have hmx := Nat.le_of_ble_eq_true hmx
  have hgf := zeF_ok (sm := sm) hco hen her
  have hgs := zeF_sy (T := T) hew
  -- what holds at a return
  have hret : ∀ (U : zRn) (η0 : zE) (pc : Nat) (v2 : Option zV) (lo2 : zL) (ca2 : zCa) (fa2 : zFa) (nf2 : Nat) (η2 : zE) (H : Heap) (locs : List Loc) (ls2 : Array Slot) (es2 : va_W), U.2.2.2 = sm.2.2.2.2.1 → (∀ k, 40 ≤ k → k < 60 → η0 k = g k) → zIv T U D ρ γ es s (va_A es s.heap.size) (zrow r sm cts) η0 100 η2 H locs ls2 lo2 ca2 fa2 nf2 es2 → zfin T sm fa2 nf2 v2 ca2 = true → zrd η2 (zrow r sm cts) pc v2 → W p l e (zrmS sm.2.1) s m vs.toArray below meth c H locs 0 0 (MQ below (zQs T D ρ γ sm.2.2.2.1 sm.2.2.2.2.1 sm.2.2.2.2.2.2.2 g es s.heap.size) vs.toArray s 0 0 (va_A es s.heap.size)) (F0 m pc ls2 (v2.toList.map (zv ρ η2))) := by
    intro U η0 pc v2 lo2 ca2 fa2 nf2 η2 H locs ls2 es2 hU hη V2 hk hx
    unfold zfin at hk
    rw [Bool.and_eq_true, Bool.and_eq_true] at hk
    obtain ⟨k1, k2, k3⟩ := hk
    have hro : zrO sm.2.2.2.1 (v2.map (zv ρ η2)) := zretB_ok V2.2.2.2.2.1 k2
    have hfr : zfrm sm.2.2.2.2.1 es es2 := by rw [← hU]; exact V2.2.2.2.2.2.2.2.2
    have hC2 := zCo.flush V2.2.2.2.2.1 V2.2.2.2.2.2.2.2.1 k1 (fun _ => 0)
    obtain ⟨al, hal, k4⟩ := zex1_ok k3
    obtain ⟨gg, q1, q2⟩ := zfn1_ok (g := g) V2.2.2.2.2.1 V2.2.2.2.2.2.2.2.1.2.2.2.2 hC2 (fun k a b => by rw [V2.2.2.2.2.2.2.1 k (by omega)]; exact hη k a b) k4
    have hq : ∀ t : State, t.heap = H → s.WarmedH t.vm → zQs T D ρ γ sm.2.2.2.1 sm.2.2.2.2.1 sm.2.2.2.2.2.2.2 g es s.heap.size vs.toArray s (.returned (v2.map (zv ρ η2))) t := fun t ht hW => ⟨⟨_, es2, rfl, hro, by rw [ht]; exact V2.1, va_K.moved hW.alike hK, V2.2.1, hC2, hfr, al, hal, gg, q1, q2⟩, V2.2.2.1.F ht⟩
    rcases v2 with _ | (a | (b | z))
    · exact W.vret B.exec B.bytes (B.returns.trans hx.2) hq V2.2.2.1.2.2 hx.1
    · obtain ⟨hd, ty, ht, hn⟩ := hx
      exact W.zret B.exec B.bytes (B.returns.trans ht) hn hq V2.2.2.1.2.2 hd
    · exact hx.elim
    · exact W.lret B.exec B.bytes (B.returns.trans hx.2) hq V2.2.2.1.2.2 hx.1
  -- the context of a run, given what its hook says
  have hcx : ∀ (hk : zCk) (η0 : zE), (∀ k, 40 ≤ k → k < 60 → η0 k = g k) → (∀ (pc : Nat) (lo : zL) (sk : List zV) (ca : zCa) (fa : zFa) (nf : Nat) (η : zE) (H : Heap) (locs : List Loc) (ls2 : Array Slot) (es2 : va_W), xmN (zpcs cts) pc = true → hk pc lo sk ca fa nf = true → zIv T (hk, cm, ns, sm.2.2.2.2.1) D ρ γ es s (va_A es s.heap.size) (zrow r sm cts) η0 100 η H locs ls2 lo ca fa nf es2 → W p l e (zrmS sm.2.1) s m vs.toArray below meth c H locs 0 0 (MQ below (zQs T D ρ γ sm.2.2.2.1 sm.2.2.2.2.1 sm.2.2.2.2.2.2.2 g es s.heap.size) vs.toArray s 0 0 (va_A es s.heap.size)) (F0 m pc ls2 (sk.map (zv ρ η)))) → zCx T (hk, cm, ns, sm.2.2.2.2.1) D l ρ γ es (zrow r sm cts) p e s m vs.toArray below meth c (va_A es s.heap.size) (MQ below (zQs T D ρ γ sm.2.2.2.1 sm.2.2.2.2.1 sm.2.2.2.2.2.2.2 g es s.heap.size) vs.toArray s 0 0 (va_A es s.heap.size)) (zfin T sm) 0 0 η0 100 := by
    intro hk η0 hη hh
    exact ⟨B.exec, B.bytes, hml, (by show s.vm.findClass (xnm r.2.2.2.2.1) = some m.cls; rw [← g3]; exact hown), fun x hx => hts x (List.mem_cons_of_mem _ hx), hK, ⟨fun q h => Or.inr h, Nat.zero_le _, Nat.zero_le _⟩, g7, hT, ⟨fun h12 => absurd (show r.2.2.2.2.1 = 12 from h12) (own12 hr), hSt⟩, hh, fun pc v2 lo2 ca2 fa2 nf2 η2 H locs ls2 es2 V2 h1 h2 => hret _ η0 pc v2 lo2 ca2 fa2 nf2 η2 H locs ls2 es2 rfl hη V2 h1 h2⟩
  have hwc : ∀ (pc : Nat) (c3 : zCut), (pc, c3) ∈ cts → zAll (zwfc (ztG T sm c3)) c3.2.2.1 = true ∧ zwff T c3.1 c3.2.1 = true := by
    intro pc c3 hin
    obtain ⟨n3, hrun3⟩ := hC _ hin
    unfold zrunC at hrun3
    rw [hr] at hrun3
    dsimp only at hrun3
    split at hrun3
    · rw [Bool.and_eq_true, Bool.and_eq_true] at hrun3
      exact hrun3.1
    · cases hrun3
  -- at a cut
  have key : ∀ (N pc : Nat) (c3 : zCut) (η : zE) (H : Heap) (locs : List Loc) (ls2 : Array Slot) (es2 : va_W), (pc, c3) ∈ cts → va_P D vwCl es2 H → va_D (va_A es s.heap.size) es2 → va_S (va_A es s.heap.size) s.heap H locs → lv_has ls2 r.2.2.1 (zdL ρ η (ztL c3.1)) → zsat η (ztG T sm c3, c3.2.2.2.2.2.1, []) → zCo T ρ γ η (zcK c3 sm) es2 → (∀ k, 40 ≤ k → k < 60 → η k = g k) → zfrm sm.2.2.2.2.1 es es2 → zenc ((zold c3.2.2.1).map (zd η)) < N → W p l e (zrmS sm.2.1) s m vs.toArray below meth c H locs 0 0 (MQ below (zQs T D ρ γ sm.2.2.2.1 sm.2.2.2.2.1 sm.2.2.2.2.2.2.2 g es s.heap.size) vs.toArray s 0 0 (va_A es s.heap.size)) (F0 m pc ls2 []) := by
    intro N
    induction N with
    | zero => intro pc c3 η H locs ls2 es2 _ _ _ _ _ _ _ _ _ h; exact absurd h (Nat.not_lt_zero _)
    | succ N ihN =>
      intro pc c3 η H locs ls2 es2 hm hP2 hD2 hS2 hl2 hs2 hc2 hη2 hf2 hN
      obtain ⟨n, hrun⟩ := hC _ hm
      obtain ⟨hwf, -⟩ := hwc _ _ hm
      unfold zrunC at hrun
      rw [hr] at hrun
      dsimp only at hrun
      cases e1 : xfi r.2.2.2.2.2.2.2 pc with
      | none => rw [e1] at hrun; cases hrun
      | some i =>
      rw [e1] at hrun
      dsimp only at hrun
      rw [Bool.and_eq_true] at hrun
      have hold := zold_bd hs2.1 hs2.2.1 c3.2.2.1 hwf
      have CC := hcx (zhook T cts (some (zold c3.2.2.1))) η hη2 (fun pc2 lo3 sk3 ca3 fa3 nf3 η3 H3 locs3 ls3 es3 hx hk V3 => by
        unfold zhook at hk
        rw [Bool.and_eq_true, Bool.and_eq_true] at hk
        obtain ⟨k1, k2, k3⟩ := hk
        obtain ⟨c4, hin, k4⟩ := zany_ok k3
        have hsk : sk3 = [] := by
          cases sk3 with
          | nil => rfl
          | cons a t => cases k1
        subst hsk
        have hl3 := V3.2.2.2.1
        have hs3 : ls3.size ≤ 40 := by rw [hl3.1]; exact hmx
        obtain ⟨hw4, hw5⟩ := hwc _ _ hin
        have hη3 : ∀ k, 40 ≤ k → k < 60 → η3 k = g k := fun k a b => by rw [V3.2.2.2.2.2.2.1 k (by omega)]; exact hη2 k a b
        obtain ⟨a1, a2, a3, a4⟩ := zarr (sm := sm) V3.2.2.2.2.1 hs3 hl3.2.2 V3.2.2.2.2.2.2.2.1.2.2.2.2 (zCo.flush V3.2.2.2.2.1 V3.2.2.2.2.2.2.2.1 k2 (fun _ => 0)) k4 hw5 (fun q hq => by rw [hη3 q.1 (hgs q hq).1 (hgs q hq).2]; exact hgf q hq) hgs (zpW_ok hpw V3.2.2.2.2.2.2.2.2 hpre)
        have hold2 : (zold c3.2.2.1).map (zd η3) = (zold c3.2.2.1).map (zd η) := List.map_congr_left (fun b hb => zold_ag V3.2.2.2.2.2.2.1 c3.2.2.1 hwf b hb)
        have k5 := k4
        unfold zhk1 at k5
        rw [Bool.and_eq_true, Bool.and_eq_true, Bool.and_eq_true, Bool.and_eq_true] at k5
        have k5 := k5.2.2.2.2
        dsimp only at k5
        rw [Bool.and_eq_true] at k5
        have hlx := zlex_ok (ρ := ρ) (fl := c4.2.1) (es := es3) V3.2.2.2.2.1 V3.2.2.2.2.2.2.2.1.2.2.2.2 hs3 hl3.2.2 c4.2.2.1 (zold c3.2.2.1) k5.2
        rw [hold2] at hlx
        refine ihN pc2 c4 (zle ls3 c4.2.1 es3 η3) H3 locs3 ls3 es3 hin V3.1 V3.2.1 V3.2.2.1 ⟨hl3.1, hl3.2.1, a1⟩ a2 a3 (fun k a b => (a4 k a b).trans (hη3 k a b)) V3.2.2.2.2.2.2.2.2 ?_
        have hlt := zenc_lex _ _ (by rw [List.length_map, List.length_map, zold_len, zold_len]; have := Nat.eq_of_beq_eq_true k5.1; rw [zold_len] at this; exact this) (zold_bd a2.1 a2.2.1 c4.2.2.1 hw4) hold hlx
        omega)
      exact zsi_ok (zex_ok HSr n) CC (pc := pc) (lo := ztL c3.1) (sk := []) (ca := zcK c3 sm) (fa := (ztG T sm c3, c3.2.2.2.2.2.1, [])) (nf := 100) (n := i.2) (η := η) (H := H) (locs := locs) (ls := ls2) (es := es2) ⟨hP2, hD2, hS2, hl2, hs2, Nat.le_refl _, fun _ _ => rfl, hc2, hf2⟩ HSr (i := i.1) (g7 (pc, i) (xfi_ok e1)) hrun.2
  -- the entry
  have hls : ls.size ≤ 40 := by rw [hl.1]; exact hmx
  have hη0 : ∀ k, 40 ≤ k → k < 60 → zls ls g k = g k := fun k a b => by
    unfold zls
    rw [Array.getElem?_eq_none (by omega)]
  obtain ⟨t1, t2⟩ := ztm_ok (ρ := ρ) (ls := ls) (η := g) hgb (zaT 0 sm.2.2.1) (fun q hq => by
    obtain ⟨w, w1, w2⟩ := zaT_ok sm.2.2.1 vs 0 hao q hq
    exact ⟨w, hl.2.2 _ w1, w2⟩)
  have hs0 : zsat (zls ls g) (ztF (zaT 0 sm.2.2.1) ++ zeF T sm, [], []) := ⟨zls_bd hgb, fun q hq => by
    rcases List.mem_append.mp hq with e | e
    · exact t2 q e
    · rw [hη0 q.1 (hgs q e).1 (hgs q e).2]
      exact hgf q e, fun q hq => (by cases hq), fun q hq => (by cases hq)⟩
  have CE := hcx (zhook T cts none) (zls ls g) hη0 (fun pc2 lo3 sk3 ca3 fa3 nf3 η3 H3 locs3 ls3 es3 hx hk V3 => by
    unfold zhook at hk
    rw [Bool.and_eq_true, Bool.and_eq_true] at hk
    obtain ⟨k1, k2, k3⟩ := hk
    obtain ⟨c4, hin, k4⟩ := zany_ok k3
    have hsk : sk3 = [] := by
      cases sk3 with
      | nil => rfl
      | cons a t => cases k1
    subst hsk
    have hl3 := V3.2.2.2.1
    have hs3 : ls3.size ≤ 40 := by rw [hl3.1]; exact hmx
    obtain ⟨hw4, hw5⟩ := hwc _ _ hin
    have hη3 : ∀ k, 40 ≤ k → k < 60 → η3 k = g k := fun k a b => by rw [V3.2.2.2.2.2.2.1 k (by omega)]; exact hη0 k a b
    obtain ⟨a1, a2, a3, a4⟩ := zarr (sm := sm) V3.2.2.2.2.1 hs3 hl3.2.2 V3.2.2.2.2.2.2.2.1.2.2.2.2 (zCo.flush V3.2.2.2.2.1 V3.2.2.2.2.2.2.2.1 k2 (fun _ => 0)) k4 hw5 (fun q hq => by rw [hη3 q.1 (hgs q hq).1 (hgs q hq).2]; exact hgf q hq) hgs (zpW_ok hpw V3.2.2.2.2.2.2.2.2 hpre)
    exact key _ pc2 c4 (zle ls3 c4.2.1 es3 η3) H3 locs3 ls3 es3 hin V3.1 V3.2.1 V3.2.2.1 ⟨hl3.1, hl3.2.1, a1⟩ a2 a3 (fun k a b => (a4 k a b).trans (hη3 k a b)) V3.2.2.2.2.2.2.2.2 (Nat.lt_succ_self _))
  have hew2 := hew
  unfold zeW at hew2
  rw [Bool.and_eq_true] at hew2
  have hc0 : zCo T ρ γ (zls ls g) (zeC sm.2.2.2.2.2.2.1.1 ++ zpC sm.2.2.2.2.2.1) es := by
    have := zpC_add (zCo.env (η2 := zls ls g) hco) sm.2.2.2.2.2.1 hpre
    rw [List.append_nil] at this
    exact zeC_add this hη0 _ hew2.1 hen
  exact zex_ok HSr nE (zrow r sm cts) p e s m _ below meth c _ _ (zfin T sm) 0 0 _ 100 CE 0 (ztL (zaT 0 sm.2.2.1)) [] _ _ 100 hE (zls ls g) s.heap [] ls es ⟨hP, hD0.self, va_S.rf, ⟨hl.1, hl.2.1, t1⟩, hs0, Nat.le_refl _, fun _ _ => rfl, hc0, zfrm.refl _ _⟩
