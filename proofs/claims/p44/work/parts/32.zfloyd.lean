theorem zretB_ok {ρ : Nat → Nat} {η : zE} {fa : zFa} (hs : zsat η fa) {ret : Option zP} {v : Option zV} (h : zretB fa ret v = true) : zrO ret (v.map (zv ρ η)) := by
  unfold zretB at h
  split at h
  · rfl
  · rename_i a b x
    rw [zrk_eq, Bool.and_eq_true, Bool.and_eq_true, Bool.and_eq_true, decide_eq_true_eq, decide_eq_true_eq] at h
    obtain ⟨h1, h2, h3, h4⟩ := h
    simp only [xin, Bool.and_eq_true, decide_eq_true_eq] at h3 h4
    have hr := zrg_ok hs x
    have e : (zi η x).toInt = zd η x := i32_big (by omega) (by omega)
    exact ⟨zi η x, rfl, by rw [e]; dsimp only; omega, by rw [e]; dsimp only; omega⟩
  · exact ⟨_, rfl⟩
  · cases h
theorem zCo.env {T : zTb} {ρ : Nat → Nat} {γ : Nat → ClassId} {η η2 : zE} {es : va_W} (C : zCo T ρ γ η [] es) : zCo T ρ γ η2 [] es := by
  refine ⟨fun i ty n rs hi ht => ?_, C.2.1, C.2.2.1, C.2.2.2.1, fun q hq => (by cases hq)⟩
  obtain ⟨f, h1, h2⟩ := C.1 i ty n rs hi ht
  refine ⟨f, h1, fun j hj => ?_⟩
  rcases h2 j hj with ⟨ix, v, hm, -⟩ | h
  · cases hm
  · exact Or.inr h
theorem ztL_b : ∀ (tm : zTm), zAll (fun q => Nat.blt q.1 60) tm = true → zbL 60 (ztL tm) = true := by
  intro tm
  induction tm with
  | nil => intro _; rfl
  | cons q t ih =>
    obtain ⟨l, p⟩ := q
    intro h
    unfold zAll at h
    rw [Bool.and_eq_true] at h
    unfold ztL zbL
    rw [Bool.and_eq_true]
    refine ⟨?_, ih h.2⟩
    rcases p with a | c | u
    · exact h.1
    · rfl
    · exact h.1
theorem ztF_b : ∀ (tm : zTm), zAll (fun q => Nat.blt q.1 60) tm = true → ∀ q ∈ ztF tm, q.1 < 60 := by
  intro tm
  induction tm with
  | nil => intro _ q hq; cases hq
  | cons x t ih =>
    obtain ⟨l, p⟩ := x
    intro h q hq
    unfold zAll at h
    rw [Bool.and_eq_true] at h
    rcases p with ⟨a, b⟩ | c
    · rcases List.mem_cons.mp hq with e | e
      · rw [e]; exact blt_ok h.1
      · exact ih h.2 q e
    · exact ih h.2 q hq
/-- what holds on arrival at a cut -/
theorem zarr {T : zTb} {ρ : Nat → Nat} {γ : Nat → ClassId} {η : zE} {fa : zFa} {lo : zL} {ls : Array Slot} {es : va_W} {η0 : zE} {tm : zTm} {fl : zFl} (hs : zsat η fa) (hl : ∀ q ∈ zdL ρ η lo, ls[q.1]? = some (.val q.2)) (C : zCo T ρ γ η0 [] es) (hB : ztB fa lo tm = true) (hw : zwff T tm fl = true) : (∀ q ∈ zdL ρ (zle ls fl es η) (ztL tm), ls[q.1]? = some (.val q.2)) ∧ zsat (zle ls fl es η) (ztG T tm fl, [], []) ∧ zCo T ρ γ (zle ls fl es η) (zcC fl) es := by
  unfold zwff at hw
  rw [Bool.and_eq_true, Bool.and_eq_true] at hw
  obtain ⟨w1, w2, w3⟩ := hw
  obtain ⟨t1, t2⟩ := ztm_ok (ρ := ρ) (ls := ls) (η := η) hs.1 tm (ztB_ok hs hl tm hB)
  have hag : zag 60 (zls ls η) (zle ls fl es η) := fun k hk => by
    unfold zle
    cases e : zfS fl k with
    | none => rfl
    | some q =>
      exfalso
      have h1 := zAll_ok w3 _ (zfS_mem e)
      rw [Bool.and_eq_true] at h1
      have := Nat.le_of_ble_eq_true h1.1
      dsimp only at this
      omega
  obtain ⟨c1, c2⟩ := zfl_ok C (η := zle ls fl es η) fl (fun q hq x hx => by
    unfold zle
    rw [zfS_get w2 q hq]
    obtain ⟨s, i, k⟩ := q
    dsimp only at hx ⊢
    rw [hx]) w3
  refine ⟨by rw [zbL_ag hag ρ (ztL_b tm w1)]; exact t1, ⟨zle_bd hs.1, fun q hq => ?_, fun q hq => (by cases hq), fun q hq => (by cases hq)⟩, c1⟩
  rcases List.mem_append.mp hq with e | e
  · rw [hag q.1 (ztF_b tm w1 q e)]
    exact t2 q e
  · exact c2 q e
/-- a summary holds wherever Ψ does -/
def zSO (T : zTb) (D : va_G) (l : Launch) (Ψ : va_W → Prop) (sm : zSm) : Prop := ∀ es : va_W, Ψ es → zSOe T D l sm es
/-- the ranks' locals are less than 100 -/
def zc100 : List zCm → Bool
  | [] => true
  | .inl _ :: t => zc100 t
  | .inr (_, l) :: t => Nat.blt l 100 && zc100 t
theorem zold_ag {η η2 : zE} (h : zag 100 η η2) : ∀ (cm : List zCm), zc100 cm = true → ∀ b ∈ zold cm, zd η2 b = zd η b := by
  intro cm
  induction cm with
  | nil => intro _ b hb; cases hb
  | cons c t ih =>
    intro hc b hb
    rcases c with n | ⟨up, l⟩
    · rcases List.mem_cons.mp hb with e | e
      · rw [e]; rfl
      · exact ih hc b e
    · unfold zc100 at hc
      rw [Bool.and_eq_true] at hc
      rcases List.mem_cons.mp hb with e | e
      · rw [e]
        cases up with
        | true => exact zbI_ag h (v := .inr (l, -1, 2147483648)) hc.1
        | false => exact zbI_ag h (v := .inr (l, 1, 2147483648)) hc.1
      · exact ih hc.2 b e
set_option maxHeartbeats 2000000 in
theorem zfloyd {T : zTb} {D : va_G} {l : Launch} {Ψ : va_W → Prop} {ns : Nat} {sm : zSm} {cts : zCt} {cm : List (Nat × List Nat)} {nE : Nat} (HS : ∀ (j : Nat) (sm : zSm), j < ns → T.1[j]? = some sm → zSO T D l Ψ sm) (hE : zrunE T cm ns sm cts nE = true) (hC : ∀ q ∈ cts, ∃ n, zrunC T cm ns sm cts n q = true) (hC2 : ∀ q ∈ cts, zc100 q.2.2.2 = true) (hΨ : ∀ es es2 : va_W, zfrm sm.2.2.2.2 es es2 → Ψ es → Ψ es2) (hcat : ∀ r : xR, (gt xmt sm.1).bind xrow = some r → (sm.2.2.1.map (fun p => match p with | .inr (.inr _) => 2 | _ => 1)).sum ≤ r.2.2.1) : zSO T D l Ψ sm := by
  intro es hΨ0 r hr ρ γ vs sz hco hao
  have HSr : ∀ (es1 : va_W), zfrm sm.2.2.2.2 es es1 → ∀ (j : Nat) (sm : zSm), j < ns → T.1[j]? = some sm → zSOe T D l sm es1 := fun es1 h1 j sm hj e => HS j sm hj e es1 (hΨ es es1 h1 hΨ0)
  obtain ⟨g1, g2, g3, g4, g5, g6, g7⟩ := xrow_ok hr
  refine Met.ofW (cc := r.2.1) (maxL := r.2.2.1) (ret := r.2.2.2.1) g5 rfl ?_
  intro p e s m args below meth c s₁ B hml hv
  obtain ⟨rfl, hsz, hP, hK, hD0, hT⟩ := hv
  subst hsz
  have hts := atoms_spec (ws := Jvm.Cond.code r.1 r.2.1 r.2.2.1 r.2.2.2.1 :: xGd) B.pre
  have hown : s.vm.findClass r.1.cls = some m.cls := findClass_of_methodNamed B.named
  have hl := lv_entry vs (n := r.2.2.1) (by rw [zaO_cats _ _ hao]; exact hcat r hr)
  rw [lg_entry_eq]
  generalize (lg_sl vs ++ List.replicate (r.2.2.1 - (lg_sl vs).length) Slot.unset).toArray = ls at hl ⊢
  -- what holds at a return
  have hret : ∀ (U : zRn) (η0 : zE) (pc : Nat) (v2 : Option zV) (lo2 : zL) (ca2 : zCa) (fa2 : zFa) (nf2 : Nat) (η2 : zE) (H : Heap) (locs : List Loc) (ls2 : Array Slot) (es2 : va_W), U.2.2.2 = sm.2.2.2.2 → zIv T U D ρ γ es s (va_A es s.heap.size) (zrow r sm cts) η0 100 η2 H locs ls2 lo2 ca2 fa2 nf2 es2 → zfin T sm.2.2.2.1 fa2 nf2 v2 ca2 = true → zrd η2 (zrow r sm cts) pc v2 → W p l e (zrmS sm.2.1) s m vs.toArray below meth c H locs 0 0 (MQ below (zQs T D ρ γ sm.2.2.2.1 sm.2.2.2.2 es s.heap.size) vs.toArray s 0 0 (va_A es s.heap.size)) (F0 m pc ls2 (v2.toList.map (zv ρ η2))) := by
    intro U η0 pc v2 lo2 ca2 fa2 nf2 η2 H locs ls2 es2 hU V2 hk hx
    unfold zfin at hk
    rw [Bool.and_eq_true] at hk
    have hro : zrO sm.2.2.2.1 (v2.map (zv ρ η2)) := zretB_ok V2.2.2.2.2.1 hk.2
    have hfr : zfrm sm.2.2.2.2 es es2 := by rw [← hU]; exact V2.2.2.2.2.2.2.2.2
    have hq : ∀ t : State, t.heap = H → s.WarmedH t.vm → zQs T D ρ γ sm.2.2.2.1 sm.2.2.2.2 es s.heap.size vs.toArray s (.returned (v2.map (zv ρ η2))) t := fun t ht hW => ⟨⟨_, es2, rfl, hro, by rw [ht]; exact V2.1, va_K.moved hW.alike hK, V2.2.1, zCo.flush V2.2.2.2.2.1 V2.2.2.2.2.2.2.2.1 hk.1 _, hfr⟩, V2.2.2.1.F ht⟩
    rcases v2 with _ | (a | (b | z))
    · exact W.vret B.exec B.bytes (B.returns.trans hx.2) hq V2.2.2.1.2.2 hx.1
    · obtain ⟨hd, ty, ht, hn⟩ := hx
      exact W.zret B.exec B.bytes (B.returns.trans ht) hn hq V2.2.2.1.2.2 hd
    · exact hx.elim
    · exact W.lret B.exec B.bytes (B.returns.trans hx.2) hq V2.2.2.1.2.2 hx.1
  -- the context of a run, given what its hook says
  have hcx : ∀ (hk : zCk) (η0 : zE), (∀ (pc : Nat) (lo : zL) (sk : List zV) (ca : zCa) (fa : zFa) (nf : Nat) (η : zE) (H : Heap) (locs : List Loc) (ls2 : Array Slot) (es2 : va_W), xmN (zpcs cts) pc = true → hk pc lo sk ca fa nf = true → zIv T (hk, cm, ns, sm.2.2.2.2) D ρ γ es s (va_A es s.heap.size) (zrow r sm cts) η0 100 η H locs ls2 lo ca fa nf es2 → W p l e (zrmS sm.2.1) s m vs.toArray below meth c H locs 0 0 (MQ below (zQs T D ρ γ sm.2.2.2.1 sm.2.2.2.2 es s.heap.size) vs.toArray s 0 0 (va_A es s.heap.size)) (F0 m pc ls2 (sk.map (zv ρ η)))) → zCx T (hk, cm, ns, sm.2.2.2.2) D l ρ γ es (zrow r sm cts) p e s m vs.toArray below meth c (va_A es s.heap.size) (MQ below (zQs T D ρ γ sm.2.2.2.1 sm.2.2.2.2 es s.heap.size) vs.toArray s 0 0 (va_A es s.heap.size)) (zfin T sm.2.2.2.1) 0 0 η0 100 := by
    intro hk η0 hh
    exact ⟨B.exec, B.bytes, hml, (by show s.vm.findClass (xnm r.2.2.2.2.1) = some m.cls; rw [← g3]; exact hown), fun x hx => hts x (List.mem_cons_of_mem _ hx), hK, ⟨fun q h => Or.inr h, Nat.zero_le _, Nat.zero_le _⟩, g7, hT, fun h12 => absurd (show r.2.2.2.2.1 = 12 from h12) (own12 hr), hh, fun pc v2 lo2 ca2 fa2 nf2 η2 H locs ls2 es2 V2 h1 h2 => hret _ η0 pc v2 lo2 ca2 fa2 nf2 η2 H locs ls2 es2 rfl V2 h1 h2⟩
  -- at a cut
  have key : ∀ (N pc : Nat) (tm : zTm) (fl : zFl) (cmp : List zCm) (η : zE) (H : Heap) (locs : List Loc) (ls2 : Array Slot) (es2 : va_W), (pc, tm, fl, cmp) ∈ cts → va_P D vwCl es2 H → va_D (va_A es s.heap.size) es2 → va_S (va_A es s.heap.size) s.heap H locs → lv_has ls2 r.2.2.1 (zdL ρ η (ztL tm)) → zsat η (ztG T tm fl, [], []) → zCo T ρ γ η (zcC fl) es2 → zfrm sm.2.2.2.2 es es2 → zenc ((zold cmp).map (zd η)) < N → W p l e (zrmS sm.2.1) s m vs.toArray below meth c H locs 0 0 (MQ below (zQs T D ρ γ sm.2.2.2.1 sm.2.2.2.2 es s.heap.size) vs.toArray s 0 0 (va_A es s.heap.size)) (F0 m pc ls2 []) := by
    intro N
    induction N with
    | zero => intro pc tm fl cmp η H locs ls2 es2 _ _ _ _ _ _ _ _ h; exact absurd h (Nat.not_lt_zero _)
    | succ N ihN =>
      intro pc tm fl cmp η H locs ls2 es2 hm hP2 hD2 hS2 hl2 hs2 hc2 hf2 hN
      obtain ⟨n, hrun⟩ := hC _ hm
      unfold zrunC at hrun
      rw [hr] at hrun
      dsimp only at hrun
      cases e1 : xfi r.2.2.2.2.2.2.2 pc with
      | none => rw [e1] at hrun; cases hrun
      | some i =>
      rw [e1] at hrun
      dsimp only at hrun
      rw [Bool.and_eq_true, Bool.and_eq_true] at hrun
      have hold := zold_bd hs2 cmp hrun.1
      have CC := hcx (zhook T cts (some (zold cmp))) η (fun pc2 lo3 sk3 ca3 fa3 nf3 η3 H3 locs3 ls3 es3 hx hk V3 => by
        obtain ⟨q3, e3⟩ := zpcs_ok hx
        obtain ⟨tm3, fl3, cm3⟩ := q3
        unfold zhook at hk
        rw [e3] at hk
        dsimp only at hk
        rw [Bool.and_eq_true, Bool.and_eq_true, Bool.and_eq_true, Bool.and_eq_true] at hk
        obtain ⟨k1, k2, k3, k4, k5⟩ := hk
        have hin := xfi_ok e3
        have hsk : sk3 = [] := by
          cases sk3 with
          | nil => rfl
          | cons a t => cases k1
        subst hsk
        have hl3 := V3.2.2.2.1
        obtain ⟨n3, hrun3⟩ := hC _ hin
        have hw3 : zAll (zwfc T tm3 fl3) cm3 = true ∧ zwff T tm3 fl3 = true := by
          unfold zrunC at hrun3
          rw [hr] at hrun3
          dsimp only at hrun3
          split at hrun3
          · rw [Bool.and_eq_true, Bool.and_eq_true] at hrun3
            exact ⟨hrun3.1, hrun3.2.1⟩
          · cases hrun3
        obtain ⟨a1, a2, a3⟩ := zarr V3.2.2.2.2.1 hl3.2.2 (zCo.flush V3.2.2.2.2.1 V3.2.2.2.2.2.2.2.1 k2 (fun _ => 0)) k3 hw3.2
        have hold2 : (zold cmp).map (zd η3) = (zold cmp).map (zd η) := List.map_congr_left (fun b hb => zold_ag V3.2.2.2.2.2.2.1 cmp (hC2 _ hm) b hb)
        have hlx := zlex_ok (ρ := ρ) (fl := fl3) (es := es3) V3.2.2.2.2.1 V3.2.2.2.2.2.2.2.1.2.2.2.2 hl3.2.2 cm3 (zold cmp) k5
        rw [hold2] at hlx
        refine ihN pc2 tm3 fl3 cm3 (zle ls3 fl3 es3 η3) H3 locs3 ls3 es3 hin V3.1 V3.2.1 V3.2.2.1 ⟨hl3.1, hl3.2.1, a1⟩ a2 a3 V3.2.2.2.2.2.2.2.2 ?_
        have hlt := zenc_lex _ _ (by rw [List.length_map, List.length_map, zold_len, zold_len]; have := Nat.eq_of_beq_eq_true k4; rw [zold_len] at this; exact this) (zold_bd a2 cm3 hw3.1) hold hlx
        omega)
      exact zsi_ok (zex_ok HSr n) CC (pc := pc) (lo := ztL tm) (sk := []) (ca := zcC fl) (fa := (ztG T tm fl, [], [])) (nf := 100) (n := i.2) (η := η) (H := H) (locs := locs) (ls := ls2) (es := es2) ⟨hP2, hD2, hS2, hl2, hs2, Nat.le_refl _, fun _ _ => rfl, hc2, hf2⟩ HSr (i := i.1) (g7 (pc, i) (xfi_ok e1)) hrun.2.2
  -- the entry
  have hb0 : ∀ k : Nat, zbd ((fun _ => 0 : zE) k) := fun k => (show zbd 0 from ⟨by decide, by decide⟩)
  obtain ⟨t1, t2⟩ := ztm_ok (ρ := ρ) (ls := ls) (η := fun _ => 0) hb0 (zaT 0 sm.2.2.1) (fun q hq => by
    obtain ⟨w, w1, w2⟩ := zaT_ok sm.2.2.1 vs 0 hao q hq
    exact ⟨w, hl.2.2 _ w1, w2⟩)
  have hs0 : zsat (zls ls (fun _ => 0)) (ztF (zaT 0 sm.2.2.1), [], []) := ⟨zls_bd hb0, t2, fun q hq => (by cases hq), fun q hq => (by cases hq)⟩
  have CE := hcx (zhook T cts none) (zls ls (fun _ => 0)) (fun pc2 lo3 sk3 ca3 fa3 nf3 η3 H3 locs3 ls3 es3 hx hk V3 => by
    obtain ⟨q3, e3⟩ := zpcs_ok hx
    obtain ⟨tm3, fl3, cm3⟩ := q3
    unfold zhook at hk
    rw [e3] at hk
    dsimp only at hk
    rw [Bool.and_eq_true, Bool.and_eq_true, Bool.and_eq_true] at hk
    obtain ⟨k1, k2, k3, -⟩ := hk
    have hsk : sk3 = [] := by
      cases sk3 with
      | nil => rfl
      | cons a t => cases k1
    subst hsk
    have hl3 := V3.2.2.2.1
    have hin := xfi_ok e3
    obtain ⟨n3, hrun3⟩ := hC _ hin
    have hw3 : zwff T tm3 fl3 = true := by
      unfold zrunC at hrun3
      rw [hr] at hrun3
      dsimp only at hrun3
      split at hrun3
      · rw [Bool.and_eq_true, Bool.and_eq_true] at hrun3
        exact hrun3.2.1
      · cases hrun3
    obtain ⟨a1, a2, a3⟩ := zarr V3.2.2.2.2.1 hl3.2.2 (zCo.flush V3.2.2.2.2.1 V3.2.2.2.2.2.2.2.1 k2 (fun _ => 0)) k3 hw3
    exact key _ pc2 tm3 fl3 cm3 (zle ls3 fl3 es3 η3) H3 locs3 ls3 es3 hin V3.1 V3.2.1 V3.2.2.1 ⟨hl3.1, hl3.2.1, a1⟩ a2 a3 V3.2.2.2.2.2.2.2.2 (Nat.lt_succ_self _))
  unfold zrunE at hE
  rw [hr] at hE
  exact zex_ok HSr nE (zrow r sm cts) p e s m _ below meth c _ _ (zfin T sm.2.2.2.1) 0 0 _ 100 CE 0 (ztL (zaT 0 sm.2.2.1)) [] [] _ 100 hE (zls ls (fun _ => 0)) s.heap [] ls es ⟨hP, hD0.self, va_S.rf, ⟨hl.1, hl.2.1, t1⟩, hs0, Nat.le_refl _, fun _ _ => rfl, zCo.env hco, zfrm.refl _ _⟩
