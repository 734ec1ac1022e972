theorem aM_go {es es2 : va_W} (h4 : zfd es 56 4 = 0) (h8 : zfd es 56 8 ≠ 0) (h6 : 0 ≤ zfd es 56 6 ∧ zfd es 56 6 ≤ 1600) (h6' : 0 ≤ zfd es2 56 6 ∧ zfd es2 56 6 ≤ 1600) (h : zfd es2 56 4 ≠ 0 ∨ zfd es2 56 8 = 0 ∨ (zfd es 56 7 ≤ zfd es2 56 6 ∧ zfd es2 56 6 < zfd es2 56 7)) : aM es2 < aM es := by
  unfold aM
  rw [if_pos (show zfd es 56 4 = 0 ∧ zfd es 56 8 ≠ 0 from ⟨h4, h8⟩)]
  have hpos : 0 < (if zfd es 56 6 < zfd es 56 7 then (1601 - zfd es 56 6).toNat else 1602) := by
    split
    · omega
    · decide
  rcases h with h | h | ⟨h, hh⟩
  · rw [if_neg (fun z => h z.1)]; exact hpos
  · rw [if_neg (fun z => z.2 h)]; exact hpos
  · split
    · first | rw [if_pos hh] | skip
      split
      · omega
      · omega
    · exact hpos
theorem xm2 {a b pc : Nat} (h : xmN [a, b] pc = true) : pc = a ∨ pc = b := by
  unfold xmN at h
  cases e9 : Nat.beq a pc with
  | true => exact Or.inl (Nat.eq_of_beq_eq_true e9).symm
  | false =>
    rw [e9] at h
    exact Or.inr (xmN1 h)
set_option maxHeartbeats 16000000 in
theorem so_parishT {D : va_G} {l : Launch} : zSO tP D l pN sm_parish := by
  intro es hpN r hr ρ γ vs sz g hgb hco hao hpre hen her
  have hvs : vs = [.ref (ρ 56)] := by
    match vs, hao with
    | [v], h => exact congrArg (fun x => [x]) h.1
  subst hvs
  have hr : (gt xmt 163).bind xrow = some r := hr
  have hco : zCo zD0 ρ γ (fun _ => 0) [] es := hco
  refine zent (T := tP) (ρ := ρ) hr (by
    show 1 ≤ r.2.2.1
    exact zfl1_cat (sm := sm_parish) (by decide +kernel) r hr) ?_
  intro p e s m below meth c ls hsz B1 hP hD hl hret
  have hrw : ((gt xmt 163).bind xrow).map (fun r => zhR r (12, 442)) = some (zhR r (12, 442)) := by rw [hr]; rfl
  have hl0 : ∀ (lo : zL) (η : zE) (ls3 : Array Slot), lv_has ls3 r.2.2.1 (zdL ρ η lo) → hRf (zll lo 0) 56 = true → lv_has ls3 r.2.2.1 [(0, .ref (ρ 56))] := by
    intro lo η ls3 h1 h2
    refine lvh h1 (tm := [(0, .inr (.inl (some 56)))]) (η := fun _ => 0) (fun q hq => ?_)
    rcases List.mem_singleton.mp hq with rfl
    exact ⟨_, hRf_ok h2, rfl⟩
  have nHS : ∀ (wr : List Nat) (es1 : va_W) (es2 : va_W), zfrm wr es1 es2 → ∀ (j : Nat) (sm : zSm), j < 0 → tP.1[j]? = some sm → zSOe tP D l sm es2 := fun _ _ _ _ j _ h => absurd h (Nat.not_lt_zero _)
  -- the lines
  have keyD : ∀ (N : Nat) (H : Heap) (locs : List Loc) (ls2 : Array Slot) (es2 : va_W), aM es2 < N → va_P D vwCl es2 H → va_D (va_A es sz) es2 → va_S (va_A es sz) s.heap H locs → zCo zD0 ρ γ (fun _ => 0) [] es2 → zfrm (4677 :: paWr) es es2 → pN es2 → lv_has ls2 r.2.2.1 [(0, .ref (ρ 56))] → W p l e (zrmS (12, 442)) s m [Value.ref (ρ 56)].toArray below meth c H locs 0 0 (MQ below (zQs tP D ρ γ sm_parish.2.2.2.1 sm_parish.2.2.2.2.1 sm_parish.2.2.2.2.2.2.2 g es sz) [Value.ref (ρ 56)].toArray s 0 0 (va_A es sz)) (F0 m 74 ls2 []) := by
    intro N
    induction N with
    | zero => intro H locs ls2 es2 h; exact absurd h (Nat.not_lt_zero _)
    | succ N ih =>
    intro H locs ls2 es2 hN hP2 hD2 hS2 hC2 hf2 hp2 hl2
    obtain ⟨-, a1, a2⟩ := fvx hC2 (k := 6) (a := 0) (b := 1600) (by decide +kernel) rfl
    obtain ⟨-, e1, e2⟩ := fvx hC2 (k := 7) (a := 0) (b := 1600) (by decide +kernel) rfl
    obtain ⟨-, t1, t2⟩ := fvx hC2 (k := 8) (a := -2147483648) (b := 2147483647) (by decide +kernel) rfl
    obtain ⟨-, f1, f2⟩ := fvx hC2 (k := 4) (a := 0) (b := 4) (by decide +kernel) rfl
    have hc := pa_74
    unfold paRun at hc
    rw [hrw] at hc
    refine zseg (ρ := ρ) (γ := γ) (η := adE (zfd es2 56 6) (zfd es2 56 7) (zfd es2 56 8) (zfd es2 56 4)) (sk := []) B1 (hsP es2 hp2) hc hP2 hD2 hS2 hl2 (adE_sat a1 a2 e1 e2 t1 t2 f1 f2) (adE_co hC2) ?_ ?_
    · intro pc lo sk ca fa nf η3 H3 locs3 ls3 es3 hpc hhk V3
      have hpc := xmN1 hpc
      subst hpc
      have hf3 : zfrm paWr es2 es3 := V3.2.2.2.2.2.2.2.2
      have hh3 := V3.2.2.2.2.2.2.2.1.2.2.2.2
      have hs3 := V3.2.2.2.2.1
      unfold paH74 at hhk
      simp only [Bool.and_eq_true, Bool.or_eq_true] at hhk
      obtain ⟨k1, k2, k3, k4, k5, k6⟩ := hhk
      have k3 := skN_ok k3
      subst k3
      have hC3 := zCo.flush hs3 V3.2.2.2.2.2.2.2.1 k1 (fun _ => 0)
      have g61 : η3 61 = zfd es2 56 7 := V3.2.2.2.2.2.2.1 61 (by decide)
      have g62 : η3 62 = zfd es2 56 8 := V3.2.2.2.2.2.2.1 62 (by decide)
      have g63 : η3 63 = zfd es2 56 4 := V3.2.2.2.2.2.2.1 63 (by decide)
      have f0 : zfd es2 56 4 = 0 := by
        obtain ⟨w, w0, w1, w2, w3⟩ := hIn_ok hs3 k4
        cases w0
        have w1 : 0 ≤ 1 * η3 63 + 0 := w1
        have w2 : 1 * η3 63 + 0 ≤ 0 := w2
        omega
      have t0 : zfd es2 56 8 ≠ 0 := by
        obtain ⟨w, w0, w1⟩ := hNe_ok hs3 k5
        cases w0
        have w1 : 1 * η3 62 + 0 ≠ 0 := w1
        omega
      have at3 := (fvx hC3 (k := 6) (a := 0) (b := 1600) (by decide +kernel) rfl).2
      refine ih H3 locs3 ls3 es3 (Nat.lt_of_lt_of_le (aM_go f0 t0 ⟨a1, a2⟩ at3 ?_) (Nat.le_of_lt_succ hN)) V3.1 V3.2.1 V3.2.2.1 hC3 (zfrm.trans (w1 := 4677 :: paWr) hf2 hf3 (by decide)) (hf3.2 (by decide) hp2) (hl0 lo η3 ls3 V3.2.2.2.1 k2)
      rcases k6 with k6 | ⟨k6, k7⟩
      · obtain ⟨w, w0, w1, w2, w3⟩ := hIn_ok hs3 k6
        have := cF_fd hh3 w0 w3
        left
        omega
      · obtain ⟨-, y⟩ := hGo_ok hs3 hh3 k7
        rw [g61] at y
        rcases y with y | ⟨-, y1, y2⟩
        · exact Or.inr (Or.inl y)
        · exact Or.inr (Or.inr ⟨y1, y2⟩)
    · intro pc v lo ca fa nf η9 H9 locs9 ls9 es9 V9 hfin hx9
      have hf9 : zfrm paWr es2 es9 := V9.2.2.2.2.2.2.2.2
      unfold paF9 at hfin
      rw [Bool.and_eq_true] at hfin
      obtain ⟨q1, q2⟩ := hfin
      obtain ⟨w, w0, w1, w2, w3⟩ := hIn_ok V9.2.2.2.2.1 q2
      subst w0
      have hC9 := zCo.flush V9.2.2.2.2.1 V9.2.2.2.2.2.2.2.1 q1 (fun _ => 0)
      have hfr : zfrm paWr es es9 := zfrm_drop (zfrm.trans (w1 := 4677 :: paWr) hf2 hf9 (by decide)) (zct73 (T := zD0) hco) (zct73 (T := zD0) hC9) (fun _ => hf9.2 (by decide) hp2)
      exact hret _ pc (some (.inl w)) η9 H9 locs9 ls9 hx9 V9.2.2.1 (fun t ht hK hF => ⟨⟨_, es9, rfl, ⟨zi η9 w, rfl, by rw [w3]; exact w1, by rw [w3]; exact w2⟩, by rw [ht]; exact V9.1, hK, V9.2.1, hC9, hfr, _, List.mem_cons_self, g, fun _ _ _ => rfl, ⟨fun q hq => (by cases hq), fun q hq => (by cases hq), fun q hq => (by cases hq)⟩⟩, hF⟩)
  -- the text's copy
  have keyB : ∀ (N i : Nat) (H : Heap) (locs : List Loc) (ls2 : Array Slot) (es2 : va_W), 1600 - i < N → i ≤ 1600 → va_P D vwCl es2 H → va_D (va_A es sz) es2 → va_S (va_A es sz) s.heap H locs → zCo zD0 ρ γ (fun _ => 0) [] es2 → zfrm paW20 es es2 → zfd es2 56 4 = 0 → lv_has ls2 r.2.2.1 [(0, .ref (ρ 56)), (1, .int (Int32.ofInt i))] → W p l e (zrmS (12, 442)) s m [Value.ref (ρ 56)].toArray below meth c H locs 0 0 (MQ below (zQs tP D ρ γ sm_parish.2.2.2.1 sm_parish.2.2.2.2.1 sm_parish.2.2.2.2.2.2.2 g es sz) [Value.ref (ρ 56)].toArray s 0 0 (va_A es sz)) (F0 m 20 ls2 []) := by
    intro N
    induction N with
    | zero => intro i H locs ls2 es2 h; exact absurd h (Nat.not_lt_zero _)
    | succ N ih =>
    intro i H locs ls2 es2 hN hi hP2 hD2 hS2 hC2 hf2 h4 hl2
    obtain ⟨-, b1, b2⟩ := fvx hC2 (k := 34) (a := 0) (b := 1) (by decide +kernel) rfl
    have hc := pa_20
    unfold paRun at hc
    rw [hrw] at hc
    refine zseg (ρ := ρ) (γ := γ) (η := bkE i (zfd es2 56 34)) (sk := []) B1 (nHS _ es2) hc hP2 hD2 hS2 (by
      show lv_has ls2 r.2.2.1 [(0, .ref (ρ 56)), (1, .int (Int32.ofInt (1 * (i : Int) + 0)))]
      rw [Int.one_mul, Int.add_zero]
      exact hl2) (bkE_sat (by omega) (by omega) b1 b2) (bkE_co hC2 h4 _) ?_ (fun _ _ _ _ _ _ _ _ _ _ _ _ h => by cases h)
    intro pc lo sk ca fa nf η3 H3 locs3 ls3 es3 hpc hhk V3
    have hf3 : zfrm paW20 es2 es3 := V3.2.2.2.2.2.2.2.2
    have hh3 := V3.2.2.2.2.2.2.2.1.2.2.2.2
    have hs3 := V3.2.2.2.2.1
    unfold paH20 at hhk
    simp only [Bool.and_eq_true, Bool.or_eq_true] at hhk
    obtain ⟨k1, k2, k3, k4⟩ := hhk
    have hC3 := zCo.flush hs3 V3.2.2.2.2.2.2.2.1 k1 (fun _ => 0)
    have g1 : η3 1 = (i : Int) := V3.2.2.2.2.2.2.1 1 (by decide)
    have g70 : η3 70 = zfd es2 56 34 := V3.2.2.2.2.2.2.1 70 (by decide)
    have f4 : zfd es3 56 4 = 0 := hI_fd hh3 k3 (n := 0) rfl (by decide) (by decide)
    have hf3' : zfrm paW20 es es3 := zfrm.trans (w1 := paW20) hf2 hf3 (by decide)
    rcases k4 with ⟨k4, k5, k6, k7⟩ | ⟨k4, k5, k6, k7, k8⟩
    · have k4 := Nat.eq_of_beq_eq_true k4
      subst k4
      have k5 := skN_ok k5
      subst k5
      obtain ⟨x1, l1, v1⟩ := hI_ok k6
      obtain ⟨w, w0, w1, w2, w3⟩ := hIn_ok hs3 k7
      rw [l1] at w0
      cases w0
      have hx1 : zd η3 x1 = (i : Int) + 1 := by
        rw [v1]
        show 1 * η3 1 + 1 = _
        omega
      refine ih (i + 1) H3 locs3 ls3 es3 (by omega) (by omega) V3.1 V3.2.1 V3.2.2.1 hC3 hf3' f4 ?_
      have hq : lv_has ls3 r.2.2.1 (zdL ρ (bkE (((i + 1 : Nat) : Int)) 0) paL1) := by
        refine lvh V3.2.2.2.1 (fun q9 hq => ?_)
        rcases List.mem_cons.mp hq with e9 | e9
        · rw [e9]; exact ⟨_, hRf_ok k2, rfl⟩
        · rcases List.mem_singleton.mp e9 with rfl
          refine ⟨_, l1, zv_int ?_⟩
          rw [hx1]
          show (i : Int) + 1 = 1 * ((i + 1 : Nat) : Int) + 0
          omega
      have e9 : zdL ρ (bkE (((i + 1 : Nat) : Int)) 0) paL1 = [(0, .ref (ρ 56)), (1, .int (Int32.ofInt ((i + 1 : Nat) : Int)))] := by
        show [(0, Value.ref (ρ 56)), (1, Value.int (Int32.ofInt (1 * ((i + 1 : Nat) : Int) + 0)))] = _
        rw [Int.one_mul, Int.add_zero]
      rw [e9] at hq
      exact hq
    · have k4 := Nat.eq_of_beq_eq_true k4
      subst k4
      have k5 := eHs_ok k5
      subst k5
      obtain ⟨bN, hbN⟩ : ∃ bN : Nat, zfd es2 56 34 = bN := ⟨(zfd es2 56 34).toNat, by omega⟩
      have f36 := hI_fd hh3 k6 (n := 560 * (1 - zfd es2 56 34)) (by show -560 * η3 70 + 560 = _; omega) (by omega) (by omega)
      have f35 := hI_fd hh3 k7 (n := 1 - zfd es2 56 34) (by show -1 * η3 70 + 1 = _; omega) (by omega) (by omega)
      have f61 := hI_ar hh3 k8 (j := 1 - bN) (by show -1 * η3 70 + 1 = _; omega) (n := 0) rfl (by decide) (by decide)
      have hp3 : pN es3 := by
        refine ⟨pM.of (zar_kept hf3' (by decide)) (zar_kept hf3' (by decide)) (zar_kept hf3' (by decide)) hpN.1, fun _ => ?_⟩
        have e9 : (zfd es3 56 35).toNat = 1 - bN := by omega
        rw [e9, f61]
        refine ⟨by omega, by omega, by decide, by decide⟩
      have hc := pa_71
      unfold paRun at hc
      rw [hrw] at hc
      refine zseg (ρ := ρ) (γ := γ) (η := fun _ => 0) (sk := [.inr (.inl (some 56))]) B1 (hsP es3 hp3) hc V3.1 V3.2.1 V3.2.2.1 (hl0 lo η3 ls3 V3.2.2.2.1 k2) ⟨fun _ => ⟨(show (-9223372036854775808 : Int) ≤ 0 by decide), (show (0 : Int) ≤ 9223372036854775807 by decide)⟩, fun q hq => (by cases hq), fun q hq => (by cases hq), fun q hq => (by cases hq)⟩ (show zCo tP ρ γ (fun _ => 0) [] es3 from hC3) ?_ (fun _ _ _ _ _ _ _ _ _ _ _ _ h => by cases h)
      intro pc lo sk ca fa nf η5 H5 locs5 ls5 es5 hpc hhk V5
      have hpc := xmN1 hpc
      subst hpc
      have hf5 : zfrm paWr es3 es5 := V5.2.2.2.2.2.2.2.2
      unfold paH71 at hhk
      simp only [Bool.and_eq_true] at hhk
      obtain ⟨n1, n2, n3⟩ := hhk
      have n3 := skN_ok n3
      subst n3
      exact keyD (aM es5 + 1) H5 locs5 ls5 es5 (Nat.lt_succ_self _) V5.1 V5.2.1 V5.2.2.1 (zCo.flush V5.2.2.2.2.1 V5.2.2.2.2.2.2.2.1 n1 (fun _ => 0)) (zfrm.trans (w1 := 4677 :: paWr) (zfrm_wid hf3' (by decide)) hf5 (by decide)) (hf5.2 (by decide) hp3) (hl0 lo η5 ls5 V5.2.2.2.1 n2)
  -- the start
  have hc := pa_0
  unfold paRun at hc
  rw [hrw] at hc
  refine zseg (ρ := ρ) (γ := γ) (η := fun _ => 0) (sk := []) B1 (nHS _ es) hc hP hD va_S.rf hl ⟨fun _ => ⟨(show (-9223372036854775808 : Int) ≤ 0 by decide), (show (0 : Int) ≤ 9223372036854775807 by decide)⟩, fun q hq => (by cases hq), fun q hq => (by cases hq), fun q hq => (by cases hq)⟩ (show zCo tP ρ γ (fun _ => 0) [] es from hco) ?_ (fun _ _ _ _ _ _ _ _ _ _ _ _ h => by cases h)
  intro pc lo sk ca fa nf η3 H3 locs3 ls3 es3 hpc hhk V3
  have hpc := xmN1 hpc
  subst hpc
  have hf3 : zfrm [3587, 3588, 3589, 4677] es es3 := V3.2.2.2.2.2.2.2.2
  have hh3 := V3.2.2.2.2.2.2.2.1.2.2.2.2
  unfold paH0 at hhk
  simp only [Bool.and_eq_true] at hhk
  obtain ⟨k1, k2, k3, k4, k5⟩ := hhk
  have k3 := skN_ok k3
  subst k3
  obtain ⟨x1, l1, v1⟩ := hI_ok k4
  refine keyB 1601 0 H3 locs3 ls3 es3 (by decide) (by decide) V3.1 V3.2.1 V3.2.2.1 (zCo.flush V3.2.2.2.2.1 V3.2.2.2.2.2.2.2.1 k1 (fun _ => 0)) (zfrm_wid hf3 (by decide)) (hI_fd hh3 k5 (n := 0) rfl (by decide) (by decide)) ?_
  have hq : lv_has ls3 r.2.2.1 (zdL ρ (fun _ => 0) paL1) := by
    refine lvh V3.2.2.2.1 (fun q9 hq => ?_)
    rcases List.mem_cons.mp hq with e9 | e9
    · rw [e9]; exact ⟨_, hRf_ok k2, rfl⟩
    · rcases List.mem_singleton.mp e9 with rfl
      refine ⟨_, l1, zv_int ?_⟩
      rw [v1]
      rfl
  exact hq
theorem so_parish {D : va_G} {l : Launch} : zSO zD0 D l pN sm_parish := so_parishT
