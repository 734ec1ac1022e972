def sm_sure : zSm := (186, (11, 300), [.inr (.inl (some 56)), .inl ((-2147483648), 2147483647), .inl ((-2147483648), 2147483647)], some (.inl ((-1), 40)), fsWr, [], (([], []), [([], [], [])]))
theorem suS11_ok {sk : List zV} (h : suS11 sk = true) : ∃ k : zI, sk = [.inl k, .inr (.inl (some 56))] ∧ zeB k (zsym 2) = true := by
  unfold suS11 at h
  split at h
  · rename_i k o
    rw [Bool.and_eq_true] at h
    obtain ⟨h1, h2⟩ := h
    have h1 := Nat.eq_of_beq_eq_true h1
    subst h1
    exact ⟨k, rfl, h2⟩
  · cases h
theorem suS33_ok {sk : List zV} (h : suS33 sk = true) : ∃ k i : zI, sk = [.inl k, .inl i, .inr (.inl (some 56))] ∧ zeB k (zsym 2) = true ∧ zeB i (zsym 3) = true := by
  unfold suS33 at h
  split at h
  · rename_i k i o
    simp only [Bool.and_eq_true] at h
    obtain ⟨h1, h2, h3⟩ := h
    have h1 := Nat.eq_of_beq_eq_true h1
    subst h1
    exact ⟨k, i, rfl, h2, h3⟩
  · cases h
theorem xpc_186_11 : ∀ r : xR, (gt xmt 186).bind xrow = some r → xfi r.2.2.2.2.2.2.2 11 = some (.invokevirtual 492, 3) := xpcE (by decide +kernel)
theorem xpc_186_33 : ∀ r : xR, (gt xmt 186).bind xrow = some r → xfi r.2.2.2.2.2.2.2 33 = some (.invokevirtual 489, 3) := xpcE (by decide +kernel)
theorem lk_fits : ∃ g1 g2 g3, xfi (xml 11) 492 = some (0, 105, g1, g2, g3) := ⟨_, _, _, rfl⟩
theorem shp_105 : shp 105 1 4 = true := by decide +kernel
set_option maxHeartbeats 16000000 in
theorem so_sureT {D : va_G} {l : Launch} : zSO tF D l pN sm_sure := by
  intro es hpN r hr ρ γ vs sz g hgb hco hao hpre hen her
  have hvs : ∃ w k : Int32, vs = [.ref (ρ 56), .int w, .int k] := by
    match vs, hao with
    | [v1, v2, v3], h =>
      obtain ⟨h1, ⟨w, h2, -⟩, ⟨k, h3, -⟩, -⟩ := h
      exact ⟨w, k, by rw [h1, h2, h3]; rfl⟩
  obtain ⟨w, k, rfl⟩ := hvs
  have wb : -2147483648 ≤ w.toInt ∧ w.toInt ≤ 2147483647 := i32_bd w
  have kb : -2147483648 ≤ k.toInt ∧ k.toInt ≤ 2147483647 := i32_bd k
  have hr : (gt xmt 186).bind xrow = some r := hr
  have hco : zCo zD0 ρ γ (fun _ => 0) [] es := hco
  have ho : r.2.2.2.2.1 = 11 := own_ok (mi := 186) (by decide +kernel) hr
  refine zent (T := tF) (ρ := ρ) hr (by
    show 3 ≤ r.2.2.1
    exact zfl1_cat (sm := sm_sure) (by decide +kernel) r hr) ?_
  intro p e s m below meth c ls hsz B1 hP hD hl hret
  have hrw : ((gt xmt 186).bind xrow).map (fun r => zhR r (11, 300)) = some (zhR r (11, 300)) := by rw [hr]; rfl
  obtain ⟨fs56, h56⟩ := z56
  have hloc2 : ∀ (c d : Int), zdL ρ (qE w.toInt k.toInt c d) suL2 = [(0, .ref (ρ 56)), (1, .int w), (2, .int k)] := fun c d => by
    show [(0, Value.ref (ρ 56)), (1, Value.int (Int32.ofInt (1 * w.toInt + 0))), (2, Value.int (Int32.ofInt (1 * k.toInt + 0)))] = _
    rw [Int.one_mul, Int.add_zero, Int.one_mul, Int.add_zero, i32_of, i32_of]
  have hst : ∀ (lo : zL) (η : zE) (ls3 : Array Slot), lv_has ls3 r.2.2.1 (zdL ρ η lo) → η 1 = w.toInt → η 2 = k.toInt → suSt lo = true → lv_has ls3 r.2.2.1 [(0, .ref (ρ 56)), (1, .int w), (2, .int k)] := by
    intro lo η ls3 h h1 h2 h4
    unfold suSt at h4
    simp only [Bool.and_eq_true] at h4
    obtain ⟨q0, q1, q2⟩ := h4
    obtain ⟨x1, l1, v1⟩ := hI_ok q1
    obtain ⟨x2, l2, v2⟩ := hI_ok q2
    rw [← hloc2 0 0]
    refine lvh h (fun q9 hq => ?_)
    rcases List.mem_cons.mp hq with e9 | hq
    · rw [e9]; exact ⟨_, hRf_ok q0, rfl⟩
    rcases List.mem_cons.mp hq with e9 | hq
    · rw [e9]
      refine ⟨_, l1, zv_int ?_⟩
      rw [v1]; show 1 * η 1 + 0 = 1 * w.toInt + 0; rw [h1]
    rcases List.mem_singleton.mp hq with rfl
    refine ⟨_, l2, zv_int ?_⟩
    rw [v2]; show 1 * η 2 + 0 = 1 * k.toInt + 0; rw [h2]
  have hst3 : ∀ (lo : zL) (η : zE) (ls3 : Array Slot) (v : zI) (y : Int), lv_has ls3 r.2.2.1 (zdL ρ η lo) → η 1 = w.toInt → η 2 = k.toInt → zd η v = y → suSt lo = true → hI (zll lo 3) v = true → lv_has ls3 r.2.2.1 [(0, .ref (ρ 56)), (1, .int w), (2, .int k), (3, .int (Int32.ofInt y))] := by
    intro lo η ls3 v y h h1 h2 h3 h4 q3
    unfold suSt at h4
    simp only [Bool.and_eq_true] at h4
    obtain ⟨q0, q1, q2⟩ := h4
    obtain ⟨x1, l1, v1⟩ := hI_ok q1
    obtain ⟨x2, l2, v2⟩ := hI_ok q2
    obtain ⟨x3, l3, v3⟩ := hI_ok q3
    have e9 := qE_loc (ρ := ρ) (a := w.toInt) (b := k.toInt) (c := y) (d := 0)
    rw [i32_of, i32_of] at e9
    rw [← e9]
    refine lvh h (fun q9 hq => ?_)
    rcases List.mem_cons.mp hq with e9 | hq
    · rw [e9]; exact ⟨_, hRf_ok q0, rfl⟩
    rcases List.mem_cons.mp hq with e9 | hq
    · rw [e9]
      refine ⟨_, l1, zv_int ?_⟩
      rw [v1]; show 1 * η 1 + 0 = 1 * w.toInt + 0; rw [h1]
    rcases List.mem_cons.mp hq with e9 | hq
    · rw [e9]
      refine ⟨_, l2, zv_int ?_⟩
      rw [v2]; show 1 * η 2 + 0 = 1 * k.toInt + 0; rw [h2]
    rcases List.mem_singleton.mp hq with rfl
    refine ⟨_, l3, zv_int ?_⟩
    rw [v3, h3]; show y = 1 * y + 0; omega
  have fin : ∀ (U : zRn) (η0 : zE) (pcs : List Nat) (pc : Nat) (x : zI) (lo : zL) (ca : zCa) (fa : zFa) (nf : Nat) (η5 : zE) (H5 : Heap) (locs5 : List Loc) (ls5 : Array Slot) (es2 es5 : va_W), zIv tF U D ρ γ es2 s (va_A es sz) (zhR r (11, 300), pcs) η0 100 η5 H5 locs5 ls5 lo ca fa nf es5 → zfl tF fa ca = true → zrd η5 (zhR r (11, 300), pcs) pc (some (.inl x)) → zfrm fsWr es es5 → -1 ≤ (zi η5 x).toInt → (zi η5 x).toInt ≤ 40 → W p l e (zrmS (11, 300)) s m [Value.ref (ρ 56), .int w, .int k].toArray below meth c H5 locs5 0 0 (MQ below (zQs tF D ρ γ sm_sure.2.2.2.1 sm_sure.2.2.2.2.1 sm_sure.2.2.2.2.2.2.2 g es sz) [Value.ref (ρ 56), .int w, .int k].toArray s 0 0 (va_A es sz)) (F0 m pc ls5 ((some (.inl x) : Option zV).toList.map (zv ρ η5))) := by
    intro U η0 pcs pc x lo ca fa nf η5 H5 locs5 ls5 es2 es5 V5 q1 hx5 hf5 b1 b2
    exact hret pcs pc (some (.inl x)) η5 H5 locs5 ls5 hx5 V5.2.2.1 (fun t ht hK hF => ⟨⟨_, es5, rfl, ⟨zi η5 x, rfl, b1, b2⟩, by rw [ht]; exact V5.1, hK, V5.2.1, zCo.flush V5.2.2.2.2.1 V5.2.2.2.2.2.2.2.1 q1 _, hf5, _, List.mem_cons_self, g, fun _ _ _ => rfl, ⟨fun q hq => (by cases hq), fun q hq => (by cases hq), fun q hq => (by cases hq)⟩⟩, hF⟩)
  have key : ∀ (N i i0 : Nat) (H : Heap) (locs : List Loc) (ls2 : Array Slot) (es2 : va_W), ((w.toInt = 0 ∧ i ≤ i0 ∧ i0 - i < N) ∨ (w.toInt = 1 ∧ i0 ≤ i ∧ i - i0 < N)) → i ≤ 40 → i0 ≤ 40 → dAll es2 i0 k.toInt → va_P D vwCl es2 H → va_D (va_A es sz) es2 → va_S (va_A es sz) s.heap H locs → zCo zD0 ρ γ (fun _ => 0) [] es2 → zfrm fsWr es es2 → lv_has ls2 r.2.2.1 [(0, .ref (ρ 56)), (1, .int w), (2, .int k), (3, .int (Int32.ofInt (i : Int)))] → W p l e (zrmS (11, 300)) s m [Value.ref (ρ 56), .int w, .int k].toArray below meth c H locs 0 0 (MQ below (zQs tF D ρ γ sm_sure.2.2.2.1 sm_sure.2.2.2.2.1 sm_sure.2.2.2.2.2.2.2 g es sz) [Value.ref (ρ 56), .int w, .int k].toArray s 0 0 (va_A es sz)) (F0 m 30 ls2 []) := by
    intro N
    induction N with
    | zero =>
      intro i i0 H locs ls2 es2 h
      rcases h with ⟨-, -, h⟩ | ⟨-, -, h⟩ <;> exact absurd h (Nat.not_lt_zero _)
    | succ N ih =>
    intro i i0 H locs ls2 es2 hN hi hi0 hall hP2 hD2 hS2 hC2 hf2 hl2
    have hw : 0 ≤ w.toInt ∧ w.toInt ≤ 1 := by rcases hN with ⟨h, -⟩ | ⟨h, -⟩ <;> omega
    have hc := su_30
    unfold suRun at hc
    rw [hrw] at hc
    refine zseg (ρ := ρ) (γ := γ) (η := qE w.toInt k.toInt i 0) (sk := []) B1 (hsF0 es2) hc hP2 hD2 hS2 (by rw [qE_loc, i32_of, i32_of]; exact hl2) (qE_su hw.1 hw.2 kb.1 kb.2 (by omega) (by omega) (by decide) (by decide) (by decide) (by decide)) (zCo.env (show zCo tF ρ γ (fun _ => 0) [] es2 from hC2)) ?_ (fun _ _ _ _ _ _ _ _ _ _ _ _ h => by cases h)
    intro pc lo sk ca fa nf η3 H3 locs3 ls3 es3 hpc hhk V3
    have hpc := xmN1 hpc
    subst hpc
    have hf3 : zfrm [] es2 es3 := V3.2.2.2.2.2.2.2.2
    have hs3 := V3.2.2.2.2.1
    have g1 : η3 1 = w.toInt := V3.2.2.2.2.2.2.1 1 (by decide)
    have g2 : η3 2 = k.toInt := V3.2.2.2.2.2.2.1 2 (by decide)
    have g3 : η3 3 = (i : Int) := V3.2.2.2.2.2.2.1 3 (by decide)
    unfold suH30 at hhk
    simp only [Bool.and_eq_true] at hhk
    obtain ⟨k1, k2, k3, k4⟩ := hhk
    obtain ⟨kk, ii, rfl, z1, z2⟩ := suS33_ok k2
    have hC3 := zCo.flush hs3 V3.2.2.2.2.2.2.2.1 k1 (fun _ => 0)
    have hls3 := hst3 lo η3 ls3 _ (i : Int) V3.2.2.2.1 g1 g2 (by show 1 * η3 3 + 0 = _; omega) k3 k4
    show W p l e (zrmS (11, 300)) s m _ below meth c H3 locs3 0 0 _ (F0 m 33 ls3 ([.int (zi η3 ii), .int (zi η3 kk)].reverse ++ .ref (ρ 56) :: []))
    rw [zi_sym z1, zi_sym z2, g2, g3, i32_of]
    obtain ⟨rr, hr2, o2, na2, ml2⟩ := shp_ok shp_95
    obtain ⟨lk1, lk2, lk3, hlk⟩ := lk_fit
    obtain ⟨-, m1, m2⟩ := fvx hC3 (k := 57) (a := 0) (b := 30) (by decide +kernel) rfl
    obtain ⟨nn, hnn⟩ : ∃ nn : Nat, zfd es3 56 57 = nn := ⟨(zfd es3 56 57).toNat, by omega⟩
    have hM : zHM tF D l 95 (1, 64) ρ γ es3 (.ref (ρ 56) :: [.int (Int32.ofInt i), .int k]) _ := c_fit (D := D) (l := l) (ρ := ρ) (γ := γ) (es := es3) hC3 (i := i) hi k hnn
    refine zcallH (T := tF) (ρ := ρ) (γ := γ) (As := [.int (Int32.ofInt i), .int k]) (rs := []) B1 V3.1 V3.2.1 V3.2.2.1 V3.2.2.2.1.1 hC3 (xpc_186_33 r hr) (link11 (r := zhR r (11, 300)) hlk ho) hr2 (i0 := 56) (fs := fs56) (by rw [o2]; exact h56) (by rw [na2]; rfl) (Nat.zero_le _) (rm := (1, 64)) ⟨by show 1 + 1 ≤ 11; decide, by rw [ml2]; show 8 + (4 + 11) + 64 ≤ 300; decide⟩ hM ?_
    intro v es4 H4 locs4 hP4 hD4 hS4 hC4 hR4
    obtain ⟨x, rfl, hf4, hd4⟩ := hR4
    have hd4 := dFit_1 hnn hd4
    have hxb : 0 ≤ x.toInt ∧ x.toInt ≤ 1 := by rcases hd4 with ⟨h, -⟩ | ⟨h, -⟩ <;> omega
    have hf24 : zfrm [] es2 es4 := zfrm.trans (w1 := []) hf3 hf4 (by decide)
    have hc := su_36
    unfold suRun at hc
    rw [hrw] at hc
    have hsk : (some (Value.int x)).toList ++ [] = [Sum.inl (zsym 4)].map (zv ρ (qE w.toInt k.toInt i x.toInt)) := by
      show [Value.int x] = [Value.int (Int32.ofInt (1 * x.toInt + 0))]
      rw [Int.one_mul, Int.add_zero, i32_of]
    rw [hsk]
    refine zseg (ρ := ρ) (γ := γ) (η := qE w.toInt k.toInt i x.toInt) (sk := [.inl (zsym 4)]) B1 (hsF0 es4) hc hP4 hD4 hS4 (by rw [qE_loc, i32_of, i32_of]; exact hls3) (qE_su hw.1 hw.2 kb.1 kb.2 (by omega) (by omega) hxb.1 hxb.2 (by decide) (by decide)) (zCo.env (show zCo tF ρ γ (fun _ => 0) [] es4 from hC4)) ?_ ?_
    · intro pc lo sk ca fa nf η5 H5 locs5 ls5 es5 hpc hhk V5
      have hpc := xmN1 hpc
      subst hpc
      have hf5 : zfrm [] es4 es5 := V5.2.2.2.2.2.2.2.2
      have g1 : η5 1 = w.toInt := V5.2.2.2.2.2.2.1 1 (by decide)
      have g2 : η5 2 = k.toInt := V5.2.2.2.2.2.2.1 2 (by decide)
      have g3 : η5 3 = (i : Int) := V5.2.2.2.2.2.2.1 3 (by decide)
      have g4 : η5 4 = x.toInt := V5.2.2.2.2.2.2.1 4 (by decide)
      unfold suH36 at hhk
      simp only [Bool.and_eq_true, Bool.or_eq_true] at hhk
      obtain ⟨q1, q2, q3, q4, q5⟩ := hhk
      have q2 := skN_ok q2
      subst q2
      have hC5 := zCo.flush V5.2.2.2.2.1 V5.2.2.2.2.2.2.2.1 q1 (fun _ => 0)
      have hf25 : zfrm [] es2 es5 := zfrm.trans (w1 := []) hf24 hf5 (by decide)
      have hx0 : x.toInt = 0 := by
        obtain ⟨y, y0, y1, y2, y3⟩ := hIn_ok V5.2.2.2.2.1 q4
        cases y0
        have y2 : 1 * η5 4 + 0 ≤ 0 := y2
        omega
      have hne : i ≠ i0 := by
        intro z
        subst z
        rcases hd4 with ⟨h, -⟩ | ⟨-, h⟩
        · omega
        · exact h (dAll_kept hf3 hall)
      have hall5 := dAll_kept hf25 hall
      have hf05 : zfrm fsWr es es5 := zfrm.trans (w1 := fsWr) hf2 hf25 (by decide)
      rcases q5 with ⟨q5, q6⟩ | ⟨q5, q6⟩
      · have hw0 : w.toInt = 0 := by
          obtain ⟨y, y0, y1, y2, y3⟩ := hIn_ok V5.2.2.2.2.1 q5
          cases y0
          have y2 : 1 * η5 1 + 0 ≤ 0 := y2
          omega
        have hlt : i ≤ i0 ∧ i0 - i < N + 1 := by
          rcases hN with ⟨-, h⟩ | ⟨h, -⟩
          · exact h
          · omega
        exact ih (i + 1) i0 H5 locs5 ls5 es5 (Or.inl ⟨hw0, by omega, by omega⟩) (by omega) hi0 hall5 V5.1 V5.2.1 V5.2.2.1 hC5 hf05 (hst3 lo η5 ls5 _ ((i + 1 : Nat) : Int) V5.2.2.2.1 g1 g2 (by show 1 * η5 3 + 1 = _; omega) q3 q6)
      · have hw1 : w.toInt = 1 := by
          obtain ⟨y, y0, y1, y2, y3⟩ := hIn_ok V5.2.2.2.2.1 q5
          cases y0
          have y1 : 1 ≤ 1 * η5 1 + 0 := y1
          omega
        have hlt : i0 ≤ i ∧ i - i0 < N + 1 := by
          rcases hN with ⟨h, -⟩ | ⟨-, h⟩
          · omega
          · exact h
        exact ih (i - 1) i0 H5 locs5 ls5 es5 (Or.inr ⟨hw1, by omega, by omega⟩) (by omega) hi0 hall5 V5.1 V5.2.1 V5.2.2.1 hC5 hf05 (hst3 lo η5 ls5 _ ((i - 1 : Nat) : Int) V5.2.2.2.1 g1 g2 (by show 1 * η5 3 + -1 = _; omega) q3 q6)
    · intro pc v lo ca fa nf η5 H5 locs5 ls5 es5 V5 hfin hx5
      have hf5 : zfrm [] es4 es5 := V5.2.2.2.2.2.2.2.2
      unfold suF36 at hfin
      simp only [Bool.and_eq_true] at hfin
      obtain ⟨q1, q2, -⟩ := hfin
      obtain ⟨y, y0, y1⟩ := hI_ok q2
      subst y0
      have g3 : η5 3 = (i : Int) := V5.2.2.2.2.2.2.1 3 (by decide)
      have hz : (zi η5 y).toInt = i := by
        unfold zi
        rw [y1]
        show (Int32.ofInt (1 * η5 3 + 0)).toInt = _
        rw [g3, Int.one_mul, Int.add_zero]
        exact i32_big (by omega) (by omega)
      exact fin _ _ _ pc y lo ca fa nf η5 H5 locs5 ls5 es4 es5 V5 q1 hx5 (zfrm.trans (w1 := fsWr) (zfrm.trans (w1 := fsWr) hf2 hf24 (by decide)) hf5 (by decide)) (by rw [hz]; omega) (by rw [hz]; omega)
  -- the start
  have hc := su_0
  unfold suRun at hc
  rw [hrw] at hc
  refine zseg (ρ := ρ) (γ := γ) (η := qE w.toInt k.toInt 0 0) (sk := []) B1 (hsF0 es) hc hP hD va_S.rf (by rw [hloc2]; exact hl) (qE_sw wb.1 wb.2 kb.1 kb.2 (by decide) (by decide) (by decide) (by decide)) (zCo.env (show zCo tF ρ γ (fun _ => 0) [] es from hco)) ?_ ?_
  · intro pc lo sk ca fa nf η3 H3 locs3 ls3 es3 hpc hhk V3
    have hpc := xmN1 hpc
    subst hpc
    have hf3 : zfrm [] es es3 := V3.2.2.2.2.2.2.2.2
    have hs3 := V3.2.2.2.2.1
    have g1 : η3 1 = w.toInt := V3.2.2.2.2.2.2.1 1 (by decide)
    have g2 : η3 2 = k.toInt := V3.2.2.2.2.2.2.1 2 (by decide)
    unfold suH0 at hhk
    simp only [Bool.and_eq_true] at hhk
    obtain ⟨k1, k2, k3, k4⟩ := hhk
    obtain ⟨kk, rfl, z1⟩ := suS11_ok k2
    have hC3 := zCo.flush hs3 V3.2.2.2.2.2.2.2.1 k1 (fun _ => 0)
    have hw : 0 ≤ w.toInt ∧ w.toInt ≤ 1 := by
      obtain ⟨y, y0, y1, y2, y3⟩ := hIn_ok hs3 k4
      cases y0
      have y1 : 0 ≤ 1 * η3 1 + 0 := y1
      have y2 : 1 * η3 1 + 0 ≤ 1 := y2
      omega
    have hls3 := hst lo η3 ls3 V3.2.2.2.1 g1 g2 k3
    show W p l e (zrmS (11, 300)) s m _ below meth c H3 locs3 0 0 _ (F0 m 11 ls3 ([.int (zi η3 kk)].reverse ++ .ref (ρ 56) :: []))
    rw [zi_sym z1, g2, i32_of]
    obtain ⟨rr, hr2, o2, na2, ml2⟩ := shp_ok shp_105
    obtain ⟨lk1, lk2, lk3, hlk⟩ := lk_fits
    have hM : zHM tF D l 105 (10, 264) ρ γ es3 (.ref (ρ 56) :: [.int k]) _ := c_fits (D := D) (l := l) (ρ := ρ) (γ := γ) (es := es3) hC3 (hf3.2 (by decide) hpN) k
    refine zcallH (T := tF) (ρ := ρ) (γ := γ) (As := [.int k]) (rs := []) B1 V3.1 V3.2.1 V3.2.2.1 V3.2.2.2.1.1 hC3 (xpc_186_11 r hr) (link11 (r := zhR r (11, 300)) hlk ho) hr2 (i0 := 56) (fs := fs56) (by rw [o2]; exact h56) (by rw [na2]; rfl) (Nat.zero_le _) (rm := (10, 264)) ⟨by show 10 + 1 ≤ 11; decide, by rw [ml2]; show 8 + (4 + 11) + 264 ≤ 300; decide⟩ hM ?_
    intro v es4 H4 locs4 hP4 hD4 hS4 hC4 hR4
    obtain ⟨x, rfl, hf4, hxb, hex⟩ := hR4
    have hf04 : zfrm fsWr es es4 := zfrm.trans (w1 := fsWr) (zfrm_wid hf3 (by decide)) hf4 (by decide)
    have hc := su_14
    unfold suRun at hc
    rw [hrw] at hc
    have hsk : (some (Value.int x)).toList ++ [] = [Sum.inl (zsym 4)].map (zv ρ (qE w.toInt k.toInt 0 x.toInt)) := by
      show [Value.int x] = [Value.int (Int32.ofInt (1 * x.toInt + 0))]
      rw [Int.one_mul, Int.add_zero, i32_of]
    rw [hsk]
    refine zseg (ρ := ρ) (γ := γ) (η := qE w.toInt k.toInt 0 x.toInt) (sk := [.inl (zsym 4)]) B1 (hsF0 es4) hc hP4 hD4 hS4 (by rw [hloc2]; exact hls3) (qE_su hw.1 hw.2 kb.1 kb.2 (by decide) (by decide) hxb.1 hxb.2 (by decide) (by decide)) (zCo.env (show zCo tF ρ γ (fun _ => 0) [] es4 from hC4)) ?_ ?_
    · intro pc lo sk ca fa nf η5 H5 locs5 ls5 es5 hpc hhk V5
      have hpc := xmN1 hpc
      subst hpc
      have hf5 : zfrm [] es4 es5 := V5.2.2.2.2.2.2.2.2
      have g1 : η5 1 = w.toInt := V5.2.2.2.2.2.2.1 1 (by decide)
      have g2 : η5 2 = k.toInt := V5.2.2.2.2.2.2.1 2 (by decide)
      have g4 : η5 4 = x.toInt := V5.2.2.2.2.2.2.1 4 (by decide)
      unfold suH14 at hhk
      simp only [Bool.and_eq_true, Bool.or_eq_true] at hhk
      obtain ⟨q1, q2, q3, q4, q5⟩ := hhk
      have q2 := skN_ok q2
      subst q2
      have hC5 := zCo.flush V5.2.2.2.2.1 V5.2.2.2.2.2.2.2.1 q1 (fun _ => 0)
      have hx1 : 1 ≤ x.toInt := by
        obtain ⟨y, y0, y1, y2, y3⟩ := hIn_ok V5.2.2.2.2.1 q4
        cases y0
        have y1 : 1 ≤ 1 * η5 4 + 0 := y1
        omega
      obtain ⟨i0, hi0, hall⟩ := hex hx1
      have hall5 := dAll_kept hf5 hall
      have hf05 : zfrm fsWr es es5 := zfrm.trans (w1 := fsWr) hf04 hf5 (by decide)
      rcases q5 with ⟨q5, q6⟩ | ⟨q5, q6⟩
      · have hw0 : w.toInt = 0 := by
          obtain ⟨y, y0, y1, y2, y3⟩ := hIn_ok V5.2.2.2.2.1 q5
          cases y0
          have y2 : 1 * η5 1 + 0 ≤ 0 := y2
          omega
        exact key 41 0 i0 H5 locs5 ls5 es5 (Or.inl ⟨hw0, by omega, by omega⟩) (by decide) hi0 hall5 V5.1 V5.2.1 V5.2.2.1 hC5 hf05 (hst3 lo η5 ls5 _ ((0 : Nat) : Int) V5.2.2.2.1 g1 g2 rfl q3 q6)
      · have hw1 : w.toInt = 1 := by
          obtain ⟨y, y0, y1, y2, y3⟩ := hIn_ok V5.2.2.2.2.1 q5
          cases y0
          have y1 : 1 ≤ 1 * η5 1 + 0 := y1
          omega
        exact key 41 40 i0 H5 locs5 ls5 es5 (Or.inr ⟨hw1, by omega, by omega⟩) (by decide) hi0 hall5 V5.1 V5.2.1 V5.2.2.1 hC5 hf05 (hst3 lo η5 ls5 _ ((40 : Nat) : Int) V5.2.2.2.1 g1 g2 rfl q3 q6)
    · intro pc v lo ca fa nf η5 H5 locs5 ls5 es5 V5 hfin hx5
      have hf5 : zfrm [] es4 es5 := V5.2.2.2.2.2.2.2.2
      unfold suF0 at hfin
      rw [Bool.and_eq_true] at hfin
      obtain ⟨q1, q2⟩ := hfin
      obtain ⟨y, y0, y1⟩ := hI_ok q2
      subst y0
      have hz : (zi η5 y).toInt = -1 := by unfold zi; rw [y1]; exact (show (Int32.ofInt (-1)).toInt = -1 by decide)
      exact fin _ _ _ pc y lo ca fa nf η5 H5 locs5 ls5 es4 es5 V5 q1 hx5 (zfrm.trans (w1 := fsWr) hf04 hf5 (by decide)) (by rw [hz]; decide) (by rw [hz]; decide)
  · intro pc v lo ca fa nf η5 H5 locs5 ls5 es5 V5 hfin hx5
    have hf5 : zfrm [] es es5 := V5.2.2.2.2.2.2.2.2
    unfold suF0 at hfin
    rw [Bool.and_eq_true] at hfin
    obtain ⟨q1, q2⟩ := hfin
    obtain ⟨y, y0, y1⟩ := hI_ok q2
    subst y0
    have hz : (zi η5 y).toInt = -1 := by unfold zi; rw [y1]; exact (show (Int32.ofInt (-1)).toInt = -1 by decide)
    exact fin _ _ _ pc y lo ca fa nf η5 H5 locs5 ls5 es es5 V5 q1 hx5 (zfrm_wid hf5 (by decide)) (by rw [hz]; decide) (by rw [hz]; decide)
theorem so_sure {D : va_G} {l : Launch} : zSO zD0 D l pN sm_sure := so_sureT
