theorem fiA_ok {ρ : Nat → Nat} {η : zE} {fa : zFa} {ca : zCa} {es : va_W} (hs : zsat η fa) (hh : zcH ρ η ca es) {a : Nat} {lt up : Bool} (h : fiA fa ca a lt up = true) {j : Nat} (hj : η 3 = (j : Int)) : match lt, up with
    | true, true => η 2 < (zar es a j).toInt
    | false, true => η 2 ≤ (zar es a j).toInt
    | true, false => (zar es a j).toInt < η 2
    | false, false => (zar es a j).toInt ≤ η 2 := by
  unfold fiA at h
  split at h
  rotate_left
  · cases h
  rename_i t e
  rw [Bool.and_eq_true] at h
  obtain ⟨h1, h2⟩ := h
  have e3 : zar es a j = zi η t := cA_ar hs hh e (by show 1 * η 3 + 0 = _; omega)
  have e4 : (zi η t).toInt = zd η t := z32_ok hs h1
  have e5 : zd η (zsym 2) = η 2 := by show 1 * η 2 + 0 = _; omega
  rw [e3, e4]
  cases lt <;> cases up
  · have := zleB_ok hs h2; rw [e5] at this; exact this
  · have := zleB_ok hs h2; rw [e5] at this; exact this
  · have := zlB_ok hs h2; rw [e5] at this; exact this
  · have := zlB_ok hs h2; rw [e5] at this; exact this
theorem fiS63_ok {ρ : Nat → Nat} {η : zE} {fa : zFa} {ca : zCa} {es : va_W} (hs : zsat η fa) (hh : zcH ρ η ca es) {sk : List zV} (h : fiS63 fa ca sk = true) {i j : Nat} (hi : η 1 = (i : Int)) (hj : η 3 = (j : Int)) : ∃ v c : zI, sk = [.inl v, .inl c] ∧ zi η v = zar es 90 j ∧ zi η c = zop 3 (zop 7 (zar es 88 i) (zar es 89 j)) 1 := by
  unfold fiS63 at h
  split at h
  rotate_left
  · cases h
  rename_i v c
  rw [Bool.and_eq_true] at h
  obtain ⟨h1, h⟩ := h
  split at h
  rotate_left
  · cases h
  rename_i a b ea eb
  split at h
  rotate_left
  · cases h
  rename_i q eq
  split at h
  rotate_left
  · cases h
  rename_i q2 eq2
  have e88 : zar es 88 i = zi η a := cA_ar hs hh ea (by show 1 * η 1 + 0 = _; omega)
  have e89 : zar es 89 j = zi η b := cA_ar hs hh eb (by show 1 * η 3 + 0 = _; omega)
  obtain ⟨x, y, e1, e2, e3⟩ := hSm_ok h1
  cases e2
  have e90 : zar es 90 j = zi η x := cA_ar hs hh e1 (by show 1 * η 3 + 0 = _; omega)
  refine ⟨v, c, rfl, ?_, ?_⟩
  · rw [e90]; unfold zi; rw [e3 η]
  · have m1 := zmem_ok hs.2.2.2 eq
    have m2 := zmem_ok hs.2.2.2 eq2
    have e5 : zi η (zsym q) = zop 7 (zi η a) (zi η b) := by
      rw [← m1]
      show Int32.ofInt (1 * η q + 0) = _
      rw [Int.one_mul, Int.add_zero]
    have e6 : zi η c = Int32.ofInt (η q2) := by
      unfold zi
      rw [zeB_ok h]
      show Int32.ofInt (1 * η q2 + 0) = _
      rw [Int.one_mul, Int.add_zero]
    rw [e6, m2, e5, e88, e89]
    rfl
def fE (i k j n : Int) : zE := fun s => if s = 1 then i else if s = 2 then k else if s = 3 then j else if s = 60 then n else 0
theorem fE_sat {i k j n : Int} (i1 : 0 ≤ i) (i2 : i ≤ 40) (k1 : -2147483648 ≤ k) (k2 : k ≤ 2147483647) (j1 : 0 ≤ j) (j2 : j ≤ 30) (n1 : 0 ≤ n) (n2 : n ≤ 30) : zsat (fE i k j n) (fiFs, [], []) := by
  refine ⟨fun s => ?_, fun q hq => ?_, fun q hq => (by cases hq), fun q hq => (by cases hq)⟩
  · unfold fE
    split
    · exact zbd_of (by omega) (by omega)
    split
    · exact zbd_of (by omega) (by omega)
    split
    · exact zbd_of (by omega) (by omega)
    split
    · exact zbd_of (by omega) (by omega)
    exact ⟨by decide, by decide⟩
  rcases List.mem_cons.mp hq with h | h
  · rw [h]; exact ⟨i1, i2, fun _ z => by cases z⟩
  rcases List.mem_cons.mp h with h | h
  · rw [h]; exact ⟨k1, k2, fun _ z => by cases z⟩
  rcases List.mem_cons.mp h with h | h
  · rw [h]; exact ⟨j1, j2, fun _ z => by cases z⟩
  rcases List.mem_singleton.mp h with rfl
  exact ⟨n1, n2, fun _ z => by cases z⟩
theorem fE_co {ρ : Nat → Nat} {γ : Nat → ClassId} {es : va_W} (hco : zCo zD0 ρ γ (fun _ => 0) [] es) (i k j : Int) : zCo zD0 ρ γ (fE i k j (zfd es 56 57)) fiCa es := by
  obtain ⟨v57, -, -⟩ := fvx hco (k := 57) (a := 0) (b := 30) (by decide +kernel) rfl
  have h0 : zCo zD0 ρ γ (fE i k j (zfd es 56 57)) [] es := zCo.env hco
  have nf : ∀ (k2 : Nat) (ix : zI), (Sum.inl k2 : zKy) = .inr ix → 0 ≤ zd (fE i k j (zfd es 56 57)) ix := fun _ _ z => by cases z
  exact zCo.add h0 ⟨fvi v57 rfl, nf _⟩
theorem xpc_95_63 : ∀ r : xR, (gt xmt 95).bind xrow = some r → xfi r.2.2.2.2.2.2.2 63 = some (.if_icmp .eq 5, 3) := xpcE (by decide +kernel)
/-- whether a light fits -/
def dFit (es : va_W) (n i : Nat) (k : Int) (x : Int32) : Prop := (x.toInt = 1 ∧ ∀ j, j < n → dOne es i k j) ∨ (x.toInt = 0 ∧ ∃ j, j < n ∧ ¬ dOne es i k j)
set_option maxHeartbeats 16000000 in
theorem c_fit {D : va_G} {l : Launch} {ρ : Nat → Nat} {γ : Nat → ClassId} {es : va_W} (hco : zCo zD0 ρ γ (fun _ => 0) [] es) {i n : Nat} (hi : i ≤ 40) (k : Int32) (hn : zfd es 56 57 = n) : zHM zD0 D l 95 (1, 64) ρ γ es [.ref (ρ 56), .int (Int32.ofInt i), .int k] (fun v es2 => ∃ x : Int32, v = some (.int x) ∧ zfrm [] es es2 ∧ dFit es n i k.toInt x) := by
  obtain ⟨-, n1, n2⟩ := fvx hco (k := 57) (a := 0) (b := 30) (by decide +kernel) hn
  have kb := i32_bd k
  have kb : -2147483648 ≤ k.toInt ∧ k.toInt ≤ 2147483647 := kb
  intro r hr sz
  refine zent (ρ := ρ) hr (by
    show 3 ≤ r.2.2.1
    exact zfl1_cat (sm := (95, (1, 64), [.inr (.inl (some 56)), .inl (0, 40), .inl (-2147483648, 2147483647)], none, [], [], (([], []), []))) (by decide +kernel) r hr) ?_
  intro p e s m below meth c ls hsz B1 hP hD hl hret
  have hrw : ((gt xmt 95).bind xrow).map (fun r => zhR r (1, 64)) = some (zhR r (1, 64)) := by rw [hr]; rfl
  have hloc : ∀ (j : Int) (n : Int), zdL ρ (fE i k.toInt j n) fiL = [(0, .ref (ρ 56)), (1, .int (Int32.ofInt i)), (2, .int k), (3, .int (Int32.ofInt j))] := fun j n => by
    show [(0, Value.ref (ρ 56)), (1, Value.int (Int32.ofInt (1 * (i : Int) + 0))), (2, Value.int (Int32.ofInt (1 * k.toInt + 0))), (3, Value.int (Int32.ofInt (1 * j + 0)))] = _
    rw [Int.one_mul, Int.add_zero, Int.one_mul, Int.add_zero, Int.one_mul, Int.add_zero, i32_of]
  have hst : ∀ (lo : zL) (η : zE) (ls3 : Array Slot) (v : zI) (j : Int), lv_has ls3 r.2.2.1 (zdL ρ η lo) → η 1 = (i : Int) → η 2 = k.toInt → zd η v = j → fiSt lo v = true → lv_has ls3 r.2.2.1 [(0, .ref (ρ 56)), (1, .int (Int32.ofInt i)), (2, .int k), (3, .int (Int32.ofInt j))] := by
    intro lo η ls3 v j h h1 h2 h3 h4
    unfold fiSt at h4
    simp only [Bool.and_eq_true] at h4
    obtain ⟨q0, q1, q2, q3⟩ := h4
    obtain ⟨x1, l1, v1⟩ := hI_ok q1
    obtain ⟨x2, l2, v2⟩ := hI_ok q2
    obtain ⟨x3, l3, v3⟩ := hI_ok q3
    rw [← hloc j 0]
    refine lvh h (fun q9 hq => ?_)
    rcases List.mem_cons.mp hq with e9 | hq
    · rw [e9]; exact ⟨_, hRf_ok q0, rfl⟩
    rcases List.mem_cons.mp hq with e9 | hq
    · rw [e9]
      refine ⟨_, l1, zv_int ?_⟩
      rw [v1]; show 1 * η 1 + 0 = 1 * (i : Int) + 0; rw [h1]
    rcases List.mem_cons.mp hq with e9 | hq
    · rw [e9]
      refine ⟨_, l2, zv_int ?_⟩
      rw [v2]; show 1 * η 2 + 0 = 1 * k.toInt + 0; rw [h2]
    rcases List.mem_singleton.mp hq with rfl
    refine ⟨_, l3, zv_int ?_⟩
    rw [v3, h3]; show j = 1 * j + 0; omega
  have key : ∀ (N j : Nat) (H : Heap) (locs : List Loc) (ls2 : Array Slot) (es2 : va_W), n - j < N → j ≤ n → (∀ j', j' < j → dOne es i k.toInt j') → va_P D vwCl es2 H → va_D (va_A es sz) es2 → va_S (va_A es sz) s.heap H locs → zCo zD0 ρ γ (fun _ => 0) [] es2 → zfrm [] es es2 → lv_has ls2 r.2.2.1 [(0, .ref (ρ 56)), (1, .int (Int32.ofInt i)), (2, .int k), (3, .int (Int32.ofInt (j : Int)))] → W p l e (zrmS (1, 64)) s m [Value.ref (ρ 56), .int (Int32.ofInt i), .int k].toArray below meth c H locs 0 0 (MQ below (zQh zD0 D ρ γ es sz (fun v es2 => ∃ x : Int32, v = some (.int x) ∧ zfrm [] es es2 ∧ dFit es n i k.toInt x)) [Value.ref (ρ 56), .int (Int32.ofInt i), .int k].toArray s 0 0 (va_A es sz)) (F0 m 2 ls2 []) := by
    intro N
    induction N with
    | zero => intro j H locs ls2 es2 h; exact absurd h (Nat.not_lt_zero _)
    | succ N ih =>
    intro j H locs ls2 es2 hN hj hall hP2 hD2 hS2 hC2 hf2 hl2
    have m57 : zfd es2 56 57 = n := by rw [zfd_kept hf2 (by decide) (by decide)]; exact hn
    have hc := fi_2
    unfold fiRun at hc
    rw [hrw] at hc
    have sat2 := fE_sat (i := i) (k := k.toInt) (j := j) (n := zfd es2 56 57) (by omega) (by omega) kb.1 kb.2 (by omega) (by omega) (by omega) (by omega)
    refine zseg (ρ := ρ) (γ := γ) (η := fE i k.toInt j (zfd es2 56 57)) (sk := []) B1 (noHS0 es2) hc hP2 hD2 hS2 (by rw [hloc]; exact hl2) sat2 (fE_co hC2 _ _ _) ?_ ?_
    · intro pc lo sk ca fa nf η3 H3 locs3 ls3 es3 hpc hhk V3
      have hf3 : zfrm [] es2 es3 := V3.2.2.2.2.2.2.2.2
      have hh3 := V3.2.2.2.2.2.2.2.1.2.2.2.2
      have hs3 := V3.2.2.2.2.1
      have g1 : η3 1 = (i : Int) := V3.2.2.2.2.2.2.1 1 (by decide)
      have g2 : η3 2 = k.toInt := V3.2.2.2.2.2.2.1 2 (by decide)
      have g3 : η3 3 = (j : Int) := V3.2.2.2.2.2.2.1 3 (by decide)
      have g60 : η3 60 = zfd es2 56 57 := V3.2.2.2.2.2.2.1 60 (by decide)
      have hf3' : zfrm [] es es3 := zfrm.trans (w1 := []) hf2 hf3 (by decide)
      have m88 : zar es3 88 = zar es 88 := zar_kept hf3' (by decide)
      have m89 : zar es3 89 = zar es 89 := zar_kept hf3' (by decide)
      have m90 : zar es3 90 = zar es 90 := zar_kept hf3' (by decide)
      have m91 : zar es3 91 = zar es 91 := zar_kept hf3' (by decide)
      have m92 : zar es3 92 = zar es 92 := zar_kept hf3' (by decide)
      unfold fiH2 at hhk
      simp only [Bool.and_eq_true, Bool.or_eq_true] at hhk
      obtain ⟨k1, kj, k4⟩ := hhk
      have hC3 := zCo.flush hs3 V3.2.2.2.2.2.2.2.1 k1 (fun _ => 0)
      have hjn : j < n := by
        have h : 1 * η3 3 + 0 < 1 * η3 60 + 0 := zlB_ok hs3 kj
        omega
      rcases k4 with ⟨k4, k5, k6, k7⟩ | ⟨k4, k5, k6, k7, k8⟩
      · have k4 := Nat.eq_of_beq_eq_true k4
        subst k4
        have k5 := skN_ok k5
        subst k5
        refine ih (j + 1) H3 locs3 ls3 es3 (by omega) (by omega) (fun j' hj' => ?_) V3.1 V3.2.1 V3.2.2.1 hC3 hf3' (hst lo η3 ls3 _ _ V3.2.2.2.1 g1 g2 (by show 1 * η3 3 + 1 = _; omega) k6)
        by_cases z : j' < j
        · exact hall j' z
        · have z : j' = j := by omega
          subst z
          rcases k7 with k7 | ⟨k7, k8⟩
          · have h := fiA_ok hs3 hh3 k7 g3
            have h : η3 2 < (zar es3 91 j').toInt := h
            rw [g2, m91] at h
            exact Or.inl h
          · have h := fiA_ok hs3 hh3 k8 g3
            have h : (zar es3 92 j').toInt ≤ η3 2 := h
            have h2 := (hIn_ar hs3 hh3 k7 (j := j') (by show 1 * η3 3 + 0 = _; omega)).1
            rw [m92] at h h2
            rw [g2] at h
            exact Or.inr (Or.inl ⟨h2, h⟩)
      · have k4 := Nat.eq_of_beq_eq_true k4
        subst k4
        obtain ⟨v, cc, rfl, e1, e2⟩ := fiS63_ok hs3 hh3 k6 g1 g3
        have n1' : ¬ k.toInt < (zar es 91 j).toInt := by
          have h := fiA_ok hs3 hh3 k7 g3
          have h : (zar es3 91 j).toInt ≤ η3 2 := h
          rw [g2, m91] at h
          omega
        have n2' : ¬ (0 ≤ (zar es 92 j).toInt ∧ (zar es 92 j).toInt ≤ k.toInt) := by
          rcases k8 with k8 | k8
          · have h2 := (hIn_ar hs3 hh3 k8 (j := j) (by show 1 * η3 3 + 0 = _; omega)).2
            rw [m92] at h2
            omega
          · have h := fiA_ok hs3 hh3 k8 g3
            have h : η3 2 < (zar es3 92 j).toInt := h
            rw [g2, m92] at h
            omega
        rw [m90] at e1
        rw [m88, m89] at e2
        have hls3 := hst lo η3 ls3 _ (j : Int) V3.2.2.2.1 g1 g2 (by show 1 * η3 3 + 0 = _; omega) k5
        have m57' : zfd es3 56 57 = n := by rw [zfd_kept hf3' (by decide) (by decide)]; exact hn
        have sat3 := fE_sat (i := i) (k := k.toInt) (j := j) (n := zfd es3 56 57) (by omega) (by omega) kb.1 kb.2 (by omega) (by omega) (by omega) (by omega)
        show W p l e (zrmS (1, 64)) s m _ below meth c H3 locs3 0 0 _ (F0 m 63 ls3 (.int (zi η3 v) :: .int (zi η3 cc) :: []))
        rw [e1, e2]
        refine zieqH (tgt := 68) B1 (xpc_95_63 r hr) (by decide) (fun z => ?_) (fun z => ?_)
        · have hc := fi_68
          unfold fiRun at hc
          rw [hrw] at hc
          refine zseg (ρ := ρ) (γ := γ) (η := fE i k.toInt j (zfd es3 56 57)) (sk := []) B1 (noHS0 es3) hc V3.1 V3.2.1 V3.2.2.1 (by rw [hloc]; exact hls3) sat3 (fE_co hC3 _ _ _) ?_ (fun _ _ _ _ _ _ _ _ _ _ _ _ h => by cases h)
          intro pc lo sk ca fa nf η5 H5 locs5 ls5 es5 hpc hhk V5
          have hpc := xmN1 hpc
          subst hpc
          have hf5 : zfrm [] es3 es5 := V5.2.2.2.2.2.2.2.2
          unfold fiH68 at hhk
          simp only [Bool.and_eq_true] at hhk
          obtain ⟨q1, q2, q3⟩ := hhk
          have q2 := skN_ok q2
          subst q2
          have g3 : η5 3 = (j : Int) := V5.2.2.2.2.2.2.1 3 (by decide)
          refine ih (j + 1) H5 locs5 ls5 es5 (by omega) (by omega) (fun j' hj' => ?_) V5.1 V5.2.1 V5.2.2.1 (zCo.flush V5.2.2.2.2.1 V5.2.2.2.2.2.2.2.1 q1 (fun _ => 0)) (zfrm.trans (w1 := []) hf3' hf5 (by decide)) (hst lo η5 ls5 _ _ V5.2.2.2.1 (V5.2.2.2.2.2.2.1 1 (by decide)) (V5.2.2.2.2.2.2.1 2 (by decide)) (by show 1 * η5 3 + 1 = _; omega) q3)
          by_cases z9 : j' < j
          · exact hall j' z9
          · have z9 : j' = j := by omega
            subst z9
            exact Or.inr (Or.inr z)
        · have hc := fi_66
          unfold fiRun at hc
          rw [hrw] at hc
          refine zseg (ρ := ρ) (γ := γ) (η := fE i k.toInt j (zfd es3 56 57)) (sk := []) B1 (noHS0 es3) hc V3.1 V3.2.1 V3.2.2.1 (by rw [hloc]; exact hls3) sat3 (fE_co hC3 _ _ _) (fun _ _ _ _ _ _ _ _ _ _ _ h => by cases h) ?_
          intro pc v lo ca fa nf η5 H5 locs5 ls5 es5 V5 hfin hx5
          have hf5 : zfrm [] es3 es5 := V5.2.2.2.2.2.2.2.2
          unfold fiF66 at hfin
          rw [Bool.and_eq_true] at hfin
          obtain ⟨q1, q2⟩ := hfin
          obtain ⟨w, w0, w1⟩ := hI_ok q2
          subst w0
          have hz : (zi η5 w).toInt = 0 := by unfold zi; rw [w1]; exact (show (Int32.ofInt 0).toInt = 0 by decide)
          exact hret _ pc (some (.inl w)) η5 H5 locs5 ls5 hx5 V5.2.2.1 (fun t ht hK hF => ⟨⟨_, es5, rfl, by rw [ht]; exact V5.1, hK, V5.2.1, zCo.flush V5.2.2.2.2.1 V5.2.2.2.2.2.2.2.1 q1 _, zi η5 w, rfl, zfrm.trans (w1 := []) hf3' hf5 (by decide), Or.inr ⟨hz, j, hjn, fun h => by
            rcases h with h | h | h
            · exact n1' h
            · exact n2' h
            · exact z h⟩⟩, hF⟩)
    · intro pc v lo ca fa nf η5 H5 locs5 ls5 es5 V5 hfin hx5
      have hf5 : zfrm [] es2 es5 := V5.2.2.2.2.2.2.2.2
      unfold fiF2 at hfin
      simp only [Bool.and_eq_true] at hfin
      obtain ⟨q1, q2, q3⟩ := hfin
      obtain ⟨w, w0, w1⟩ := hI_ok q2
      subst w0
      have g3 : η5 3 = (j : Int) := V5.2.2.2.2.2.2.1 3 (by decide)
      have g60 : η5 60 = zfd es2 56 57 := V5.2.2.2.2.2.2.1 60 (by decide)
      have hjn : n ≤ j := by
        have h : 1 * η5 60 + 0 ≤ 1 * η5 3 + 0 := zleB_ok V5.2.2.2.2.1 q3
        omega
      have hz : (zi η5 w).toInt = 1 := by unfold zi; rw [w1]; exact (show (Int32.ofInt 1).toInt = 1 by decide)
      exact hret _ pc (some (.inl w)) η5 H5 locs5 ls5 hx5 V5.2.2.1 (fun t ht hK hF => ⟨⟨_, es5, rfl, by rw [ht]; exact V5.1, hK, V5.2.1, zCo.flush V5.2.2.2.2.1 V5.2.2.2.2.2.2.2.1 q1 _, zi η5 w, rfl, zfrm.trans (w1 := []) hf2 hf5 (by decide), Or.inl ⟨hz, fun j' hj' => hall j' (by omega)⟩⟩, hF⟩)
  have hc := fi_0
  unfold fiRun at hc
  rw [hrw] at hc
  refine zseg (ρ := ρ) (γ := γ) (η := fE i k.toInt 0 (zfd es 56 57)) (sk := []) B1 (noHS0 es) hc hP hD va_S.rf (by
    show lv_has ls r.2.2.1 [(0, Value.ref (ρ 56)), (1, Value.int (Int32.ofInt (1 * (i : Int) + 0))), (2, Value.int (Int32.ofInt (1 * k.toInt + 0)))]
    rw [Int.one_mul, Int.add_zero, Int.one_mul, Int.add_zero, i32_of]
    exact hl) (fE_sat (by omega) (by omega) kb.1 kb.2 (by decide) (by decide) (by omega) (by omega)) (fE_co hco _ _ _) ?_ (fun _ _ _ _ _ _ _ _ _ _ _ _ h => by cases h)
  intro pc lo sk ca fa nf η3 H3 locs3 ls3 es3 hpc hhk V3
  have hpc := xmN1 hpc
  subst hpc
  have hf3 : zfrm [] es es3 := V3.2.2.2.2.2.2.2.2
  unfold fiH0 at hhk
  simp only [Bool.and_eq_true] at hhk
  obtain ⟨q1, q2, q3⟩ := hhk
  have q2 := skN_ok q2
  subst q2
  exact key (n + 1) 0 H3 locs3 ls3 es3 (by omega) (Nat.zero_le _) (fun j' h => absurd h (Nat.not_lt_zero _)) V3.1 V3.2.1 V3.2.2.1 (zCo.flush V3.2.2.2.2.1 V3.2.2.2.2.2.2.2.1 q1 (fun _ => 0)) hf3 (hst lo η3 ls3 _ _ V3.2.2.2.1 (V3.2.2.2.2.2.2.1 1 (by decide)) (V3.2.2.2.2.2.2.1 2 (by decide)) rfl q3)
