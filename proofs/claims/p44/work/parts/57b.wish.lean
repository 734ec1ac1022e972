theorem wE_co {ρ : Nat → Nat} {γ : Nat → ClassId} {es : va_W} (hco : zCo zD0 ρ γ (fun _ => 0) [] es) {k n : Nat} (hk : zfd es 56 34 = k) (hn : (zar es 60 k).toInt = n) (a m x b : Int) : zCo tW ρ γ (wE a m x b k n) wiCa es := by
  obtain ⟨v34, -, -⟩ := fvx hco (k := 34) (a := 0) (b := 1) (by decide +kernel) hk
  have h0 : zCo tW ρ γ (wE a m x b k n) [] es := zCo.env (show zCo tW ρ γ (fun _ => 0) [] es from hco)
  refine zCo.add (zCo.add h0 ⟨?_, fun ix z => ?_⟩) ⟨fvi v34 rfl, fun ix z => by cases z⟩
  · have h1 : zav es 60 k = some (.int (zar es 60 k)) := zavx hco (i := 60) (n := 2) (rs := [(0, 4)]) rfl k
    have h2 : (zd (wE a m x b k n) (zsym 67)).toNat = k := by
      show (1 * (k : Int) + 0).toNat = k
      omega
    show zav es 60 (zd (wE a m x b k n) (zsym 67)).toNat = some (.int (Int32.ofInt (1 * (n : Int) + 0)))
    rw [h2, h1, Int.one_mul, Int.add_zero, ← hn, i32_of]
  · cases z
    show 0 ≤ 1 * (k : Int) + 0
    omega
set_option maxHeartbeats 16000000 in
theorem c_wish {D : va_G} {l : Launch} {ρ : Nat → Nat} {γ : Nat → ClassId} {es : va_W} (hco : zCo zD0 ρ γ (fun _ => 0) [] es) (hpN : pN es) {k n : Nat} (hk : zfd es 56 34 = k) (hk1 : k ≤ 1) (hn : (zar es 60 k).toInt = n) (hn4 : n ≤ 4) (a mk : Int32) (ha : 0 ≤ a.toInt ∧ a.toInt ≤ 5) : zHM tW D l 199 (6, 175) ρ γ es [.ref (ρ 56), .int a, .int mk] (fun v es2 => ∃ x : Int32, v = some (.int x) ∧ zfrm wiWr es es2 ∧ -1 ≤ x.toInt ∧ (0 ≤ x.toInt → x.toInt < n ∧ mBit mk x = 0)) := by
  have mb : -2147483648 ≤ mk.toInt ∧ mk.toInt ≤ 2147483647 := i32_bd mk
  intro r hr sz
  refine zent (ρ := ρ) hr (by
    show 3 ≤ r.2.2.1
    exact zfl1_cat (sm := (199, (6, 175), [.inr (.inl (some 56)), .inl (0, 5), .inl (-2147483648, 2147483647)], none, [], [], (([], []), []))) (by decide +kernel) r hr) ?_
  intro p e s m below meth c ls hsz B1 hP hD hl hret
  have hrw : ((gt xmt 199).bind xrow).map (fun r => zhR r (6, 175)) = some (zhR r (6, 175)) := by rw [hr]; rfl
  have hloc : ∀ (x b kk nn : Int), zdL ρ (wE a.toInt mk.toInt x b kk nn) wiL = [(0, .ref (ρ 56)), (1, .int a), (2, .int mk), (3, .int (Int32.ofInt x)), (4, .int (Int32.ofInt b))] := fun x b kk nn => by
    show [(0, Value.ref (ρ 56)), (1, Value.int (Int32.ofInt (1 * a.toInt + 0))), (2, Value.int (Int32.ofInt (1 * mk.toInt + 0))), (3, Value.int (Int32.ofInt (1 * x + 0))), (4, Value.int (Int32.ofInt (1 * b + 0)))] = _
    simp only [Int.one_mul, Int.add_zero, i32_of]
  have hst : ∀ (lo : zL) (η : zE) (ls3 : Array Slot) (u v : zI) (x b : Int), lv_has ls3 r.2.2.1 (zdL ρ η lo) → η 1 = a.toInt → η 2 = mk.toInt → zd η u = x → zd η v = b → wiSt lo v = true → hI (zll lo 3) u = true → lv_has ls3 r.2.2.1 [(0, .ref (ρ 56)), (1, .int a), (2, .int mk), (3, .int (Int32.ofInt x)), (4, .int (Int32.ofInt b))] := by
    intro lo η ls3 u v x b h h1 h2 h3 h5 h4 q3
    unfold wiSt at h4
    simp only [Bool.and_eq_true] at h4
    obtain ⟨q0, q1, q2, q4⟩ := h4
    obtain ⟨x1, l1, v1⟩ := hI_ok q1
    obtain ⟨x2, l2, v2⟩ := hI_ok q2
    obtain ⟨x3, l3, v3⟩ := hI_ok q3
    obtain ⟨x4, l4, v4⟩ := hI_ok q4
    rw [← hloc x b 0 0]
    refine lvh h (fun q9 hq => ?_)
    rcases List.mem_cons.mp hq with e9 | hq
    · rw [e9]; exact ⟨_, hRf_ok q0, rfl⟩
    rcases List.mem_cons.mp hq with e9 | hq
    · rw [e9]
      refine ⟨_, l1, zv_int ?_⟩
      rw [v1]; show 1 * η 1 + 0 = 1 * a.toInt + 0; rw [h1]
    rcases List.mem_cons.mp hq with e9 | hq
    · rw [e9]
      refine ⟨_, l2, zv_int ?_⟩
      rw [v2]; show 1 * η 2 + 0 = 1 * mk.toInt + 0; rw [h2]
    rcases List.mem_cons.mp hq with e9 | hq
    · rw [e9]
      refine ⟨_, l3, zv_int ?_⟩
      rw [v3, h3]; show x = 1 * x + 0; omega
    rcases List.mem_singleton.mp hq with rfl
    refine ⟨_, l4, zv_int ?_⟩
    rw [v4, h5]; show b = 1 * b + 0; omega
  have stay : ∀ es2 : va_W, zfrm wiWr es es2 → zfd es2 56 34 = k ∧ (zar es2 60 k).toInt = n := fun es2 hf => ⟨by rw [zfd_kept hf (by decide) (by decide)]; exact hk, by rw [zar_kept hf (by decide)]; exact hn⟩
  have key : ∀ (N b : Nat) (x : Int) (H : Heap) (locs : List Loc) (ls2 : Array Slot) (es2 : va_W), n - b < N → b ≤ n → -1 ≤ x → (0 ≤ x → x < n ∧ mBit mk (Int32.ofInt x) = 0) → va_P D vwCl es2 H → va_D (va_A es sz) es2 → va_S (va_A es sz) s.heap H locs → zCo zD0 ρ γ (fun _ => 0) [] es2 → zfrm wiWr es es2 → lv_has ls2 r.2.2.1 [(0, .ref (ρ 56)), (1, .int a), (2, .int mk), (3, .int (Int32.ofInt x)), (4, .int (Int32.ofInt (b : Int)))] → W p l e (zrmS (6, 175)) s m [Value.ref (ρ 56), .int a, .int mk].toArray below meth c H locs 0 0 (MQ below (zQh tW D ρ γ es sz (fun v es2 => ∃ x : Int32, v = some (.int x) ∧ zfrm wiWr es es2 ∧ -1 ≤ x.toInt ∧ (0 ≤ x.toInt → x.toInt < n ∧ mBit mk x = 0))) [Value.ref (ρ 56), .int a, .int mk].toArray s 0 0 (va_A es sz)) (F0 m 5 ls2 []) := by
    intro N
    induction N with
    | zero => intro b x H locs ls2 es2 h; exact absurd h (Nat.not_lt_zero _)
    | succ N ih =>
    intro b x H locs ls2 es2 hN hb hx hxx hP2 hD2 hS2 hC2 hf2 hl2
    have hx3 : x ≤ 3 := by
      by_cases z : 0 ≤ x
      · have := (hxx z).1; omega
      · omega
    obtain ⟨u1, u2⟩ := stay es2 hf2
    have hc := wi_5
    unfold wiRun at hc
    rw [hrw] at hc
    refine zseg (ρ := ρ) (γ := γ) (η := wE a.toInt mk.toInt x b k n) (sk := []) B1 (hsW es2 (hf2.2 (by decide) hpN)) hc hP2 hD2 hS2 (by rw [hloc]; exact hl2) (wE_sat ha.1 ha.2 mb.1 mb.2 hx hx3 (by omega) (by omega) (by omega) (by omega) (by omega) (by omega)) (wE_co hC2 u1 u2 _ _ _ _) ?_ ?_
    · intro pc lo sk ca fa nf η3 H3 locs3 ls3 es3 hpc hhk V3
      have hpc := xmN1 hpc
      subst hpc
      have hf3 : zfrm wiWr es2 es3 := V3.2.2.2.2.2.2.2.2
      have hs3 := V3.2.2.2.2.1
      have g1 : η3 1 = a.toInt := V3.2.2.2.2.2.2.1 1 (by decide)
      have g2 : η3 2 = mk.toInt := V3.2.2.2.2.2.2.1 2 (by decide)
      have g3 : η3 3 = x := V3.2.2.2.2.2.2.1 3 (by decide)
      have g4 : η3 4 = (b : Int) := V3.2.2.2.2.2.2.1 4 (by decide)
      have g68 : η3 68 = (n : Int) := V3.2.2.2.2.2.2.1 68 (by decide)
      unfold wiH5 at hhk
      simp only [Bool.and_eq_true, Bool.or_eq_true] at hhk
      obtain ⟨k1, k2, k3, k4, k5⟩ := hhk
      have k2 := skN_ok k2
      subst k2
      have hC3 := zCo.flush hs3 V3.2.2.2.2.2.2.2.1 k1 (fun _ => 0)
      have hbn : b < n := by
        have h : 1 * η3 4 + 0 < 1 * η3 68 + 0 := zlB_ok hs3 k4
        omega
      have o1 : n - (b + 1) < N := by omega
      have hf3' : zfrm wiWr es es3 := zfrm.trans (w1 := wiWr) hf2 hf3 (by decide)
      rcases k5 with k5 | ⟨k5, k6⟩
      · exact ih (b + 1) x H3 locs3 ls3 es3 o1 hbn hx hxx V3.1 V3.2.1 V3.2.2.1 hC3 hf3' (hst lo η3 ls3 _ _ x ((b + 1 : Nat) : Int) V3.2.2.2.1 g1 g2 (by show 1 * η3 3 + 0 = _; omega) (by show 1 * η3 4 + 1 = _; omega) k3 k5)
      · have hbit := wiBit_ok hs3 k6
        rw [g2, g4, i32_of] at hbit
        exact ih (b + 1) b H3 locs3 ls3 es3 o1 hbn (by omega) (fun _ => ⟨by omega, hbit⟩) V3.1 V3.2.1 V3.2.2.1 hC3 hf3' (hst lo η3 ls3 _ _ (b : Int) ((b + 1 : Nat) : Int) V3.2.2.2.1 g1 g2 (by show 1 * η3 4 + 0 = _; omega) (by show 1 * η3 4 + 1 = _; omega) k3 k5)
    · intro pc v lo ca fa nf η5 H5 locs5 ls5 es5 V5 hfin hx5
      have hf5 : zfrm wiWr es2 es5 := V5.2.2.2.2.2.2.2.2
      unfold wiF5 at hfin
      rw [Bool.and_eq_true] at hfin
      obtain ⟨q1, q2⟩ := hfin
      obtain ⟨y, y0, y1⟩ := hI_ok q2
      subst y0
      have g3 : η5 3 = x := V5.2.2.2.2.2.2.1 3 (by decide)
      have hz : zi η5 y = Int32.ofInt x := by
        unfold zi
        rw [y1]
        show Int32.ofInt (1 * η5 3 + 0) = _
        rw [g3, Int.one_mul, Int.add_zero]
      have hz2 : (zi η5 y).toInt = x := by rw [hz]; exact i32_big (by omega) (by omega)
      exact hret _ pc (some (.inl y)) η5 H5 locs5 ls5 hx5 V5.2.2.1 (fun t ht hK hF => ⟨⟨_, es5, rfl, by rw [ht]; exact V5.1, hK, V5.2.1, zCo.flush V5.2.2.2.2.1 V5.2.2.2.2.2.2.2.1 q1 _, zi η5 y, rfl, zfrm.trans (w1 := wiWr) hf2 hf5 (by decide), by rw [hz2]; exact hx, fun z => by rw [hz2] at z ⊢; rw [hz]; exact hxx z⟩, hF⟩)
  have hc := wi_0
  unfold wiRun at hc
  rw [hrw] at hc
  refine zseg (ρ := ρ) (γ := γ) (η := wE a.toInt mk.toInt 0 0 k n) (sk := []) B1 (hsW es hpN) hc hP hD va_S.rf (by
    show lv_has ls r.2.2.1 [(0, Value.ref (ρ 56)), (1, Value.int (Int32.ofInt (1 * a.toInt + 0))), (2, Value.int (Int32.ofInt (1 * mk.toInt + 0)))]
    rw [Int.one_mul, Int.add_zero, Int.one_mul, Int.add_zero, i32_of, i32_of]
    exact hl) (wE_sat ha.1 ha.2 mb.1 mb.2 (by decide) (by decide) (by decide) (by decide) (by omega) (by omega) (by omega) (by omega)) (wE_co hco hk hn _ _ _ _) ?_ (fun _ _ _ _ _ _ _ _ _ _ _ _ h => by cases h)
  intro pc lo sk ca fa nf η3 H3 locs3 ls3 es3 hpc hhk V3
  have hpc := xmN1 hpc
  subst hpc
  have hf3 : zfrm wiWr es es3 := V3.2.2.2.2.2.2.2.2
  unfold wiH0 at hhk
  simp only [Bool.and_eq_true] at hhk
  obtain ⟨q1, q2, q3, q4⟩ := hhk
  have q2 := skN_ok q2
  subst q2
  exact key (n + 1) 0 (-1) H3 locs3 ls3 es3 (by omega) (Nat.zero_le _) (by decide) (fun z => absurd z (by decide)) V3.1 V3.2.1 V3.2.2.1 (zCo.flush V3.2.2.2.2.1 V3.2.2.2.2.2.2.2.1 q1 (fun _ => 0)) hf3 (hst lo η3 ls3 _ _ _ _ V3.2.2.2.1 (V3.2.2.2.2.2.2.1 1 (by decide)) (V3.2.2.2.2.2.2.1 2 (by decide)) rfl rfl q3 q4)
