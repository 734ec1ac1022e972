theorem zar_rg {ρ : Nat → Nat} {γ : Nat → ClassId} {es : va_W} (hco : zCo zD0 ρ γ (fun _ => 0) [] es) {i n : Nat} {a b : Int} (hi : zdec[i]? = some (.inl (.int, n, [(a, b)]))) {j : Nat} (hj : j < n) : a ≤ (zar es i j).toInt ∧ (zar es i j).toInt ≤ b := by
  obtain ⟨f, h1, h2⟩ := hco.1 i .int n [(a, b)] hi (by decide)
  have hz : zrj [(a, b)] j = (a, b) := by
    unfold zrj
    rw [gt_eq]
    have e7 : j % [(a, b)].length = 0 := Nat.mod_one _
    rw [e7]
    rfl
  unfold zar
  rw [h1]
  rcases h2 j hj with ⟨_, _, h, _⟩ | h
  · cases h
  · rw [hz] at h
    exact h
set_option maxHeartbeats 16000000 in
theorem so_stable {D : va_G} {l : Launch} : zSO zD0 D l pN sm_stable := by
  intro es hpN r hr ρ γ vs sz g hgb hco hao hpre hen her
  have hvs : vs = [.ref (ρ 56)] := by
    match vs, hao with
    | [v1], h =>
      obtain ⟨h1, -⟩ := h
      rw [h1]; rfl
  subst hvs
  have hr : (gt xmt 184).bind xrow = some r := hr
  have ho : r.2.2.2.2.1 = 11 := own_ok (mi := 184) (by decide +kernel) hr
  obtain ⟨x34, -, e34⟩ := fvn hco (k := 34) (a := 0) (b := 1) (by decide +kernel)
  obtain ⟨-, b34, b34'⟩ := fvx hco (k := 34) (a := 0) (b := 1) (by decide +kernel) e34
  obtain ⟨k, hk0⟩ : ∃ k : Nat, x34.toInt = k := ⟨x34.toInt.toNat, by omega⟩
  have hk : zfd es 56 34 = k := by rw [e34, hk0]
  have hk1 : k ≤ 1 := by omega
  obtain ⟨rn1, rn2⟩ := zar_rg hco (i := 60) (n := 2) (a := 0) (b := 4) rfl (j := k) (by omega)
  obtain ⟨n, hn⟩ : ∃ n : Nat, (zar es 60 k).toInt = n := ⟨(zar es 60 k).toInt.toNat, by omega⟩
  have hn4 : n ≤ 4 := by omega
  obtain ⟨rw1, rw2⟩ := zar_rg hco (i := 59) (n := 2) (a := 0) (b := 6) rfl (j := k) (by omega)
  obtain ⟨w, hw⟩ : ∃ w : Nat, (zar es 59 k).toInt = w := ⟨(zar es 59 k).toInt.toNat, by omega⟩
  have hw6 : w ≤ 6 := by omega
  refine zent (T := zD0) (ρ := ρ) hr (by
    show 1 ≤ r.2.2.1
    exact zfl1_cat (sm := sm_stable) (by decide +kernel) r hr) ?_
  intro p e s m below meth c ls hsz B1 hP hD hl hret
  have hrw : ((gt xmt 184).bind xrow).map (fun r => zhR r (8, 240)) = some (zhR r (8, 240)) := by rw [hr]; rfl
  obtain ⟨fs56, h56⟩ := z56
  have stay : ∀ es2 : va_W, zfrm (4677 :: stWr) es es2 → zfd es2 56 34 = k ∧ (zar es2 60 k).toInt = n ∧ (zar es2 59 k).toInt = w := fun es2 hf => ⟨by rw [zfd_kept hf (by decide) (by decide)]; exact hk, by rw [zar_kept hf (by decide)]; exact hn, by rw [zar_kept hf (by decide)]; exact hw⟩
  have hl0 : ∀ (lo : zL) (η : zE) (ls3 : Array Slot), lv_has ls3 r.2.2.1 (zdL ρ η lo) → hRf (zll lo 0) 56 = true → lv_has ls3 r.2.2.1 [(0, .ref (ρ 56))] := by
    intro lo η ls3 h1 h2
    refine lvh h1 (tm := [(0, .inr (.inl (some 56)))]) (η := fun _ => 0) (fun q hq => ?_)
    rcases List.mem_singleton.mp hq with rfl
    exact ⟨_, hRf_ok h2, rfl⟩
  have hl1 : ∀ (lo : zL) (η : zE) (ls3 : Array Slot) (v : zI) (y : Int), lv_has ls3 r.2.2.1 (zdL ρ η lo) → zd η v = y → hRf (zll lo 0) 56 = true → hI (zll lo 1) v = true → lv_has ls3 r.2.2.1 [(0, .ref (ρ 56)), (1, .int (Int32.ofInt y))] := by
    intro lo η ls3 v y h1 h3 h2 h4
    obtain ⟨x1, l1, v1⟩ := hI_ok h4
    have e9 : zdL ρ (aE y 0 0 0 0 0 0) asL1 = [(0, .ref (ρ 56)), (1, .int (Int32.ofInt y))] := by
      show [(0, Value.ref (ρ 56)), (1, Value.int (Int32.ofInt (1 * y + 0)))] = _
      rw [Int.one_mul, Int.add_zero]
    rw [← e9]
    refine lvh h1 (fun q hq => ?_)
    rcases List.mem_cons.mp hq with e9 | hq
    · rw [e9]; exact ⟨_, hRf_ok h2, rfl⟩
    rcases List.mem_singleton.mp hq with rfl
    refine ⟨_, l1, zv_int ?_⟩
    rw [v1, h3]; show y = 1 * y + 0; omega
  have loc2 : ∀ (i cc j kk nn ww : Int), zdL ρ (aE i cc j 0 kk nn ww) stL2 = [(0, .ref (ρ 56)), (2, .int (Int32.ofInt cc)), (3, .int (Int32.ofInt i))] := by
    intro i cc j kk nn ww
    show [(0, Value.ref (ρ 56)), (2, Value.int (Int32.ofInt (1 * cc + 0))), (3, Value.int (Int32.ofInt (1 * i + 0)))] = _
    rw [Int.one_mul, Int.add_zero, Int.one_mul, Int.add_zero]
  have loc3 : ∀ (i cc j kk nn ww : Int), zdL ρ (aE i cc j 0 kk nn ww) stL3 = [(0, .ref (ρ 56)), (2, .int (Int32.ofInt cc)), (3, .int (Int32.ofInt i)), (4, .int (Int32.ofInt j))] := by
    intro i cc j kk nn ww
    show [(0, Value.ref (ρ 56)), (2, Value.int (Int32.ofInt (1 * cc + 0))), (3, Value.int (Int32.ofInt (1 * i + 0))), (4, Value.int (Int32.ofInt (1 * j + 0)))] = _
    rw [Int.one_mul, Int.add_zero, Int.one_mul, Int.add_zero, Int.one_mul, Int.add_zero]
  have hl2 : ∀ (lo : zL) (η : zE) (ls3 : Array Slot) (u v : zI) (x y : Int), lv_has ls3 r.2.2.1 (zdL ρ η lo) → zd η u = x → zd η v = y → stSt lo u v = true → lv_has ls3 r.2.2.1 [(0, .ref (ρ 56)), (2, .int (Int32.ofInt x)), (3, .int (Int32.ofInt y))] := by
    intro lo η ls3 u v x y h1 hx hy h4
    unfold stSt at h4
    simp only [Bool.and_eq_true] at h4
    obtain ⟨q0, q1, q2⟩ := h4
    obtain ⟨x1, l1, v1⟩ := hI_ok q1
    obtain ⟨x2, l2, v2⟩ := hI_ok q2
    rw [← loc2 y x 0 0 0 0]
    refine lvh h1 (fun q9 hq => ?_)
    rcases List.mem_cons.mp hq with e9 | hq
    · rw [e9]; exact ⟨_, hRf_ok q0, rfl⟩
    rcases List.mem_cons.mp hq with e9 | hq
    · rw [e9]
      refine ⟨_, l1, zv_int ?_⟩
      rw [v1, hx]; show x = 1 * x + 0; omega
    rcases List.mem_singleton.mp hq with rfl
    refine ⟨_, l2, zv_int ?_⟩
    rw [v2, hy]; show y = 1 * y + 0; omega
  have hl3 : ∀ (lo : zL) (η : zE) (ls3 : Array Slot) (u v t : zI) (x y z : Int), lv_has ls3 r.2.2.1 (zdL ρ η lo) → zd η u = x → zd η v = y → zd η t = z → stSt lo u v = true → hI (zll lo 4) t = true → lv_has ls3 r.2.2.1 [(0, .ref (ρ 56)), (2, .int (Int32.ofInt x)), (3, .int (Int32.ofInt y)), (4, .int (Int32.ofInt z))] := by
    intro lo η ls3 u v t x y z h1 hx hy hz h4 h5
    unfold stSt at h4
    simp only [Bool.and_eq_true] at h4
    obtain ⟨q0, q1, q2⟩ := h4
    obtain ⟨x1, l1, v1⟩ := hI_ok q1
    obtain ⟨x2, l2, v2⟩ := hI_ok q2
    obtain ⟨x3, l3, v3⟩ := hI_ok h5
    rw [← loc3 y x z 0 0 0]
    refine lvh h1 (fun q9 hq => ?_)
    rcases List.mem_cons.mp hq with e9 | hq
    · rw [e9]; exact ⟨_, hRf_ok q0, rfl⟩
    rcases List.mem_cons.mp hq with e9 | hq
    · rw [e9]
      refine ⟨_, l1, zv_int ?_⟩
      rw [v1, hx]; show x = 1 * x + 0; omega
    rcases List.mem_cons.mp hq with e9 | hq
    · rw [e9]
      refine ⟨_, l2, zv_int ?_⟩
      rw [v2, hy]; show y = 1 * y + 0; omega
    rcases List.mem_singleton.mp hq with rfl
    refine ⟨_, l3, zv_int ?_⟩
    rw [v3, hz]; show z = 1 * z + 0; omega
  -- the rest: from 59 on
  have keyO : ∀ (N i cc : Nat) (H : Heap) (locs : List Loc) (ls2 : Array Slot) (es2 : va_W), w - i < N → i ≤ w → cc ≤ i → va_P D vwCl es2 H → va_D (va_A es sz) es2 → va_S (va_A es sz) s.heap H locs → zCo zD0 ρ γ (fun _ => 0) [] es2 → zfrm (4677 :: stWr) es es2 → pN es2 → lv_has ls2 r.2.2.1 [(0, .ref (ρ 56)), (2, .int (Int32.ofInt (cc : Int))), (3, .int (Int32.ofInt (i : Int)))] → W p l e (zrmS (8, 240)) s m [Value.ref (ρ 56)].toArray below meth c H locs 0 0 (MQ below (zQs zD0 D ρ γ sm_stable.2.2.2.1 sm_stable.2.2.2.2.1 sm_stable.2.2.2.2.2.2.2 g es sz) [Value.ref (ρ 56)].toArray s 0 0 (va_A es sz)) (F0 m 59 ls2 []) := by
    intro N
    induction N with
    | zero => intro i cc H locs ls2 es2 h; exact absurd h (Nat.not_lt_zero _)
    | succ N ihO =>
    intro i cc H locs ls2 es2 hN hi hcc hP2 hD2 hS2 hC2 hf2 hp2 hll2
    have keyI : i < w → ∀ (M j : Nat) (H : Heap) (locs : List Loc) (ls2 : Array Slot) (es2 : va_W), n - j < M → j ≤ n → va_P D vwCl es2 H → va_D (va_A es sz) es2 → va_S (va_A es sz) s.heap H locs → zCo zD0 ρ γ (fun _ => 0) [] es2 → zfrm (4677 :: stWr) es es2 → pN es2 → lv_has ls2 r.2.2.1 [(0, .ref (ρ 56)), (2, .int (Int32.ofInt (cc : Int))), (3, .int (Int32.ofInt (i : Int))), (4, .int (Int32.ofInt (j : Int)))] → W p l e (zrmS (8, 240)) s m [Value.ref (ρ 56)].toArray below meth c H locs 0 0 (MQ below (zQs zD0 D ρ γ sm_stable.2.2.2.1 sm_stable.2.2.2.2.1 sm_stable.2.2.2.2.2.2.2 g es sz) [Value.ref (ρ 56)].toArray s 0 0 (va_A es sz)) (F0 m 77 ls2 []) := by
      intro hiw M
      have hnx : w - (i + 1) < N := by omega
      induction M with
      | zero => intro j H locs ls2 es2 h; exact absurd h (Nat.not_lt_zero _)
      | succ M ihI =>
      intro j H locs ls2 es2 hM hj hP2 hD2 hS2 hC2 hf2 hp2 hll2
      obtain ⟨u1, u2, u3⟩ := stay es2 hf2
      have hc := st_77
      unfold stRun at hc
      rw [hrw] at hc
      refine zseg (ρ := ρ) (γ := γ) (η := aE i cc j 0 k n w) (sk := []) B1 (noHS0 es2) hc hP2 hD2 hS2 (by rw [loc3]; exact hll2) (stE_sat (by decide) (by omega) (by omega) (by omega) (by omega) (by omega) (by omega) (by omega) (by omega) (by omega) (by omega) (by omega) (by omega)) (aE_co hC2 u1 u2 u3 _ _ _ _) ?_ (fun _ _ _ _ _ _ _ _ _ _ _ _ h => by cases h)
      intro pc lo sk ca fa nf η3 H3 locs3 ls3 es3 hpc hhk V3
      have hf3 : zfrm [5440] es2 es3 := V3.2.2.2.2.2.2.2.2
      have hs3 := V3.2.2.2.2.1
      have g1 : η3 1 = (i : Int) := V3.2.2.2.2.2.2.1 1 (by decide)
      have g2 : η3 2 = (cc : Int) := V3.2.2.2.2.2.2.1 2 (by decide)
      have g3 : η3 3 = (j : Int) := V3.2.2.2.2.2.2.1 3 (by decide)
      have g68 : η3 68 = (n : Int) := V3.2.2.2.2.2.2.1 68 (by decide)
      have hf3' : zfrm (4677 :: stWr) es es3 := zfrm.trans (w1 := 4677 :: stWr) hf2 hf3 (by decide)
      have hp3 : pN es3 := hf3.2 (by decide) hp2
      unfold stH77 at hhk
      simp only [Bool.and_eq_true, Bool.or_eq_true] at hhk
      obtain ⟨k1, k2, k4⟩ := hhk
      have k2 := skN_ok k2
      subst k2
      have hC3 := zCo.flush hs3 V3.2.2.2.2.2.2.2.1 k1 (fun _ => 0)
      rcases k4 with ⟨k4, k5, k6, k7⟩ | ⟨k4, k5⟩
      · have k4 := Nat.eq_of_beq_eq_true k4
        subst k4
        have hjn : j < n := by
          have h : 1 * η3 3 + 0 < 1 * η3 68 + 0 := zlB_ok hs3 k7
          omega
        have o1 : n - (j + 1) < M := by omega
        exact ihI (j + 1) H3 locs3 ls3 es3 o1 hjn V3.1 V3.2.1 V3.2.2.1 hC3 hf3' hp3 (hl3 lo η3 ls3 _ _ _ (cc : Int) (i : Int) ((j + 1 : Nat) : Int) V3.2.2.2.1 (by show 1 * η3 2 + 0 = _; omega) (by show 1 * η3 1 + 0 = _; omega) (by show 1 * η3 3 + 1 = _; omega) k5 k6)
      · have k4 := Nat.eq_of_beq_eq_true k4
        subst k4
        rcases k5 with k5 | k5
        · exact ihO (i + 1) cc H3 locs3 ls3 es3 hnx hiw (by omega) V3.1 V3.2.1 V3.2.2.1 hC3 hf3' hp3 (hl2 lo η3 ls3 _ _ (cc : Int) ((i + 1 : Nat) : Int) V3.2.2.2.1 (by show 1 * η3 2 + 0 = _; omega) (by show 1 * η3 1 + 1 = _; omega) k5)
        · exact ihO (i + 1) (cc + 1) H3 locs3 ls3 es3 hnx hiw (by omega) V3.1 V3.2.1 V3.2.2.1 hC3 hf3' hp3 (hl2 lo η3 ls3 _ _ ((cc + 1 : Nat) : Int) ((i + 1 : Nat) : Int) V3.2.2.2.1 (by show 1 * η3 2 + 1 = _; omega) (by show 1 * η3 1 + 1 = _; omega) k5)
    obtain ⟨u1, u2, u3⟩ := stay es2 hf2
    have hc := st_59
    unfold stRun at hc
    rw [hrw] at hc
    refine zseg (ρ := ρ) (γ := γ) (η := aE i cc 0 0 k n w) (sk := []) B1 (noHS0 es2) hc hP2 hD2 hS2 (by rw [loc2]; exact hll2) (stE_sat (by decide) (by omega) (by omega) (by omega) (by omega) (by decide) (by decide) (by omega) (by omega) (by omega) (by omega) (by omega) (by omega)) (aE_co hC2 u1 u2 u3 _ _ _ _) ?_ ?_
    · intro pc lo sk ca fa nf η3 H3 locs3 ls3 es3 hpc hhk V3
      have hpc := xmN1 hpc
      subst hpc
      have hf3 : zfrm [3633, 5440] es2 es3 := V3.2.2.2.2.2.2.2.2
      have g1 : η3 1 = (i : Int) := V3.2.2.2.2.2.2.1 1 (by decide)
      have g2 : η3 2 = (cc : Int) := V3.2.2.2.2.2.2.1 2 (by decide)
      have g69 : η3 69 = (w : Int) := V3.2.2.2.2.2.2.1 69 (by decide)
      unfold stH59 at hhk
      simp only [Bool.and_eq_true] at hhk
      obtain ⟨q1, q2, q3, q4, q5⟩ := hhk
      have q2 := skN_ok q2
      subst q2
      have hiw : i < w := by
        have h : 1 * η3 1 + 0 < 1 * η3 69 + 0 := zlB_ok V3.2.2.2.2.1 q5
        omega
      exact keyI hiw (n + 1) 0 H3 locs3 ls3 es3 (by omega) (Nat.zero_le _) V3.1 V3.2.1 V3.2.2.1 (zCo.flush V3.2.2.2.2.1 V3.2.2.2.2.2.2.2.1 q1 (fun _ => 0)) (zfrm.trans (w1 := 4677 :: stWr) hf2 hf3 (by decide)) (hf3.2 (by decide) hp2) (hl3 lo η3 ls3 _ _ _ (cc : Int) (i : Int) ((0 : Nat) : Int) V3.2.2.2.1 (by show 1 * η3 2 + 0 = _; omega) (by show 1 * η3 1 + 0 = _; omega) rfl q3 q4)
    · intro pc v lo ca fa nf η5 H5 locs5 ls5 es5 V5 hfin hx5
      have hf5 : zfrm [3633, 5440] es2 es5 := V5.2.2.2.2.2.2.2.2
      have g2 : η5 2 = (cc : Int) := V5.2.2.2.2.2.2.1 2 (by decide)
      unfold stF59 at hfin
      rw [Bool.and_eq_true] at hfin
      obtain ⟨q1, q2⟩ := hfin
      obtain ⟨y, y0, y1⟩ := hI_ok q2
      subst y0
      have hy : zi η5 y = Int32.ofInt (cc : Int) := by
        unfold zi
        rw [y1]
        show Int32.ofInt (1 * η5 2 + 0) = _
        rw [Int.one_mul, Int.add_zero, g2]
      have hcI : (Int32.ofInt (cc : Int)).toInt = cc := i32_big (by omega) (by omega)
      have hC5 := zCo.flush V5.2.2.2.2.1 V5.2.2.2.2.2.2.2.1 q1 (fun _ => 0)
      have hfr : zfrm stWr es es5 := zfrm_drop (zfrm.trans (w1 := 4677 :: stWr) hf2 hf5 (by decide)) (zct73 (T := zD0) hco) (zct73 (T := zD0) hC5) (fun _ => hf5.2 (by decide) hp2)
      exact hret _ pc (some (.inl y)) η5 H5 locs5 ls5 hx5 V5.2.2.1 (fun t ht hK hF => ⟨⟨_, es5, rfl, ⟨zi η5 y, rfl, by rw [hy, hcI]; omega, by rw [hy, hcI]; omega⟩, by rw [ht]; exact V5.1, hK, V5.2.1, hC5, hfr, _, List.mem_cons_self, g, fun _ _ _ => rfl, ⟨fun q hq => (by cases hq), fun q hq => (by cases hq), fun q hq => (by cases hq)⟩⟩, hF⟩)
  -- the loop at 43
  have key43 : ∀ (N : Nat) (x : Nat) (H : Heap) (locs : List Loc) (ls2 : Array Slot) (es2 : va_W), (x = 0 ∨ (x = 1 ∧ kG n (zar es2 86) (zar es2 87) ∧ kMu (zar es2 86) (zar es2 87) < N)) → va_P D vwCl es2 H → va_D (va_A es sz) es2 → va_S (va_A es sz) s.heap H locs → zCo zD0 ρ γ (fun _ => 0) [] es2 → zfrm (4677 :: stWr) es es2 → pN es2 → lv_has ls2 r.2.2.1 [(0, .ref (ρ 56)), (1, .int (Int32.ofInt (x : Int)))] → W p l e (zrmS (8, 240)) s m [Value.ref (ρ 56)].toArray below meth c H locs 0 0 (MQ below (zQs zD0 D ρ γ sm_stable.2.2.2.1 sm_stable.2.2.2.2.1 sm_stable.2.2.2.2.2.2.2 g es sz) [Value.ref (ρ 56)].toArray s 0 0 (va_A es sz)) (F0 m 43 ls2 []) := by
    intro N
    induction N using Nat.strongRecOn with
    | ind N ih =>
    intro x H locs ls2 es2 hx hP2 hD2 hS2 hC2 hf2 hp2 hll2
    have hx1 : x ≤ 1 := by rcases hx with h | ⟨h, -, -⟩ <;> omega
    obtain ⟨u1, u2, u3⟩ := stay es2 hf2
    have hc := st_43
    unfold stRun at hc
    rw [hrw] at hc
    have loc1 : ∀ y : Int, zdL ρ (aE y 0 0 0 0 0 0) asL1 = [(0, .ref (ρ 56)), (1, .int (Int32.ofInt y))] := by
      intro y
      show [(0, Value.ref (ρ 56)), (1, Value.int (Int32.ofInt (1 * y + 0)))] = _
      rw [Int.one_mul, Int.add_zero]
    refine zseg (ρ := ρ) (γ := γ) (η := aE x 0 0 0 0 0 0) (sk := []) B1 (noHS0 es2) hc hP2 hD2 hS2 (by rw [loc1]; exact hll2) (st1_sat (by decide) (by omega) (by omega)) (zCo.env hC2) ?_ (fun _ _ _ _ _ _ _ _ _ _ _ _ h => by cases h)
    intro pc lo sk ca fa nf η3 H3 locs3 ls3 es3 hpc hhk V3
    have hf3 : zfrm [] es2 es3 := V3.2.2.2.2.2.2.2.2
    have hs3 := V3.2.2.2.2.1
    have g1 : η3 1 = (x : Int) := V3.2.2.2.2.2.2.1 1 (by decide)
    have hf3' : zfrm (4677 :: stWr) es es3 := zfrm.trans (w1 := 4677 :: stWr) hf2 hf3 (by decide)
    have hp3 : pN es3 := hf3.2 (by decide) hp2
    unfold stH43 at hhk
    simp only [Bool.and_eq_true, Bool.or_eq_true] at hhk
    obtain ⟨k1, k2, k4⟩ := hhk
    have hC3 := zCo.flush hs3 V3.2.2.2.2.2.2.2.1 k1 (fun _ => 0)
    rcases k4 with ⟨k4, k5, k6⟩ | ⟨k4, k5, k6, k7⟩
    · have k4 := Nat.eq_of_beq_eq_true k4
      subst k4
      have k5 := stS48_ok k5
      subst k5
      have hx0 : x = 1 := by
        obtain ⟨y, y0, y1, y2, y3⟩ := hIn_ok hs3 k6
        cases y0
        have y1 : 1 ≤ 1 * η3 1 + 0 := y1
        omega
      have hx2 : kG n (zar es2 86) (zar es2 87) ∧ kMu (zar es2 86) (zar es2 87) < N := by
        rcases hx with h | ⟨-, h⟩
        · omega
        · exact h
      obtain ⟨hG2, hM2⟩ := hx2
      rw [← zar_kept hf3 (i := 86) (by decide), ← zar_kept hf3 (i := 87) (by decide)] at hG2 hM2
      obtain ⟨r1, r2, r3⟩ := stay es3 hf3'
      have hls3 := hl0 lo η3 ls3 V3.2.2.2.1 k2
      obtain ⟨rr, hr2, o2, na2, ml2⟩ := shp_ok shp_125
      obtain ⟨lk1, lk2, lk3, hlk⟩ := lk_ask
      have hM : zHM zD0 D l 125 (7, 210) ρ γ es3 (.ref (ρ 56) :: []) _ := c_ask (D := D) (l := l) (ρ := ρ) (γ := γ) (es := es3) hC3 hp3 r1 hk1 r2 hn4 r3 hw6 hG2
      show W p l e (zrmS (8, 240)) s m _ below meth c H3 locs3 0 0 _ (F0 m 48 ls3 (([] : List Value).reverse ++ .ref (ρ 56) :: []))
      refine zcallH (T := zD0) (ρ := ρ) (γ := γ) (As := []) (rs := []) B1 V3.1 V3.2.1 V3.2.2.1 V3.2.2.2.1.1 hC3 (xpc_184_48 r hr) (link11 (r := zhR r (8, 240)) hlk ho) hr2 (i0 := 56) (fs := fs56) (by rw [o2]; exact h56) (by rw [na2]; rfl) (Nat.zero_le _) (rm := (7, 210)) ⟨by show 7 + 1 ≤ 8; decide, by rw [ml2]; show 8 + (4 + 11) + 210 ≤ 240; decide⟩ hM ?_
      intro v es4 H4 locs4 hP4 hD4 hS4 hC4 hR4
      obtain ⟨y, rfl, hf4, hp4, hy⟩ := hR4
      have hf4' : zfrm (4677 :: stWr) es es4 := zfrm.trans (w1 := 4677 :: stWr) hf3' hf4 (by decide)
      obtain ⟨z, hz⟩ : ∃ z : Nat, y.toInt = z := ⟨y.toInt.toNat, by rcases hy with h | ⟨h, -⟩ <;> omega⟩
      have hz1 : z ≤ 1 := by rcases hy with h | ⟨h, -⟩ <;> omega
      have hy2 : z = 0 ∨ (z = 1 ∧ kG n (zar es4 86) (zar es4 87) ∧ kMu (zar es4 86) (zar es4 87) < kMu (zar es3 86) (zar es3 87)) := by
        rcases hy with h | ⟨h, h2⟩
        · exact Or.inl (by omega)
        · exact Or.inr ⟨by omega, h2⟩
      have hc := st_51
      unfold stRun at hc
      rw [hrw] at hc
      have hsk : (some (Value.int y)).toList ++ [] = [Sum.inl (zsym 1)].map (zv ρ (aE z 0 0 0 0 0 0)) := by
        show [Value.int y] = [Value.int (Int32.ofInt (1 * (z : Int) + 0))]
        rw [Int.one_mul, Int.add_zero, ← hz, i32_of]
      rw [hsk]
      refine zseg (ρ := ρ) (γ := γ) (η := aE z 0 0 0 0 0 0) (sk := [.inl (zsym 1)]) B1 (noHS0 es4) hc hP4 hD4 hS4 hls3 (st1_sat (by decide) (by omega) (by omega)) (zCo.env hC4) ?_ (fun _ _ _ _ _ _ _ _ _ _ _ _ h => by cases h)
      intro pc lo sk ca fa nf η5 H5 locs5 ls5 es5 hpc hhk V5
      have hpc := xmN1 hpc
      subst hpc
      have hf5 : zfrm [] es4 es5 := V5.2.2.2.2.2.2.2.2
      have d1 : η5 1 = (z : Int) := V5.2.2.2.2.2.2.1 1 (by decide)
      unfold stH51 at hhk
      simp only [Bool.and_eq_true] at hhk
      obtain ⟨q1, q2, q3, q4⟩ := hhk
      have q3 := skN_ok q3
      subst q3
      rw [← zar_kept hf5 (i := 86) (by decide), ← zar_kept hf5 (i := 87) (by decide)] at hy2
      exact ih (kMu (zar es3 86) (zar es3 87)) hM2 z H5 locs5 ls5 es5 hy2 V5.1 V5.2.1 V5.2.2.1 (zCo.flush V5.2.2.2.2.1 V5.2.2.2.2.2.2.2.1 q1 (fun _ => 0)) (zfrm.trans (w1 := 4677 :: stWr) hf4' hf5 (by decide)) (hf5.2 (by decide) hp4) (hl1 lo η5 ls5 _ (z : Int) V5.2.2.2.1 (by show 1 * η5 1 + 0 = _; omega) q2 q4)
    · have k4 := Nat.eq_of_beq_eq_true k4
      subst k4
      have k5 := skN_ok k5
      subst k5
      exact keyO (w + 1) 0 0 H3 locs3 ls3 es3 (by omega) (Nat.zero_le _) (Nat.zero_le _) V3.1 V3.2.1 V3.2.2.1 hC3 hf3' hp3 (hl2 lo η3 ls3 (.inl 0) (.inl 0) ((0 : Nat) : Int) ((0 : Nat) : Int) V3.2.2.2.1 rfl rfl (by
        unfold stSt
        rw [k2, k6, k7]
        rfl))
  -- the first loop
  have st13 : ∀ (i : Nat) (H : Heap) (locs : List Loc) (ls2 : Array Slot) (es2 : va_W) (v ix : zI) (η : zE), i ≤ 3 → zeB v (.inl (-1)) = true → zd η ix = (i : Int) → (∀ cc, cc < i → zar es2 86 cc = -1) → va_P D vwCl es2 H → va_D (va_A es sz) es2 → va_S (va_A es sz) s.heap H locs → zCo zD0 ρ γ (fun _ => 0) [] es2 → zfrm (4677 :: stWr) es es2 → pN es2 → (∀ (H : Heap) (locs : List Loc) (es8 : va_W), (∀ cc, cc ≤ i → zar es8 86 cc = -1) → va_P D vwCl es8 H → va_D (va_A es sz) es8 → va_S (va_A es sz) s.heap H locs → zCo zD0 ρ γ (fun _ => 0) [] es8 → zfrm (4677 :: stWr) es es8 → pN es8 → W p l e (zrmS (8, 240)) s m [Value.ref (ρ 56)].toArray below meth c H locs 0 0 (MQ below (zQs zD0 D ρ γ sm_stable.2.2.2.1 sm_stable.2.2.2.2.1 sm_stable.2.2.2.2.2.2.2 g es sz) [Value.ref (ρ 56)].toArray s 0 0 (va_A es sz)) (F0 m 14 ls2 [])) → W p l e (zrmS (8, 240)) s m [Value.ref (ρ 56)].toArray below meth c H locs 0 0 (MQ below (zQs zD0 D ρ γ sm_stable.2.2.2.1 sm_stable.2.2.2.2.1 sm_stable.2.2.2.2.2.2.2 g es sz) [Value.ref (ρ 56)].toArray s 0 0 (va_A es sz)) (F0 m 13 ls2 ([Sum.inl v, .inl ix, .inr (.inl (some 86))].map (zv ρ η))) := by
    intro i H locs ls2 es2 v ix η hi hv hix hz hP2 hD2 hS2 hC2 hf2 hp2 h8
    have e1 : zi η v = -1 := by
      unfold zi
      rw [zeB_ok hv]
      exact (by decide : Int32.ofInt (-1) = -1)
    have e2 : zi η ix = Int32.ofInt (i : Int) := by
      unfold zi
      rw [hix]
    have hI : (Int32.ofInt (i : Int)).toInt = i := i32_big (by omega) (by omega)
    show W p l e (zrmS (8, 240)) s m _ below meth c H locs 0 0 _ (F0 m 13 ls2 (.int (zi η v) :: .int (zi η ix) :: .ref (ρ 86) :: []))
    rw [e1, e2]
    obtain ⟨f1, gg1, -⟩ := hC2.1 86 .int 4 [(-1, 5)] rfl (by decide)
    refine zstoreH (ρ := ρ) (γ := γ) (i := 86) (n := 4) (q := (-1, 5)) B1 hP2 hD2 hS2 hC2 (xpc_184_13 r hr) rfl (by rw [hI]; omega) (by rw [hI]; omega) (by unfold inR; decide) ?_
    intro es8 H8 locs8 he8 hP8 hD8 hS8 hC8 hz8 ho8
    rw [hI, Int.toNat_natCast] at hz8
    have hst := zfrm_store (wr := [5504, 4677]) (ρ := ρ) (γ := γ) gg1 rfl he8 (by decide) (by decide)
    refine h8 H8 locs8 es8 (fun cc hcc => ?_) hP8 hD8 hS8 hC8 (zfrm.trans (w1 := 4677 :: stWr) hf2 hst (by decide)) (pN_store gg1 he8 (by decide) (by decide) (by decide) (by decide) hp2)
    rw [hz8]
    unfold upd
    split
    · rfl
    · exact hz cc (by omega)
  have key14 : ∀ (N i : Nat) (H : Heap) (locs : List Loc) (ls2 : Array Slot) (es2 : va_W), 3 - i < N → i ≤ 3 → (∀ cc, cc ≤ i → zar es2 86 cc = -1) → va_P D vwCl es2 H → va_D (va_A es sz) es2 → va_S (va_A es sz) s.heap H locs → zCo zD0 ρ γ (fun _ => 0) [] es2 → zfrm (4677 :: stWr) es es2 → pN es2 → lv_has ls2 r.2.2.1 [(0, .ref (ρ 56)), (1, .int (Int32.ofInt (i : Int)))] → W p l e (zrmS (8, 240)) s m [Value.ref (ρ 56)].toArray below meth c H locs 0 0 (MQ below (zQs zD0 D ρ γ sm_stable.2.2.2.1 sm_stable.2.2.2.2.1 sm_stable.2.2.2.2.2.2.2 g es sz) [Value.ref (ρ 56)].toArray s 0 0 (va_A es sz)) (F0 m 14 ls2 []) := by
    intro N
    induction N with
    | zero => intro i H locs ls2 es2 h; exact absurd h (Nat.not_lt_zero _)
    | succ N ih =>
    intro i H locs ls2 es2 hN hi hz2 hP2 hD2 hS2 hC2 hf2 hp2 hll2
    have hc := st_14
    unfold stRun at hc
    rw [hrw] at hc
    have loc1 : ∀ y : Int, zdL ρ (aE y 0 0 0 0 0 0) asL1 = [(0, .ref (ρ 56)), (1, .int (Int32.ofInt y))] := by
      intro y
      show [(0, Value.ref (ρ 56)), (1, Value.int (Int32.ofInt (1 * y + 0)))] = _
      rw [Int.one_mul, Int.add_zero]
    refine zseg (ρ := ρ) (γ := γ) (η := aE i 0 0 0 0 0 0) (sk := []) B1 (noHS0 es2) hc hP2 hD2 hS2 (by rw [loc1]; exact hll2) (st1_sat (by decide) (by omega) (by omega)) (zCo.env hC2) ?_ (fun _ _ _ _ _ _ _ _ _ _ _ _ h => by cases h)
    intro pc lo sk ca fa nf η3 H3 locs3 ls3 es3 hpc hhk V3
    have hf3 : zfrm [5568] es2 es3 := V3.2.2.2.2.2.2.2.2
    have hs3 := V3.2.2.2.2.1
    have g1 : η3 1 = (i : Int) := V3.2.2.2.2.2.2.1 1 (by decide)
    have hf3' : zfrm (4677 :: stWr) es es3 := zfrm.trans (w1 := 4677 :: stWr) hf2 hf3 (by decide)
    have hp3 : pN es3 := hf3.2 (by decide) hp2
    have hz3 : zar es3 86 = zar es2 86 := zar_kept hf3 (by decide)
    unfold stH14 at hhk
    simp only [Bool.and_eq_true, Bool.or_eq_true] at hhk
    obtain ⟨k1, k2, k4⟩ := hhk
    have hC3 := zCo.flush hs3 V3.2.2.2.2.2.2.2.1 k1 (fun _ => 0)
    rcases k4 with ⟨k4, k5, k6, k7⟩ | ⟨k4, k5, k6, k7⟩
    · have k4 := Nat.eq_of_beq_eq_true k4
      subst k4
      obtain ⟨v, ix, rfl, z1, z2⟩ := stS13_ok k6
      have hi2 : i ≤ 2 := by
        obtain ⟨y, y0, y1, y2, y3⟩ := hIn_ok hs3 k7
        cases y0
        have y2 : 1 * η3 1 + 0 ≤ 2 := y2
        omega
      have o1 : 3 - (i + 1) < N := by omega
      refine st13 (i + 1) H3 locs3 ls3 es3 v ix η3 (by omega) z1 (by rw [zeB_ok z2]; show 1 * η3 1 + 1 = _; omega) (fun cc h => by rw [hz3]; exact hz2 cc (by omega)) V3.1 V3.2.1 V3.2.2.1 hC3 hf3' hp3 (fun H8 locs8 es8 a1 a2 a3 a4 a5 a6 a7 => ih (i + 1) H8 locs8 ls3 es8 o1 (by omega) a1 a2 a3 a4 a5 a6 a7 (hl1 lo η3 ls3 _ ((i + 1 : Nat) : Int) V3.2.2.2.1 (by show 1 * η3 1 + 1 = _; omega) k2 k5))
    · have k4 := Nat.eq_of_beq_eq_true k4
      subst k4
      have k5 := skN_ok k5
      subst k5
      have hi3 : i = 3 := by
        obtain ⟨y, y0, y1, y2, y3⟩ := hIn_ok hs3 k7
        cases y0
        have y1 : 3 ≤ 1 * η3 1 + 0 := y1
        omega
      subst hi3
      have hG : kG n (zar es3 86) (zar es3 87) := by
        intro b hb h0
        rw [hz3, hz2 b (by omega)] at h0
        exact absurd h0 (by decide)
      exact key43 _ 1 H3 locs3 ls3 es3 (Or.inr ⟨rfl, hG, Nat.lt_succ_self _⟩) V3.1 V3.2.1 V3.2.2.1 hC3 hf3' hp3 (hl1 lo η3 ls3 _ ((1 : Nat) : Int) V3.2.2.2.1 rfl k2 k6)
  have hc := st_0
  unfold stRun at hc
  rw [hrw] at hc
  refine zseg (ρ := ρ) (γ := γ) (η := aE 0 0 0 0 0 0 0) (sk := []) B1 (noHS0 es) hc hP hD va_S.rf hl ⟨aE_bd2 (by decide) (by decide) (by decide) (by decide) (by decide) (by decide) (by decide) (by decide) (by decide) (by decide) (by decide) (by decide), fun q hq => (by cases hq), fun q hq => (by cases hq), fun q hq => (by cases hq)⟩ (zCo.env hco) ?_ (fun _ _ _ _ _ _ _ _ _ _ _ _ h => by cases h)
  intro pc lo sk ca fa nf η3 H3 locs3 ls3 es3 hpc hhk V3
  have hpc := xmN1 hpc
  subst hpc
  have hf3 : zfrm [] es es3 := V3.2.2.2.2.2.2.2.2
  unfold stH0 at hhk
  simp only [Bool.and_eq_true] at hhk
  obtain ⟨q1, q2, q3, q4⟩ := hhk
  obtain ⟨v, ix, rfl, z1, z2⟩ := stS13_ok q4
  exact st13 0 H3 locs3 ls3 es3 v ix η3 (by decide) z1 (zeB_ok z2) (fun cc h => absurd h (Nat.not_lt_zero _)) V3.1 V3.2.1 V3.2.2.1 (zCo.flush V3.2.2.2.2.1 V3.2.2.2.2.2.2.2.1 q1 (fun _ => 0)) (zfrm_wid hf3 (by decide)) (hf3.2 (by decide) hpN) (fun H8 locs8 es8 a1 a2 a3 a4 a5 a6 a7 => key14 4 0 H8 locs8 ls3 es8 (by decide) (by decide) a1 a2 a3 a4 a5 a6 a7 (hl1 lo η3 ls3 _ ((0 : Nat) : Int) V3.2.2.2.1 rfl q2 q3))
