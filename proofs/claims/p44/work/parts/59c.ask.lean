def asWr : List Nat := [3624, 3625, 3626, 5184, 5504, 5568]
def asR (n : Nat) (es : va_W) : Option Value → va_W → Prop := fun v es2 => ∃ x : Int32, v = some (.int x) ∧ zfrm (4677 :: asWr) es es2 ∧ pN es2 ∧ (x.toInt = 0 ∨ (x.toInt = 1 ∧ kG n (zar es2 86) (zar es2 87) ∧ kMu (zar es2 86) (zar es2 87) < kMu (zar es 86) (zar es 87)))
theorem asS122_ok {sk : List zV} (h : asS122 sk = true) : ∃ v ix : zI, sk = [.inl v, .inl ix, .inr (.inl (some 86))] ∧ zeB v (zsym 1) = true ∧ zeB ix (zsym 4) = true := by
  unfold asS122 at h
  split at h
  · rename_i v ix o
    simp only [Bool.and_eq_true] at h
    obtain ⟨h1, h2, h3⟩ := h
    have h1 := Nat.eq_of_beq_eq_true h1
    subst h1
    exact ⟨v, ix, rfl, h2, h3⟩
  · cases h
theorem asS115_ok {fa : zFa} {ca : zCa} {sk : List zV} (h : asS115 fa ca sk = true) : ∃ v ix : zI, sk = [.inl v, .inl ix, .inr (.inl (some 87))] ∧ hSm (zcA 86 (zsym 4) ca) (some (.inl ix)) = true ∧ hIn fa (some (.inl ix)) 0 5 = true ∧ asOr fa ca ix v = true := by
  unfold asS115 at h
  split at h
  · rename_i v ix o
    simp only [Bool.and_eq_true] at h
    obtain ⟨h1, h2, h3, h4⟩ := h
    have h1 := Nat.eq_of_beq_eq_true h1
    subst h1
    exact ⟨v, ix, rfl, h2, h3, h4⟩
  · cases h
theorem asS137_ok {fa : zFa} {ca : zCa} {sk : List zV} (h : asS137 fa ca sk = true) : ∃ v ix : zI, sk = [.inl v, .inl ix, .inr (.inl (some 87))] ∧ zeB ix (zsym 1) = true ∧ asOr fa ca (zsym 1) v = true := by
  unfold asS137 at h
  split at h
  · rename_i v ix o
    simp only [Bool.and_eq_true] at h
    obtain ⟨h1, h2, h3⟩ := h
    have h1 := Nat.eq_of_beq_eq_true h1
    subst h1
    exact ⟨v, ix, rfl, h2, h3⟩
  · cases h
set_option maxHeartbeats 16000000 in
theorem c_ask {D : va_G} {l : Launch} {ρ : Nat → Nat} {γ : Nat → ClassId} {es : va_W} (hco : zCo zD0 ρ γ (fun _ => 0) [] es) (hpN : pN es) {k n w : Nat} (hk : zfd es 56 34 = k) (hk1 : k ≤ 1) (hn : (zar es 60 k).toInt = n) (hn4 : n ≤ 4) (hw : (zar es 59 k).toInt = w) (hw6 : w ≤ 6) (hG : kG n (zar es 86) (zar es 87)) : zHM zD0 D l 125 (7, 210) ρ γ es [.ref (ρ 56)] (asR n es) := by
  intro r hr sz
  have ho : r.2.2.2.2.1 = 11 := own_ok (mi := 125) (by decide +kernel) hr
  refine zent (ρ := ρ) hr (by
    show 1 ≤ r.2.2.1
    exact zfl1_cat (sm := (125, (7, 210), [.inr (.inl (some 56))], none, [], [], (([], []), []))) (by decide +kernel) r hr) ?_
  intro p e s m below meth c ls hsz B1 hP hD hl hret
  have hrw : ((gt xmt 125).bind xrow).map (fun r => zhR r (7, 210)) = some (zhR r (7, 210)) := by rw [hr]; rfl
  obtain ⟨fs56, h56⟩ := z56
  have stay : ∀ es2 : va_W, zfrm wiWr es es2 → zfd es2 56 34 = k ∧ (zar es2 60 k).toInt = n ∧ (zar es2 59 k).toInt = w ∧ zar es2 86 = zar es 86 ∧ zar es2 87 = zar es 87 ∧ pN es2 := fun es2 hf => ⟨by rw [zfd_kept hf (by decide) (by decide)]; exact hk, by rw [zar_kept hf (by decide)]; exact hn, by rw [zar_kept hf (by decide)]; exact hw, zar_kept hf (by decide), zar_kept hf (by decide), hf.2 (by decide) hpN⟩
  have hl0 : ∀ (lo : zL) (η : zE) (ls3 : Array Slot), lv_has ls3 r.2.2.1 (zdL ρ η lo) → hRf (zll lo 0) 56 = true → lv_has ls3 r.2.2.1 [(0, .ref (ρ 56))] := by
    intro lo η ls3 h1 h2
    refine lvh h1 (tm := [(0, .inr (.inl (some 56)))]) (η := fun _ => 0) (fun q hq => ?_)
    rcases List.mem_singleton.mp hq with rfl
    exact ⟨_, hRf_ok h2, rfl⟩
  have hl1 : ∀ (lo : zL) (η : zE) (ls3 : Array Slot) (v : zI) (y : Int), lv_has ls3 r.2.2.1 (zdL ρ η lo) → zd η v = y → hRf (zll lo 0) 56 = true → hI (zll lo 1) v = true → lv_has ls3 r.2.2.1 [(0, .ref (ρ 56)), (1, .int (Int32.ofInt y))] := by
    intro lo η ls3 v y h1 h3 h2 h4
    obtain ⟨x1, l1, v1⟩ := hI_ok h4
    have e9 : zdL ρ (aE y 0 0 0 0 0 0) asL1 = [(0, .ref (ρ 56)), (1, .int (Int32.ofInt y))] := by
      show [(0, Value.ref (ρ 56)), (1, Value.int (Int32.ofInt (1 * y + 0)))] = _
      rw [Int.one_mul, Int.add_zero]
    rw [← e9]
    refine lvh h1 (fun q hq => ?_)
    rcases List.mem_cons.mp hq with e9 | hq
    · rw [e9]; exact ⟨_, hRf_ok h2, rfl⟩
    rcases List.mem_singleton.mp hq with rfl
    refine ⟨_, l1, zv_int ?_⟩
    rw [v1, h3]; show y = 1 * y + 0; omega
  have hl3 : ∀ (lo : zL) (η : zE) (ls3 : Array Slot) (u v : zI) (i x y : Int), lv_has ls3 r.2.2.1 (zdL ρ η lo) → η 1 = i → zd η u = x → zd η v = y → asSt lo u v = true → lv_has ls3 r.2.2.1 [(0, .ref (ρ 56)), (1, .int (Int32.ofInt i)), (2, .int (Int32.ofInt x)), (3, .int (Int32.ofInt y))] := by
    intro lo η ls3 u v i x y h1 hi hx hy h4
    unfold asSt at h4
    simp only [Bool.and_eq_true] at h4
    obtain ⟨q0, q1, q2, q3⟩ := h4
    obtain ⟨x1, l1, v1⟩ := hI_ok q1
    obtain ⟨x2, l2, v2⟩ := hI_ok q2
    obtain ⟨x3, l3, v3⟩ := hI_ok q3
    rw [← qE_loc (ρ := ρ) (a := i) (b := x) (c := y) (d := 0)]
    refine lvh h1 (fun q9 hq => ?_)
    rcases List.mem_cons.mp hq with e9 | hq
    · rw [e9]; exact ⟨_, hRf_ok q0, rfl⟩
    rcases List.mem_cons.mp hq with e9 | hq
    · rw [e9]
      refine ⟨_, l1, zv_int ?_⟩
      rw [v1]; show 1 * η 1 + 0 = 1 * i + 0; rw [hi]
    rcases List.mem_cons.mp hq with e9 | hq
    · rw [e9]
      refine ⟨_, l2, zv_int ?_⟩
      rw [v2, hx]; show x = 1 * x + 0; omega
    rcases List.mem_singleton.mp hq with rfl
    refine ⟨_, l3, zv_int ?_⟩
    rw [v3, hy]; show y = 1 * y + 0; omega
  -- a return of 1
  have end1 : ∀ (pc0 : Nat) (H : Heap) (locs : List Loc) (ls2 : Array Slot) (es2 : va_W), asRun (fun _ _ _ _ _ _ => false) asF1 [] pc0 [(0, .inr (.inl (some 56)))] [] [] [] = true → va_P D vwCl es2 H → va_D (va_A es sz) es2 → va_S (va_A es sz) s.heap H locs → zCo zD0 ρ γ (fun _ => 0) [] es2 → zfrm (4677 :: asWr) es es2 → pN es2 → kG n (zar es2 86) (zar es2 87) → kMu (zar es2 86) (zar es2 87) < kMu (zar es 86) (zar es 87) → lv_has ls2 r.2.2.1 [(0, .ref (ρ 56))] → W p l e (zrmS (7, 210)) s m [Value.ref (ρ 56)].toArray below meth c H locs 0 0 (MQ below (zQh zD0 D ρ γ es sz (asR n es)) [Value.ref (ρ 56)].toArray s 0 0 (va_A es sz)) (F0 m pc0 ls2 []) := by
    intro pc0 H locs ls2 es2 hc hP2 hD2 hS2 hC2 hf2 hp2 hG2 hM2 hl2
    unfold asRun at hc
    rw [hrw] at hc
    refine zseg (ρ := ρ) (γ := γ) (η := fun _ => 0) (sk := []) B1 (noHS0 es2) hc hP2 hD2 hS2 hl2 ⟨fun _ => ⟨(show (-9223372036854775808 : Int) ≤ 0 by decide), (show (0 : Int) ≤ 9223372036854775807 by decide)⟩, fun q hq => (by cases hq), fun q hq => (by cases hq), fun q hq => (by cases hq)⟩ hC2 (fun _ _ _ _ _ _ _ _ _ _ _ h => by cases h) ?_
    intro pc v lo ca fa nf η5 H5 locs5 ls5 es5 V5 hfin hx5
    have hf5 : zfrm [] es2 es5 := V5.2.2.2.2.2.2.2.2
    unfold asF1 at hfin
    rw [Bool.and_eq_true] at hfin
    obtain ⟨q1, q2⟩ := hfin
    obtain ⟨y, y0, y1⟩ := hI_ok q2
    subst y0
    have hz : (zi η5 y).toInt = 1 := by unfold zi; rw [y1]; exact (show (Int32.ofInt 1).toInt = 1 by decide)
    exact hret _ pc (some (.inl y)) η5 H5 locs5 ls5 hx5 V5.2.2.1 (fun t ht hK hF => ⟨⟨_, es5, rfl, by rw [ht]; exact V5.1, hK, V5.2.1, zCo.flush V5.2.2.2.2.1 V5.2.2.2.2.2.2.2.1 q1 _, zi η5 y, rfl, zfrm.trans (w1 := 4677 :: asWr) hf2 hf5 (by decide), hf5.2 (by decide) hp2, Or.inr ⟨hz, by rw [zar_kept hf5 (by decide), zar_kept hf5 (by decide)]; exact hG2, by rw [zar_kept hf5 (by decide), zar_kept hf5 (by decide)]; exact hM2⟩⟩, hF⟩)
  have keyO : ∀ (N i : Nat) (H : Heap) (locs : List Loc) (ls2 : Array Slot) (es2 : va_W), w - i < N → i ≤ w → va_P D vwCl es2 H → va_D (va_A es sz) es2 → va_S (va_A es sz) s.heap H locs → zCo zD0 ρ γ (fun _ => 0) [] es2 → zfrm wiWr es es2 → lv_has ls2 r.2.2.1 [(0, .ref (ρ 56)), (1, .int (Int32.ofInt (i : Int)))] → W p l e (zrmS (7, 210)) s m [Value.ref (ρ 56)].toArray below meth c H locs 0 0 (MQ below (zQh zD0 D ρ γ es sz (asR n es)) [Value.ref (ρ 56)].toArray s 0 0 (va_A es sz)) (F0 m 2 ls2 []) := by
    intro N
    induction N with
    | zero => intro i H locs ls2 es2 h; exact absurd h (Nat.not_lt_zero _)
    | succ N ihO =>
    intro i H locs ls2 es2 hN hi hP2 hD2 hS2 hC2 hf2 hl2
    have keyI : i < w → ∀ (M j fl : Nat) (H : Heap) (locs : List Loc) (ls2 : Array Slot) (es2 : va_W), n - j < M → j ≤ n → fl ≤ 1 → (fl = 0 → ∀ c, c < j → (zar es 86 c).toInt ≠ i) → va_P D vwCl es2 H → va_D (va_A es sz) es2 → va_S (va_A es sz) s.heap H locs → zCo zD0 ρ γ (fun _ => 0) [] es2 → zfrm wiWr es es2 → lv_has ls2 r.2.2.1 [(0, .ref (ρ 56)), (1, .int (Int32.ofInt (i : Int))), (2, .int (Int32.ofInt (fl : Int))), (3, .int (Int32.ofInt (j : Int)))] → W p l e (zrmS (7, 210)) s m [Value.ref (ρ 56)].toArray below meth c H locs 0 0 (MQ below (zQh zD0 D ρ γ es sz (asR n es)) [Value.ref (ρ 56)].toArray s 0 0 (va_A es sz)) (F0 m 14 ls2 []) := by
      intro hiw M
      have hnx : w - (i + 1) < N := by omega
      induction M with
      | zero => intro j fl H locs ls2 es2 h; exact absurd h (Nat.not_lt_zero _)
      | succ M ihI =>
      intro j fl H locs ls2 es2 hM hj hfl hun hP2 hD2 hS2 hC2 hf2 hl2
      obtain ⟨u1, u2, u3, u86, u87, up⟩ := stay es2 hf2
      have hc := as_14
      unfold asRun at hc
      rw [hrw] at hc
      have loc3 : ∀ (b kk nn ww : Int), zdL ρ (aE i fl j b kk nn ww) fiL = [(0, .ref (ρ 56)), (1, .int (Int32.ofInt (i : Int))), (2, .int (Int32.ofInt (fl : Int))), (3, .int (Int32.ofInt (j : Int)))] := fun b kk nn ww => qE_loc (ρ := ρ) (a := i) (b := fl) (c := j) (d := 0)
      have sat : zsat (aE i fl j 0 k n w) (asFs 5, [], []) := aE_sat (by decide) (by omega) (by omega) (by omega) (by omega) (by omega) (by omega) (by decide) (by decide) (by omega) (by omega) (by omega) (by omega) (by omega) (by omega)
      refine zseg (ρ := ρ) (γ := γ) (η := aE i fl j 0 k n w) (sk := []) B1 (noHS0 es2) hc hP2 hD2 hS2 (by rw [loc3]; exact hl2) sat (aE_co hC2 u1 u2 u3 _ _ _ _) ?_ (fun _ _ _ _ _ _ _ _ _ _ _ _ h => by cases h)
      intro pc lo sk ca fa nf η3 H3 locs3 ls3 es3 hpc hhk V3
      have hf3 : zfrm [] es2 es3 := V3.2.2.2.2.2.2.2.2
      have hh3 := V3.2.2.2.2.2.2.2.1.2.2.2.2
      have hs3 := V3.2.2.2.2.1
      have g1 : η3 1 = (i : Int) := V3.2.2.2.2.2.2.1 1 (by decide)
      have g2 : η3 2 = (fl : Int) := V3.2.2.2.2.2.2.1 2 (by decide)
      have g3 : η3 3 = (j : Int) := V3.2.2.2.2.2.2.1 3 (by decide)
      have g68 : η3 68 = (n : Int) := V3.2.2.2.2.2.2.1 68 (by decide)
      have hf3' : zfrm wiWr es es3 := zfrm.trans (w1 := wiWr) hf2 hf3 (by decide)
      obtain ⟨r1, r2, r3, r86, r87, rp⟩ := stay es3 hf3'
      unfold asH14 at hhk
      simp only [Bool.and_eq_true, Bool.or_eq_true] at hhk
      obtain ⟨k1, k2, k4⟩ := hhk
      have hC3 := zCo.flush hs3 V3.2.2.2.2.2.2.2.1 k1 (fun _ => 0)
      rcases k4 with ⟨k4, k5, k6, k7, k8⟩ | ⟨k4, k5, k6, k7⟩ | ⟨k4, k5, k6, k7, k8⟩ | ⟨k4, k5, k6⟩
      · -- the comparison
        have k4 := Nat.eq_of_beq_eq_true k4
        subst k4
        have hjn : j < n := by
          have h : 1 * η3 3 + 0 < 1 * η3 68 + 0 := zlB_ok hs3 k8
          omega
        have hfl0 : fl = 0 := by
          obtain ⟨y, y0, y1, y2, y3⟩ := hIn_ok hs3 k7
          cases y0
          have y2 : 1 * η3 2 + 0 ≤ 0 := y2
          omega
        obtain ⟨y, x, rfl, e1, e2⟩ := asS33_ok hs3 hh3 k5 g3
        have hls3 := hl3 lo η3 ls3 _ _ (i : Int) (fl : Int) (j : Int) V3.2.2.2.1 g1 (by show 1 * η3 2 + 0 = _; omega) (by show 1 * η3 3 + 0 = _; omega) k6
        have go : ∀ (fl2 : Nat) (pc0 : Nat), fl2 ≤ 1 → (fl2 = 0 → (zar es 86 j).toInt ≠ i) → asRun (asH36 (.inl (fl2 : Int))) beNo [14] pc0 fiL [] asCa (asFs 5) = true → W p l e (zrmS (7, 210)) s m [Value.ref (ρ 56)].toArray below meth c H3 locs3 0 0 (MQ below (zQh zD0 D ρ γ es sz (asR n es)) [Value.ref (ρ 56)].toArray s 0 0 (va_A es sz)) (F0 m pc0 ls3 []) := by
          intro fl2 pc0 h2 hne hc
          unfold asRun at hc
          rw [hrw] at hc
          refine zseg (ρ := ρ) (γ := γ) (η := aE i fl j 0 k n w) (sk := []) B1 (noHS0 es3) hc V3.1 V3.2.1 V3.2.2.1 (by rw [loc3]; exact hls3) sat (aE_co hC3 r1 r2 r3 _ _ _ _) ?_ (fun _ _ _ _ _ _ _ _ _ _ _ _ h => by cases h)
          intro pc lo sk ca fa nf η5 H5 locs5 ls5 es5 hpc hhk V5
          have hpc := xmN1 hpc
          subst hpc
          have hf5 : zfrm [] es3 es5 := V5.2.2.2.2.2.2.2.2
          have g1 : η5 1 = (i : Int) := V5.2.2.2.2.2.2.1 1 (by decide)
          have g3 : η5 3 = (j : Int) := V5.2.2.2.2.2.2.1 3 (by decide)
          unfold asH36 at hhk
          simp only [Bool.and_eq_true] at hhk
          obtain ⟨q1, q2, q3⟩ := hhk
          have q2 := skN_ok q2
          subst q2
          have o1 : n - (j + 1) < M := by omega
          refine ihI (j + 1) fl2 H5 locs5 ls5 es5 o1 hjn h2 (fun z cc hcc => ?_) V5.1 V5.2.1 V5.2.2.1 (zCo.flush V5.2.2.2.2.1 V5.2.2.2.2.2.2.2.1 q1 (fun _ => 0)) (zfrm.trans (w1 := wiWr) hf3' hf5 (by decide)) (hl3 lo η5 ls5 _ _ (i : Int) (fl2 : Int) ((j + 1 : Nat) : Int) V5.2.2.2.1 g1 rfl (by show 1 * η5 3 + 1 = _; omega) q3)
          by_cases z9 : cc < j
          · exact hun hfl0 cc z9
          · have z9 : cc = j := by omega
            subst z9
            exact hne z
        show W p l e (zrmS (7, 210)) s m _ below meth c H3 locs3 0 0 _ (F0 m 33 ls3 (.int (zi η3 y) :: .int (zi η3 x) :: []))
        rw [e1, e2, g1, r86]
        have hI : (Int32.ofInt (i : Int)).toInt = i := i32_big (by omega) (by omega)
        refine zineH (tgt := 40) B1 (xpc_125_33 r hr) (by decide) (fun z => ?_) (fun z => ?_)
        · exact go 0 40 (by decide) (fun _ h => z (by rw [← i32_of (zar es 86 j), h])) as_40
        · exact go 1 36 (by decide) (fun h => by cases h) as_36
      · have k4 := Nat.eq_of_beq_eq_true k4
        subst k4
        have k5 := skN_ok k5
        subst k5
        have hjn : j < n := by
          have h : 1 * η3 3 + 0 < 1 * η3 68 + 0 := zlB_ok hs3 k7
          omega
        have o1 : n - (j + 1) < M := by omega
        exact ihI (j + 1) 1 H3 locs3 ls3 es3 o1 hjn (Nat.le_refl _) (fun h => by cases h) V3.1 V3.2.1 V3.2.2.1 hC3 hf3' (hl3 lo η3 ls3 _ _ (i : Int) ((1 : Nat) : Int) ((j + 1 : Nat) : Int) V3.2.2.2.1 g1 rfl (by show 1 * η3 3 + 1 = _; omega) k6)
      · have k4 := Nat.eq_of_beq_eq_true k4
        subst k4
        have hfl0 : fl = 0 := by
          obtain ⟨y, y0, y1, y2, y3⟩ := hIn_ok hs3 k7
          cases y0
          have y2 : 1 * η3 2 + 0 ≤ 0 := y2
          omega
        have hjn : n ≤ j := by
          have h : 1 * η3 68 + 0 ≤ 1 * η3 3 + 0 := zleB_ok hs3 k8
          omega
        have hun2 : ∀ cc, cc < n → (zar es 86 cc).toInt ≠ i := fun cc h => hun hfl0 cc (Nat.lt_of_lt_of_le h hjn)
        obtain ⟨mk, ii, rfl, e1, e2⟩ := asS64_ok hs3 hh3 k5 g1
        have hls1 := hl1 lo η3 ls3 _ (i : Int) V3.2.2.2.1 (by show 1 * η3 1 + 0 = _; omega) k2 k6
        have hI : (Int32.ofInt (i : Int)).toInt = i := i32_big (by omega) (by omega)
        show W p l e (zrmS (7, 210)) s m _ below meth c H3 locs3 0 0 _ (F0 m 64 ls3 ([.int (zi η3 ii), .int (zi η3 mk)].reverse ++ .ref (ρ 56) :: []))
        rw [e1, e2, g1, r87]
        obtain ⟨rr, hr2, o2, na2, ml2⟩ := shp_ok shp_199
        obtain ⟨lk1, lk2, lk3, hlk⟩ := lk_wish
        have hM : zHM zD0 D l 199 (6, 175) ρ γ es3 (.ref (ρ 56) :: [.int (Int32.ofInt (i : Int)), .int (zar es 87 i)]) _ := c_wish (D := D) (l := l) (ρ := ρ) (γ := γ) (es := es3) hC3 rp r1 hk1 r2 hn4 (Int32.ofInt (i : Int)) (zar es 87 i) (by rw [hI]; omega)
        refine zcallH (T := zD0) (ρ := ρ) (γ := γ) (As := [.int (Int32.ofInt (i : Int)), .int (zar es 87 i)]) (rs := []) B1 V3.1 V3.2.1 V3.2.2.1 V3.2.2.2.1.1 hC3 (xpc_125_64 r hr) (link11 (r := zhR r (7, 210)) hlk ho) hr2 (i0 := 56) (fs := fs56) (by rw [o2]; exact h56) (by rw [na2]; rfl) (Nat.zero_le _) (rm := (6, 175)) ⟨by show 6 + 1 ≤ 7; decide, by rw [ml2]; show 8 + (5 + 11) + 175 ≤ 210; decide⟩ hM ?_
        intro v es4 H4 locs4 hP4 hD4 hS4 hC4 hR4
        obtain ⟨x, rfl, hf4, x1, x2⟩ := hR4
        have hf4' : zfrm wiWr es es4 := zfrm.trans (w1 := wiWr) hf3' hf4 (by decide)
        have hx3 : x.toInt ≤ 3 := by
          by_cases z : 0 ≤ x.toInt
          · have := (x2 z).1; omega
          · omega
        have hc := as_67
        unfold asRun at hc
        rw [hrw] at hc
        have hsk : (some (Value.int x)).toList ++ [] = [Sum.inl (zsym 4)].map (zv ρ (aE i 0 0 x.toInt 0 0 0)) := by
          show [Value.int x] = [Value.int (Int32.ofInt (1 * x.toInt + 0))]
          rw [Int.one_mul, Int.add_zero, i32_of]
        rw [hsk]
        refine zseg (ρ := ρ) (γ := γ) (η := aE i 0 0 x.toInt 0 0 0) (sk := [.inl (zsym 4)]) B1 (noHS0 es4) hc hP4 hD4 hS4 (by
          show lv_has ls3 r.2.2.1 [(0, Value.ref (ρ 56)), (1, Value.int (Int32.ofInt (1 * (i : Int) + 0)))]
          rw [Int.one_mul, Int.add_zero]
          exact hls1) (aE_sae (by omega) (by omega) x1 hx3) (zCo.env hC4) ?_ (fun _ _ _ _ _ _ _ _ _ _ _ _ h => by cases h)
        intro pc lo sk ca fa nf η5 H5 locs5 ls5 es5 hpc hhk V5
        have hf5 : zfrm [] es4 es5 := V5.2.2.2.2.2.2.2.2
        have hh5 := V5.2.2.2.2.2.2.2.1.2.2.2.2
        have hs5 := V5.2.2.2.2.1
        have d1 : η5 1 = (i : Int) := V5.2.2.2.2.2.2.1 1 (by decide)
        have d4 : η5 4 = x.toInt := V5.2.2.2.2.2.2.1 4 (by decide)
        have hf5' : zfrm wiWr es es5 := zfrm.trans (w1 := wiWr) hf4' hf5 (by decide)
        obtain ⟨s1, s2, s3, s86, s87, sp⟩ := stay es5 hf5'
        unfold asH67 at hhk
        simp only [Bool.and_eq_true, Bool.or_eq_true] at hhk
        obtain ⟨q1, q2, q3⟩ := hhk
        have hC5 := zCo.flush hs5 V5.2.2.2.2.2.2.2.1 q1 (fun _ => 0)
        rcases q3 with ⟨q3, q4, q5⟩ | ⟨q3, q4⟩
        · have q3 := Nat.eq_of_beq_eq_true q3
          subst q3
          have q4 := skN_ok q4
          subst q4
          exact ihO (i + 1) H5 locs5 ls5 es5 hnx hiw V5.1 V5.2.1 V5.2.2.1 hC5 hf5' (hl1 lo η5 ls5 _ ((i + 1 : Nat) : Int) V5.2.2.2.1 (by show 1 * η5 1 + 1 = _; omega) q2 q5)
        · obtain ⟨b, hbb⟩ : ∃ b : Nat, x.toInt = b := ⟨x.toInt.toNat, by
            obtain ⟨y, y0, y1, y2, y3⟩ := hIn_ok hs5 q3
            cases y0
            have y1 : 0 ≤ 1 * η5 4 + 0 := y1
            omega⟩
          obtain ⟨hbn, hbit⟩ := x2 (by omega)
          have hbn : b < n := by omega
          have hxb : x = Int32.ofInt (b : Int) := by rw [← hbb, i32_of]
          rw [hxb] at hbit
          have hbit := (mb_0 (show b < 4 by omega)).mp hbit
          have hbI : (Int32.ofInt (b : Int)).toInt = b := i32_big (by omega) (by omega)
          have hw5 : zfrm (4677 :: asWr) es es5 := zfrm_wid hf5' (by decide)
          have st122 : ∀ (H : Heap) (locs : List Loc) (ls2 : Array Slot) (es2 : va_W), va_P D vwCl es2 H → va_D (va_A es sz) es2 → va_S (va_A es sz) s.heap H locs → zCo zD0 ρ γ (fun _ => 0) [] es2 → zfrm (4677 :: asWr) es es2 → pN es2 → zar es2 86 = zar es 86 → kG n (upd (zar es 86) b (Int32.ofInt (i : Int))) (zar es2 87) → kMu (upd (zar es 86) b (Int32.ofInt (i : Int))) (zar es2 87) < kMu (zar es 86) (zar es 87) → lv_has ls2 r.2.2.1 [(0, .ref (ρ 56))] → W p l e (zrmS (7, 210)) s m [Value.ref (ρ 56)].toArray below meth c H locs 0 0 (MQ below (zQh zD0 D ρ γ es sz (asR n es)) [Value.ref (ρ 56)].toArray s 0 0 (va_A es sz)) (F0 m 122 ls2 (.int (Int32.ofInt (i : Int)) :: .int (Int32.ofInt (b : Int)) :: .ref (ρ 86) :: [])) := by
            intro H locs ls2 es2 hP2 hD2 hS2 hC2 hf2 hp2 h86 hG2 hM2 hl2
            obtain ⟨f1, gg1, -⟩ := hC2.1 86 .int 4 [(-1, 5)] rfl (by decide)
            refine zstoreH (ρ := ρ) (γ := γ) (i := 86) (n := 4) (q := (-1, 5)) B1 hP2 hD2 hS2 hC2 (xpc_125_122 r hr) rfl (by rw [hbI]; omega) (by rw [hbI]; omega) (by unfold inR; rw [hI]; constructor <;> omega) ?_
            intro es8 H8 locs8 he8 hP8 hD8 hS8 hC8 hz8 ho8
            rw [hbI, Int.toNat_natCast, h86] at hz8
            have hst := zfrm_store (wr := [5504, 4677]) (ρ := ρ) (γ := γ) gg1 rfl he8 (by decide) (by decide)
            have h87 : zar es8 87 = zar es2 87 := zar_kept hst (by decide)
            exact end1 123 H8 locs8 ls2 es8 as_123 hP8 hD8 hS8 hC8 (zfrm.trans (w1 := 4677 :: asWr) hf2 hst (by decide)) (pN_store gg1 he8 (by decide) (by decide) (by decide) (by decide) hp2) (by rw [hz8, h87]; exact hG2) (by rw [hz8, h87]; exact hM2) hl2
          have hls5 := hl0 lo η5 ls5 V5.2.2.2.1 q2
          rcases q4 with ⟨q4, q5, q6, q7⟩ | ⟨q4, q5, q6⟩ | ⟨q4, q5⟩
          · have q4 := Nat.eq_of_beq_eq_true q4
            subst q4
            obtain ⟨v, ix, rfl, z1, z2, z3⟩ := asS115_ok q5
            obtain ⟨xx, yy, t1, t2, t3⟩ := hSm_ok z1
            cases t2
            obtain ⟨y, y0, y1, y2, y3⟩ := hIn_ok hs5 z2
            cases y0
            have hman : zar es5 86 b = zi η5 ix := by
              rw [cA_ar hs5 hh5 t1 (j := b) (by show 1 * η5 4 + 0 = _; omega)]
              unfold zi
              rw [t3 η5]
            rw [s86] at hman
            obtain ⟨mm, hmm⟩ : ∃ mm : Nat, zd η5 ix = mm := ⟨(zd η5 ix).toNat, by omega⟩
            have hval := asOr_ok hs5 hh5 z3 (m := mm) hmm
            rw [s87, d4, hbb] at hval
            have hmi : (zar es 86 b).toInt = mm := by rw [hman, y3]; exact hmm
            have hixI : (zi η5 ix).toInt = mm := by rw [y3]; exact hmm
            obtain ⟨w1, w2⟩ := kG_new hn4 hbn (show i ≤ 5 by omega) (show mm ≤ 5 by omega) hG hbit hmi (fun z => hun2 b hbn (by rw [hmi, z]))
            show W p l e (zrmS (7, 210)) s m _ below meth c H5 locs5 0 0 _ (F0 m 115 ls5 (.int (zi η5 v) :: .int (zi η5 ix) :: .ref (ρ 87) :: []))
            rw [hval]
            obtain ⟨f1, gg1, -⟩ := hC5.1 87 .int 6 [(-2147483648, 2147483647)] rfl (by decide)
            refine zstoreH (ρ := ρ) (γ := γ) (i := 87) (n := 6) (q := (-2147483648, 2147483647)) B1 V5.1 V5.2.1 V5.2.2.1 hC5 (xpc_125_115 r hr) rfl (by rw [hixI]; omega) (by rw [hixI]; omega) (i32_bd _) ?_
            intro es8 H8 locs8 he8 hP8 hD8 hS8 hC8 hz8 ho8
            rw [hixI, Int.toNat_natCast, s87] at hz8
            have hst := zfrm_store (wr := [5568, 4677]) (ρ := ρ) (γ := γ) gg1 rfl he8 (by decide) (by decide)
            have h86 : zar es8 86 = zar es 86 := by rw [zar_kept hst (by decide)]; exact s86
            have hf8 : zfrm (4677 :: asWr) es es8 := zfrm.trans (w1 := 4677 :: asWr) hw5 hst (by decide)
            have hp8 := pN_store gg1 he8 (by decide) (by decide) (by decide) (by decide) sp
            obtain ⟨a1, l1, v1⟩ := hI_ok q6
            obtain ⟨a3, l3, v3⟩ := hI_ok q7
            have hc := as_116
            unfold asRun at hc
            rw [hrw] at hc
            refine zseg (ρ := ρ) (γ := γ) (η := aE i 0 0 x.toInt 0 0 0) (sk := []) B1 (noHS0 es8) hc hP8 hD8 hS8 (by
              refine lvh V5.2.2.2.1 (fun q9 hq => ?_)
              rcases List.mem_cons.mp hq with e9 | hq
              · rw [e9]; exact ⟨_, hRf_ok q2, rfl⟩
              rcases List.mem_cons.mp hq with e9 | hq
              · rw [e9]
                refine ⟨_, l1, zv_int ?_⟩
                rw [v1]; show 1 * η5 1 + 0 = 1 * (i : Int) + 0; rw [d1]
              rcases List.mem_singleton.mp hq with rfl
              refine ⟨_, l3, zv_int ?_⟩
              rw [v3]; show 1 * η5 4 + 0 = 1 * x.toInt + 0; rw [d4]) (aE_sae (by omega) (by omega) x1 hx3) (zCo.env hC8) ?_ (fun _ _ _ _ _ _ _ _ _ _ _ _ h => by cases h)
            intro pc lo sk ca fa nf η9 H9 locs9 ls9 es9 hpc hhk V9
            have hpc := xmN1 hpc
            subst hpc
            have hf9 : zfrm [] es8 es9 := V9.2.2.2.2.2.2.2.2
            have d1 : η9 1 = (i : Int) := V9.2.2.2.2.2.2.1 1 (by decide)
            have d4 : η9 4 = x.toInt := V9.2.2.2.2.2.2.1 4 (by decide)
            unfold asH116 at hhk
            simp only [Bool.and_eq_true] at hhk
            obtain ⟨c1, c2, c3⟩ := hhk
            obtain ⟨v, ix, rfl, z1, z2⟩ := asS122_ok c3
            show W p l e (zrmS (7, 210)) s m _ below meth c H9 locs9 0 0 _ (F0 m 122 ls9 (.int (zi η9 v) :: .int (zi η9 ix) :: .ref (ρ 86) :: []))
            rw [zi_sym z1, zi_sym z2, d1, d4, hbb]
            have h87 : zar es9 87 = upd (zar es 87) mm (sB (zar es 87 mm) (Int32.ofInt (b : Int))) := by rw [zar_kept hf9 (by decide)]; exact hz8
            exact st122 H9 locs9 ls9 es9 V9.1 V9.2.1 V9.2.2.1 (zCo.flush V9.2.2.2.2.1 V9.2.2.2.2.2.2.2.1 c1 (fun _ => 0)) (zfrm.trans (w1 := 4677 :: asWr) hf8 hf9 (by decide)) (hf9.2 (by decide) hp8) (by rw [zar_kept hf9 (by decide)]; exact h86) (by rw [h87]; exact w1) (by rw [h87]; exact w2) (hl0 lo η9 ls9 V9.2.2.2.1 c2)
          · have q4 := Nat.eq_of_beq_eq_true q4
            subst q4
            obtain ⟨v, ix, rfl, z1, z2⟩ := asS122_ok q5
            have hneg := (hIn_ar hs5 hh5 q6 (j := b) (by show 1 * η5 4 + 0 = _; omega)).2
            rw [s86] at hneg
            obtain ⟨y1, y2⟩ := kG_first hn4 hbn (show i ≤ 5 by omega) hG hbit (by omega)
            show W p l e (zrmS (7, 210)) s m _ below meth c H5 locs5 0 0 _ (F0 m 122 ls5 (.int (zi η5 v) :: .int (zi η5 ix) :: .ref (ρ 86) :: []))
            rw [zi_sym z1, zi_sym z2, d1, d4, hbb]
            exact st122 H5 locs5 ls5 es5 V5.1 V5.2.1 V5.2.2.1 hC5 hw5 sp s86 (by rw [s87]; exact y1) (by rw [s87]; exact y2) hls5
          · have q4 := Nat.eq_of_beq_eq_true q4
            subst q4
            obtain ⟨v, ix, rfl, z1, z2⟩ := asS137_ok q5
            have hval := asOr_ok hs5 hh5 z2 (m := i) (by show 1 * η5 1 + 0 = _; omega)
            rw [s87, d4, hbb] at hval
            obtain ⟨y1, y2⟩ := kG_refused hn4 hbn (show i ≤ 5 by omega) hG hbit hun2
            show W p l e (zrmS (7, 210)) s m _ below meth c H5 locs5 0 0 _ (F0 m 137 ls5 (.int (zi η5 v) :: .int (zi η5 ix) :: .ref (ρ 87) :: []))
            rw [hval, zi_sym z1, d1]
            obtain ⟨f1, gg1, -⟩ := hC5.1 87 .int 6 [(-2147483648, 2147483647)] rfl (by decide)
            refine zstoreH (ρ := ρ) (γ := γ) (i := 87) (n := 6) (q := (-2147483648, 2147483647)) B1 V5.1 V5.2.1 V5.2.2.1 hC5 (xpc_125_137 r hr) rfl (by rw [hI]; omega) (by rw [hI]; omega) (i32_bd _) ?_
            intro es8 H8 locs8 he8 hP8 hD8 hS8 hC8 hz8 ho8
            rw [hI, Int.toNat_natCast, s87] at hz8
            have hst := zfrm_store (wr := [5568, 4677]) (ρ := ρ) (γ := γ) gg1 rfl he8 (by decide) (by decide)
            have h86 : zar es8 86 = zar es 86 := by rw [zar_kept hst (by decide)]; exact s86
            exact end1 138 H8 locs8 ls5 es8 as_138 hP8 hD8 hS8 hC8 (zfrm.trans (w1 := 4677 :: asWr) hw5 hst (by decide)) (pN_store gg1 he8 (by decide) (by decide) (by decide) (by decide) sp) (by rw [hz8, h86]; exact y1) (by rw [hz8, h86]; exact y2) hls5
      · have k4 := Nat.eq_of_beq_eq_true k4
        subst k4
        have k5 := skN_ok k5
        subst k5
        exact ihO (i + 1) H3 locs3 ls3 es3 hnx hiw V3.1 V3.2.1 V3.2.2.1 hC3 hf3' (hl1 lo η3 ls3 _ ((i + 1 : Nat) : Int) V3.2.2.2.1 (by show 1 * η3 1 + 1 = _; omega) k2 k6)
    obtain ⟨u1, u2, u3, u86, u87, up⟩ := stay es2 hf2
    have hc := as_2
    unfold asRun at hc
    rw [hrw] at hc
    refine zseg (ρ := ρ) (γ := γ) (η := aE i 0 0 0 k n w) (sk := []) B1 (noHS0 es2) hc hP2 hD2 hS2 (by
      show lv_has ls2 r.2.2.1 [(0, Value.ref (ρ 56)), (1, Value.int (Int32.ofInt (1 * (i : Int) + 0)))]
      rw [Int.one_mul, Int.add_zero]
      exact hl2) (aE_sat (by decide) (by omega) (by omega) (by decide) (by decide) (by decide) (by decide) (by decide) (by decide) (by omega) (by omega) (by omega) (by omega) (by omega) (by omega)) (aE_co hC2 u1 u2 u3 _ _ _ _) ?_ ?_
    · intro pc lo sk ca fa nf η3 H3 locs3 ls3 es3 hpc hhk V3
      have hpc := xmN1 hpc
      subst hpc
      have hf3 : zfrm [] es2 es3 := V3.2.2.2.2.2.2.2.2
      have g1 : η3 1 = (i : Int) := V3.2.2.2.2.2.2.1 1 (by decide)
      have g69 : η3 69 = (w : Int) := V3.2.2.2.2.2.2.1 69 (by decide)
      unfold asH2 at hhk
      simp only [Bool.and_eq_true] at hhk
      obtain ⟨q1, q2, q3, q4⟩ := hhk
      have q2 := skN_ok q2
      subst q2
      have hiw : i < w := by
        have h : 1 * η3 1 + 0 < 1 * η3 69 + 0 := zlB_ok V3.2.2.2.2.1 q4
        omega
      exact keyI hiw (n + 1) 0 0 H3 locs3 ls3 es3 (by omega) (Nat.zero_le _) (by decide) (fun _ cc h => absurd h (Nat.not_lt_zero _)) V3.1 V3.2.1 V3.2.2.1 (zCo.flush V3.2.2.2.2.1 V3.2.2.2.2.2.2.2.1 q1 (fun _ => 0)) (zfrm.trans (w1 := wiWr) hf2 hf3 (by decide)) (hl3 lo η3 ls3 _ _ (i : Int) ((0 : Nat) : Int) ((0 : Nat) : Int) V3.2.2.2.1 g1 rfl rfl q3)
    · intro pc v lo ca fa nf η5 H5 locs5 ls5 es5 V5 hfin hx5
      have hf5 : zfrm [] es2 es5 := V5.2.2.2.2.2.2.2.2
      unfold asF2 at hfin
      rw [Bool.and_eq_true] at hfin
      obtain ⟨q1, q2⟩ := hfin
      obtain ⟨y, y0, y1⟩ := hI_ok q2
      subst y0
      have hz : (zi η5 y).toInt = 0 := by unfold zi; rw [y1]; exact (show (Int32.ofInt 0).toInt = 0 by decide)
      have hf05 : zfrm wiWr es es5 := zfrm.trans (w1 := wiWr) hf2 hf5 (by decide)
      exact hret _ pc (some (.inl y)) η5 H5 locs5 ls5 hx5 V5.2.2.1 (fun t ht hK hF => ⟨⟨_, es5, rfl, by rw [ht]; exact V5.1, hK, V5.2.1, zCo.flush V5.2.2.2.2.1 V5.2.2.2.2.2.2.2.1 q1 _, zi η5 y, rfl, zfrm_wid hf05 (by decide), hf05.2 (by decide) hpN, Or.inl hz⟩, hF⟩)
  have hc := as_0
  unfold asRun at hc
  rw [hrw] at hc
  refine zseg (ρ := ρ) (γ := γ) (η := aE 0 0 0 0 k n w) (sk := []) B1 (noHS0 es) hc hP hD va_S.rf hl (aE_sat (by decide) (by decide) (by decide) (by decide) (by decide) (by decide) (by decide) (by decide) (by decide) (by omega) (by omega) (by omega) (by omega) (by omega) (by omega)) (aE_co hco hk hn hw _ _ _ _) ?_ (fun _ _ _ _ _ _ _ _ _ _ _ _ h => by cases h)
  intro pc lo sk ca fa nf η3 H3 locs3 ls3 es3 hpc hhk V3
  have hpc := xmN1 hpc
  subst hpc
  have hf3 : zfrm [] es es3 := V3.2.2.2.2.2.2.2.2
  unfold asH0 at hhk
  simp only [Bool.and_eq_true] at hhk
  obtain ⟨q1, q2, q3, q4⟩ := hhk
  have q2 := skN_ok q2
  subst q2
  exact keyO (w + 1) 0 H3 locs3 ls3 es3 (by omega) (Nat.zero_le _) V3.1 V3.2.1 V3.2.2.1 (zCo.flush V3.2.2.2.2.1 V3.2.2.2.2.2.2.2.1 q1 (fun _ => 0)) (zfrm_wid hf3 (by decide)) (hl1 lo η3 ls3 _ ((0 : Nat) : Int) V3.2.2.2.1 rfl q3 q4)
