def qE (a b c d : Int) : zE := fun s => if s = 1 then a else if s = 2 then b else if s = 3 then c else if s = 4 then d else 0
theorem qE_bd {a b c d : Int} (a1 : -2147483648 ≤ a) (a2 : a ≤ 2147483647) (b1 : -2147483648 ≤ b) (b2 : b ≤ 2147483647) (c1 : -2147483648 ≤ c) (c2 : c ≤ 2147483647) (d1 : -2147483648 ≤ d) (d2 : d ≤ 2147483647) : ∀ s, zbd (qE a b c d s) := by
  intro s
  unfold qE
  split
  · exact zbd_of (by omega) (by omega)
  split
  · exact zbd_of (by omega) (by omega)
  split
  · exact zbd_of (by omega) (by omega)
  split
  · exact zbd_of (by omega) (by omega)
  exact ⟨by decide, by decide⟩
theorem qE_fs {a b c d A B D' : Int} (a1 : -2147483648 ≤ a) (a2 : a ≤ 2147483647) (b1 : 0 ≤ b) (b2 : b ≤ A) (c1 : 0 ≤ c) (c2 : c ≤ B) (d1 : 0 ≤ d) (d2 : d ≤ D') (hA : A ≤ 100) (hB : B ≤ 100) (hD : D' ≤ 100) : zsat (qE a b c d) (fsFs A B D', [], []) := by
  refine ⟨qE_bd a1 a2 (by omega) (by omega) (by omega) (by omega) (by omega) (by omega), fun q hq => ?_, fun q hq => (by cases hq), fun q hq => (by cases hq)⟩
  rcases List.mem_cons.mp hq with h | h
  · rw [h]; exact ⟨a1, a2, fun _ z => by cases z⟩
  rcases List.mem_cons.mp h with h | h
  · rw [h]; exact ⟨b1, b2, fun _ z => by cases z⟩
  rcases List.mem_cons.mp h with h | h
  · rw [h]; exact ⟨c1, c2, fun _ z => by cases z⟩
  rcases List.mem_singleton.mp h with rfl
  exact ⟨d1, d2, fun _ z => by cases z⟩
theorem qE_su {a b c d A D' : Int} (a1 : 0 ≤ a) (a2 : a ≤ A) (b1 : -2147483648 ≤ b) (b2 : b ≤ 2147483647) (c1 : 0 ≤ c) (c2 : c ≤ 40) (d1 : 0 ≤ d) (d2 : d ≤ D') (hA : A ≤ 100) (hD : D' ≤ 100) : zsat (qE a b c d) (suFs A D', [], []) := by
  refine ⟨qE_bd (by omega) (by omega) b1 b2 (by omega) (by omega) (by omega) (by omega), fun q hq => ?_, fun q hq => (by cases hq), fun q hq => (by cases hq)⟩
  rcases List.mem_cons.mp hq with h | h
  · rw [h]; exact ⟨a1, a2, fun _ z => by cases z⟩
  rcases List.mem_cons.mp h with h | h
  · rw [h]; exact ⟨b1, b2, fun _ z => by cases z⟩
  rcases List.mem_cons.mp h with h | h
  · rw [h]; exact ⟨c1, c2, fun _ z => by cases z⟩
  rcases List.mem_singleton.mp h with rfl
  exact ⟨d1, d2, fun _ z => by cases z⟩
theorem qE_sw {a b c d : Int} (a1 : -2147483648 ≤ a) (a2 : a ≤ 2147483647) (b1 : -2147483648 ≤ b) (b2 : b ≤ 2147483647) (c1 : -2147483648 ≤ c) (c2 : c ≤ 2147483647) (d1 : -2147483648 ≤ d) (d2 : d ≤ 2147483647) : zsat (qE a b c d) (suFw, [], []) := by
  refine ⟨qE_bd a1 a2 b1 b2 c1 c2 d1 d2, fun q hq => ?_, fun q hq => (by cases hq), fun q hq => (by cases hq)⟩
  rcases List.mem_cons.mp hq with h | h
  · rw [h]; exact ⟨a1, a2, fun _ z => by cases z⟩
  rcases List.mem_singleton.mp h with rfl
  exact ⟨b1, b2, fun _ z => by cases z⟩
theorem qE_loc {ρ : Nat → Nat} {a b c d : Int} : zdL ρ (qE a b c d) fiL = [(0, .ref (ρ 56)), (1, .int (Int32.ofInt a)), (2, .int (Int32.ofInt b)), (3, .int (Int32.ofInt c))] := by
  show [(0, Value.ref (ρ 56)), (1, Value.int (Int32.ofInt (1 * a + 0))), (2, Value.int (Int32.ofInt (1 * b + 0))), (3, Value.int (Int32.ofInt (1 * c + 0)))] = _
  rw [Int.one_mul, Int.add_zero, Int.one_mul, Int.add_zero, Int.one_mul, Int.add_zero]
theorem zi_sym {η : zE} {x : zI} {s : Nat} (h : zeB x (zsym s) = true) : zi η x = Int32.ofInt (η s) := by
  unfold zi
  rw [zeB_ok h]
  show Int32.ofInt (1 * η s + 0) = _
  rw [Int.one_mul, Int.add_zero]
theorem fsS27_ok {sk : List zV} (h : fsS27 sk = true) : ∃ k i c : zI, sk = [.inl k, .inl i, .inr (.inl (some 56)), .inl c] ∧ zeB k (zsym 1) = true ∧ zeB i (zsym 3) = true ∧ zeB c (zsym 2) = true := by
  unfold fsS27 at h
  split at h
  · rename_i k i o c
    simp only [Bool.and_eq_true] at h
    obtain ⟨h1, h2, h3, h4⟩ := h
    have h1 := Nat.eq_of_beq_eq_true h1
    subst h1
    exact ⟨k, i, c, rfl, h2, h3, h4⟩
  · cases h
theorem hsF {D : va_G} {l : Launch} (es1 : va_W) (hp : pN es1) : ∀ (es2 : va_W), zfrm fsWr es1 es2 → ∀ (j : Nat) (sm : zSm), j < 1 → tF.1[j]? = some sm → zSOe tF D l sm es2 := fun es2 hf j sm hj h => by
  have e : j = 0 := by omega
  subst e
  cases h
  exact so_m075 (D := D) (l := l) es2 (hf.2 (by decide) hp)
theorem hsF0 {D : va_G} {l : Launch} {wr : List Nat} (es1 : va_W) : ∀ (es2 : va_W), zfrm wr es1 es2 → ∀ (j : Nat) (sm : zSm), j < 0 → tF.1[j]? = some sm → zSOe tF D l sm es2 := fun _ _ j _ h => absurd h (Nat.not_lt_zero _)
theorem xpc_105_27 : ∀ r : xR, (gt xmt 105).bind xrow = some r → xfi r.2.2.2.2.2.2.2 27 = some (.invokevirtual 489, 3) := xpcE (by decide +kernel)
theorem lk_fit : ∃ g1 g2 g3, xfi (xml 11) 489 = some (0, 95, g1, g2, g3) := ⟨_, _, _, rfl⟩
theorem shp_95 : shp 95 2 4 = true := by decide +kernel
theorem lt41 {i N : Nat} (h : 41 - i < N + 1) (h2 : i ≤ 40) : 41 - (i + 1) < N := by omega
def fsR (k : Int32) (es : va_W) : Option Value → va_W → Prop := fun v es2 => ∃ x : Int32, v = some (.int x) ∧ zfrm fsWr es es2 ∧ (0 ≤ x.toInt ∧ x.toInt ≤ 41) ∧ (1 ≤ x.toInt → ∃ i : Nat, i ≤ 40 ∧ dAll es2 i k.toInt)
set_option maxHeartbeats 16000000 in
theorem c_fits {D : va_G} {l : Launch} {ρ : Nat → Nat} {γ : Nat → ClassId} {es : va_W} (hco : zCo zD0 ρ γ (fun _ => 0) [] es) (hpN : pN es) (k : Int32) : zHM tF D l 105 (10, 264) ρ γ es [.ref (ρ 56), .int k] (fsR k es) := by
  have kb : -2147483648 ≤ k.toInt ∧ k.toInt ≤ 2147483647 := i32_bd k
  intro r hr sz
  have ho : r.2.2.2.2.1 = 11 := own_ok (mi := 105) (by decide +kernel) hr
  refine zent (ρ := ρ) hr (by
    show 2 ≤ r.2.2.1
    exact zfl1_cat (sm := (105, (10, 264), [.inr (.inl (some 56)), .inl (-2147483648, 2147483647)], none, [], [], (([], []), []))) (by decide +kernel) r hr) ?_
  intro p e s m below meth c ls hsz B1 hP hD hl hret
  have hrw : ((gt xmt 105).bind xrow).map (fun r => zhR r (10, 264)) = some (zhR r (10, 264)) := by rw [hr]; rfl
  obtain ⟨fs56, h56⟩ := z56
  have hst : ∀ (lo : zL) (η : zE) (ls3 : Array Slot) (u v : zI) (x y : Int), lv_has ls3 r.2.2.1 (zdL ρ η lo) → η 1 = k.toInt → zd η u = x → zd η v = y → fsSt lo u v = true → lv_has ls3 r.2.2.1 [(0, .ref (ρ 56)), (1, .int k), (2, .int (Int32.ofInt x)), (3, .int (Int32.ofInt y))] := by
    intro lo η ls3 u v x y h h1 h2 h3 h4
    unfold fsSt at h4
    simp only [Bool.and_eq_true] at h4
    obtain ⟨q0, q1, q2, q3⟩ := h4
    obtain ⟨x1, l1, v1⟩ := hI_ok q1
    obtain ⟨x2, l2, v2⟩ := hI_ok q2
    obtain ⟨x3, l3, v3⟩ := hI_ok q3
    have e9 := qE_loc (ρ := ρ) (a := k.toInt) (b := x) (c := y) (d := 0)
    rw [i32_of] at e9
    rw [← e9]
    refine lvh h (fun q9 hq => ?_)
    rcases List.mem_cons.mp hq with e9 | hq
    · rw [e9]; exact ⟨_, hRf_ok q0, rfl⟩
    rcases List.mem_cons.mp hq with e9 | hq
    · rw [e9]
      refine ⟨_, l1, zv_int ?_⟩
      rw [v1]; show 1 * η 1 + 0 = 1 * k.toInt + 0; rw [h1]
    rcases List.mem_cons.mp hq with e9 | hq
    · rw [e9]
      refine ⟨_, l2, zv_int ?_⟩
      rw [v2, h2]; show x = 1 * x + 0; omega
    rcases List.mem_singleton.mp hq with rfl
    refine ⟨_, l3, zv_int ?_⟩
    rw [v3, h3]; show y = 1 * y + 0; omega
  have key : ∀ (N i n : Nat) (H : Heap) (locs : List Loc) (ls2 : Array Slot) (es2 : va_W), 41 - i < N → i ≤ 41 → n ≤ i → (1 ≤ n → ∃ i : Nat, i ≤ 40 ∧ dAll es2 i k.toInt) → va_P D vwCl es2 H → va_D (va_A es sz) es2 → va_S (va_A es sz) s.heap H locs → zCo zD0 ρ γ (fun _ => 0) [] es2 → zfrm fsWr es es2 → lv_has ls2 r.2.2.1 [(0, .ref (ρ 56)), (1, .int k), (2, .int (Int32.ofInt (n : Int))), (3, .int (Int32.ofInt (i : Int)))] → W p l e (zrmS (10, 264)) s m [Value.ref (ρ 56), .int k].toArray below meth c H locs 0 0 (MQ below (zQh tF D ρ γ es sz (fsR k es)) [Value.ref (ρ 56), .int k].toArray s 0 0 (va_A es sz)) (F0 m 17 ls2 []) := by
    intro N
    induction N with
    | zero => intro i n H locs ls2 es2 h; exact absurd h (Nat.not_lt_zero _)
    | succ N ih =>
    intro i n H locs ls2 es2 hN hi hn hall hP2 hD2 hS2 hC2 hf2 hl2
    have hc := fs_17
    unfold fsRun at hc
    rw [hrw] at hc
    refine zseg (ρ := ρ) (γ := γ) (η := qE k.toInt n i 0) (sk := []) B1 (hsF0 es2) hc hP2 hD2 hS2 (by rw [qE_loc, i32_of]; exact hl2) (qE_fs kb.1 kb.2 (by omega) (by omega) (by omega) (by omega) (by decide) (by decide) (by decide) (by decide) (by decide)) (zCo.env (show zCo tF ρ γ (fun _ => 0) [] es2 from hC2)) ?_ ?_
    · intro pc lo sk ca fa nf η3 H3 locs3 ls3 es3 hpc hhk V3
      have hpc := xmN1 hpc
      subst hpc
      have hf3 : zfrm [] es2 es3 := V3.2.2.2.2.2.2.2.2
      have hs3 := V3.2.2.2.2.1
      have g1 : η3 1 = k.toInt := V3.2.2.2.2.2.2.1 1 (by decide)
      have g2 : η3 2 = (n : Int) := V3.2.2.2.2.2.2.1 2 (by decide)
      have g3 : η3 3 = (i : Int) := V3.2.2.2.2.2.2.1 3 (by decide)
      unfold fsH17 at hhk
      simp only [Bool.and_eq_true] at hhk
      obtain ⟨k1, k2, k3, k4⟩ := hhk
      obtain ⟨kk, ii, cc, rfl, z1, z2, z3⟩ := fsS27_ok k2
      have hC3 := zCo.flush hs3 V3.2.2.2.2.2.2.2.1 k1 (fun _ => 0)
      have hi40 : i ≤ 40 := by
        obtain ⟨w, w0, w1, w2, w3⟩ := hIn_ok hs3 k4
        cases w0
        have w2 : 1 * η3 3 + 0 ≤ 40 := w2
        omega
      have hls3 := hst lo η3 ls3 _ _ (n : Int) (i : Int) V3.2.2.2.1 g1 (by show 1 * η3 2 + 0 = _; omega) (by show 1 * η3 3 + 0 = _; omega) k3
      show W p l e (zrmS (10, 264)) s m _ below meth c H3 locs3 0 0 _ (F0 m 27 ls3 ([.int (zi η3 ii), .int (zi η3 kk)].reverse ++ .ref (ρ 56) :: [.int (zi η3 cc)]))
      rw [zi_sym z1, zi_sym z2, zi_sym z3, g1, g2, g3, i32_of]
      obtain ⟨rr, hr2, o2, na2, ml2⟩ := shp_ok shp_95
      obtain ⟨lk1, lk2, lk3, hlk⟩ := lk_fit
      obtain ⟨-, m1, m2⟩ := fvx hC3 (k := 57) (a := 0) (b := 30) (by decide +kernel) rfl
      obtain ⟨nn, hnn⟩ : ∃ nn : Nat, zfd es3 56 57 = nn := ⟨(zfd es3 56 57).toNat, by omega⟩
      have hM : zHM tF D l 95 (1, 64) ρ γ es3 (.ref (ρ 56) :: [.int (Int32.ofInt i), .int k]) _ := c_fit (D := D) (l := l) (ρ := ρ) (γ := γ) (es := es3) hC3 (i := i) hi40 k hnn
      refine zcallH (T := tF) (ρ := ρ) (γ := γ) (As := [.int (Int32.ofInt i), .int k]) (rs := [.int (Int32.ofInt n)]) B1 V3.1 V3.2.1 V3.2.2.1 V3.2.2.2.1.1 hC3 (xpc_105_27 r hr) (link11 (r := zhR r (10, 264)) hlk ho) hr2 (i0 := 56) (fs := fs56) (by rw [o2]; exact h56) (by rw [na2]; rfl) (show 1 + 0 ≤ 8 by decide) (rm := (1, 64)) ⟨by show 1 + 1 ≤ 10; decide, by rw [ml2]; show 8 + (4 + 11) + 64 ≤ 264; decide⟩ hM ?_
      intro v es4 H4 locs4 hP4 hD4 hS4 hC4 hR4
      obtain ⟨x, rfl, hf4, hd4⟩ := hR4
      have hd4 := dFit_1 hnn hd4
      have hxb : 0 ≤ x.toInt ∧ x.toInt ≤ 1 := by rcases hd4 with ⟨h, -⟩ | ⟨h, -⟩ <;> omega
      have hc := fs_30
      unfold fsRun at hc
      rw [hrw] at hc
      have hsk : (some (Value.int x)).toList ++ [.int (Int32.ofInt (n : Int))] = [Sum.inl (zsym 4), Sum.inl (zsym 2)].map (zv ρ (qE k.toInt n i x.toInt)) := by
        show [Value.int x, .int (Int32.ofInt (n : Int))] = [Value.int (Int32.ofInt (1 * x.toInt + 0)), Value.int (Int32.ofInt (1 * (n : Int) + 0))]
        rw [Int.one_mul, Int.add_zero, Int.one_mul, Int.add_zero, i32_of]
      rw [hsk]
      refine zseg (ρ := ρ) (γ := γ) (η := qE k.toInt n i x.toInt) (sk := [.inl (zsym 4), .inl (zsym 2)]) B1 (hsF0 es4) hc hP4 hD4 hS4 (by rw [qE_loc, i32_of]; exact hls3) (qE_fs kb.1 kb.2 (by omega) (by omega) (by omega) (by omega) hxb.1 hxb.2 (by decide) (by decide) (by decide)) (zCo.env (show zCo tF ρ γ (fun _ => 0) [] es4 from hC4)) ?_ (fun _ _ _ _ _ _ _ _ _ _ _ _ h => by cases h)
      intro pc lo sk ca fa nf η5 H5 locs5 ls5 es5 hpc hhk V5
      have hpc := xmN1 hpc
      subst hpc
      have hf5 : zfrm [] es4 es5 := V5.2.2.2.2.2.2.2.2
      have g1 : η5 1 = k.toInt := V5.2.2.2.2.2.2.1 1 (by decide)
      have g2 : η5 2 = (n : Int) := V5.2.2.2.2.2.2.1 2 (by decide)
      have g3 : η5 3 = (i : Int) := V5.2.2.2.2.2.2.1 3 (by decide)
      have g4 : η5 4 = x.toInt := V5.2.2.2.2.2.2.1 4 (by decide)
      unfold fsH30 at hhk
      simp only [Bool.and_eq_true, Bool.or_eq_true] at hhk
      obtain ⟨q1, q2, q3⟩ := hhk
      have q2 := skN_ok q2
      subst q2
      have hC5 := zCo.flush V5.2.2.2.2.1 V5.2.2.2.2.2.2.2.1 q1 (fun _ => 0)
      have hf35 : zfrm [] es3 es5 := zfrm.trans (w1 := []) hf4 hf5 (by decide)
      have hf25 : zfrm [] es2 es5 := zfrm.trans (w1 := []) hf3 hf35 (by decide)
      have hf05 : zfrm fsWr es es5 := zfrm.trans (w1 := fsWr) hf2 hf25 (by decide)
      have o1 : 41 - (i + 1) < N := lt41 hN hi40
      have o2 : i + 1 ≤ 41 := Nat.succ_le_succ hi40
      have o3 : n ≤ i + 1 := Nat.le_succ_of_le hn
      have o4 : 1 ≤ n → ∃ i : Nat, i ≤ 40 ∧ dAll es5 i k.toInt := fun z => by
        obtain ⟨i9, h9, h10⟩ := hall z
        exact ⟨i9, h9, dAll_kept hf25 h10⟩
      rcases q3 with ⟨q3, q4⟩ | ⟨q3, q4⟩
      · exact ih (i + 1) n H5 locs5 ls5 es5 o1 o2 o3 o4 V5.1 V5.2.1 V5.2.2.1 hC5 hf05 (hst lo η5 ls5 _ _ (n : Int) ((i + 1 : Nat) : Int) V5.2.2.2.1 g1 (by show 1 * η5 2 + 0 = _; omega) (by show 1 * η5 3 + 1 = _; omega) q4)
      · have hx1 : x.toInt = 1 := by
          obtain ⟨w, w0, w1, w2, w3⟩ := hIn_ok V5.2.2.2.2.1 q3
          cases w0
          have w1 : 1 ≤ 1 * η5 4 + 0 := w1
          omega
        have hd : dAll es3 i k.toInt := by
          rcases hd4 with ⟨-, h⟩ | ⟨h, -⟩
          · exact h
          · omega
        exact ih (i + 1) (n + 1) H5 locs5 ls5 es5 o1 o2 (Nat.succ_le_succ hn) (fun _ => ⟨i, hi40, dAll_kept hf35 hd⟩) V5.1 V5.2.1 V5.2.2.1 hC5 hf05 (hst lo η5 ls5 _ _ ((n + 1 : Nat) : Int) ((i + 1 : Nat) : Int) V5.2.2.2.1 g1 (by show 1 * η5 2 + 1 = _; omega) (by show 1 * η5 3 + 1 = _; omega) q4)
    · intro pc v lo ca fa nf η5 H5 locs5 ls5 es5 V5 hfin hx5
      have hf5 : zfrm [] es2 es5 := V5.2.2.2.2.2.2.2.2
      unfold fsF17 at hfin
      rw [Bool.and_eq_true] at hfin
      obtain ⟨q1, q2⟩ := hfin
      obtain ⟨w, w0, w1⟩ := hI_ok q2
      subst w0
      have g2 : η5 2 = (n : Int) := V5.2.2.2.2.2.2.1 2 (by decide)
      have hz : (zi η5 w).toInt = n := by
        unfold zi
        rw [w1]
        show (Int32.ofInt (1 * η5 2 + 0)).toInt = _
        rw [g2, Int.one_mul, Int.add_zero]
        exact i32_big (by omega) (by omega)
      exact hret _ pc (some (.inl w)) η5 H5 locs5 ls5 hx5 V5.2.2.1 (fun t ht hK hF => ⟨⟨_, es5, rfl, by rw [ht]; exact V5.1, hK, V5.2.1, zCo.flush V5.2.2.2.2.1 V5.2.2.2.2.2.2.2.1 q1 _, zi η5 w, rfl, zfrm.trans (w1 := fsWr) hf2 hf5 (by decide), by rw [hz]; omega, fun z => by
        obtain ⟨i9, h9, h10⟩ := hall (by omega)
        exact ⟨i9, h9, dAll_kept hf5 h10⟩⟩, hF⟩)
  have hc := fs_0
  unfold fsRun at hc
  rw [hrw] at hc
  refine zseg (ρ := ρ) (γ := γ) (η := qE k.toInt 0 0 0) (sk := []) B1 (hsF es hpN) hc hP hD va_S.rf (by
    show lv_has ls r.2.2.1 [(0, Value.ref (ρ 56)), (1, Value.int (Int32.ofInt (1 * k.toInt + 0)))]
    rw [Int.one_mul, Int.add_zero, i32_of]
    exact hl) (qE_fs kb.1 kb.2 (by decide) (by decide) (by decide) (by decide) (by decide) (by decide) (by decide) (by decide) (by decide)) (zCo.env (show zCo tF ρ γ (fun _ => 0) [] es from hco)) ?_ ?_
  · intro pc lo sk ca fa nf η3 H3 locs3 ls3 es3 hpc hhk V3
    have hpc := xmN1 hpc
    subst hpc
    have hf3 : zfrm fsWr es es3 := V3.2.2.2.2.2.2.2.2
    unfold fsH0 at hhk
    simp only [Bool.and_eq_true] at hhk
    obtain ⟨q1, q2, q3⟩ := hhk
    have q2 := skN_ok q2
    subst q2
    exact key 42 0 0 H3 locs3 ls3 es3 (by decide) (by decide) (Nat.le_refl _) (fun z => absurd z (by decide)) V3.1 V3.2.1 V3.2.2.1 (zCo.flush V3.2.2.2.2.1 V3.2.2.2.2.2.2.2.1 q1 (fun _ => 0)) hf3 (hst lo η3 ls3 _ _ _ _ V3.2.2.2.1 (V3.2.2.2.2.2.2.1 1 (by decide)) rfl rfl q3)
  · intro pc v lo ca fa nf η5 H5 locs5 ls5 es5 V5 hfin hx5
    have hf5 : zfrm fsWr es es5 := V5.2.2.2.2.2.2.2.2
    unfold fsF0 at hfin
    rw [Bool.and_eq_true] at hfin
    obtain ⟨q1, q2⟩ := hfin
    obtain ⟨w, w0, w1⟩ := hI_ok q2
    subst w0
    have hz : (zi η5 w).toInt = 0 := by unfold zi; rw [w1]; exact (show (Int32.ofInt 0).toInt = 0 by decide)
    exact hret _ pc (some (.inl w)) η5 H5 locs5 ls5 hx5 V5.2.2.1 (fun t ht hK hF => ⟨⟨_, es5, rfl, by rw [ht]; exact V5.1, hK, V5.2.1, zCo.flush V5.2.2.2.2.1 V5.2.2.2.2.2.2.2.1 q1 _, zi η5 w, rfl, hf5, by rw [hz]; decide, fun z => by omega⟩, hF⟩)
