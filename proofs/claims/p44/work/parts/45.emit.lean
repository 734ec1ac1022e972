def eE (a b k : Int) : zE := fun i => if i = 1 then a else if i = 2 then b else if i = 60 then k else 0
theorem eE_bd {a b k : Int} (h1 : zbd a) (h2 : zbd b) (h3 : zbd k) : ∀ i, zbd (eE a b k i) := by
  intro i
  unfold eE
  split
  · exact h1
  · split
    · exact h2
    · split
      · exact h3
      · exact ⟨by decide, by decide⟩
theorem eE_sat {x y : Int32} {k : Nat} {hi : Int} (h : (k : Int) ≤ hi) (h2 : hi ≤ 2147483647) : zsat (eE x.toInt y.toInt k) (emFs hi, [], []) := by
  have b1 := i32_bd x
  have b2 := i32_bd y
  refine ⟨eE_bd (zbd32 x) (zbd32 y) (zbd_of (by omega) (by omega)), fun q hq => ?_, fun q hq => (by cases hq), fun q hq => (by cases hq)⟩
  rcases List.mem_cons.mp hq with e | e
  · rw [e]; exact ⟨b1.1, b1.2, fun _ z => by cases z⟩
  · rcases List.mem_cons.mp e with e | e
    · rw [e]; exact ⟨b2.1, b2.2, fun _ z => by cases z⟩
    · rcases List.mem_singleton.mp e with rfl
      exact ⟨by show (0 : Int) ≤ k; omega, h, fun _ z => by cases z⟩
theorem eE_loc {ρ : Nat → Nat} {x y : Int32} {k : Nat} : zdL ρ (eE x.toInt y.toInt k) em3 = [(0, .ref (ρ 56)), (1, .int x), (2, .int y)] := by
  show [(0, Value.ref (ρ 56)), (1, Value.int (Int32.ofInt (1 * x.toInt + 0))), (2, Value.int (Int32.ofInt (1 * y.toInt + 0)))] = _
  rw [Int.one_mul, Int.one_mul, Int.add_zero, Int.add_zero, i32_of, i32_of]
theorem eE_co {ρ : Nat → Nat} {γ : Nat → ClassId} {es : va_W} {x y : Int32} {k fld : Nat} (hco : zCo zD0 ρ γ (fun _ => 0) [] es) (hk : zfv es 56 fld = some (.int (Int32.ofInt k))) : zCo zD0 ρ γ (eE x.toInt y.toInt k) [((56, .inl fld), .inl (zsym 60))] es := by
  refine zCo.add (zCo.env hco) ⟨?_, fun ix z => by cases z⟩
  show zfv es 56 fld = some (.int (Int32.ofInt (1 * (k : Int) + 0)))
  rw [hk, Int.one_mul, Int.add_zero]
theorem xmN1 {a b : Nat} (h : xmN [a] b = true) : b = a := by
  unfold xmN at h
  cases e : Nat.beq a b with
  | true => exact (Nat.eq_of_beq_eq_true e).symm
  | false => rw [e] at h; cases h
theorem emRow {mi : Nat} {r : xR} (hr : (gt xmt mi).bind xrow = some r) : ((gt xmt mi).bind xrow).map (fun r => zhR r (1, 64)) = some (zhR r (1, 64)) := by
  rw [hr]
  rfl
theorem noHS0 {D : va_G} {l : Launch} {wr : List Nat} (es1 : va_W) : ∀ (es2 : va_W), zfrm wr es1 es2 → ∀ (j : Nat) (sm : zSm), j < 0 → zD0.1[j]? = some sm → zSOe zD0 D l sm es2 := fun _ _ _ _ h => absurd h (Nat.not_lt_zero _)
theorem zfv_set {es es2 : va_W} {i j k : Nat} (h : ∀ j, j ≠ i → es2[j]? = es[j]?) (hj : j ≠ i) : zfv es2 j k = zfv es j k := by
  unfold zfv
  rw [h j hj]
theorem zfrm_wid {w w2 : List Nat} {es es2 : va_W} (h : zfrm w es es2) (hs : zsub w w2 = true) : zfrm w2 es es2 := zfrm.trans (zfrm.refl _ _) h hs
theorem zar_set {es es2 : va_W} {i j : Nat} (h : ∀ j, j ≠ i → es2[j]? = es[j]?) (hj : j ≠ i) : zar es2 j = zar es j := by
  unfold zar
  rw [h j hj]
theorem xpcE {mi pc : Nat} {i : Instr × Nat} (h : ((gt xmt mi).bind xrow).map (fun r => decide (xfi r.2.2.2.2.2.2.2 pc = some i)) = some true) (r : xR) (hr : (gt xmt mi).bind xrow = some r) : xfi r.2.2.2.2.2.2.2 pc = some i := by
  rw [hr] at h
  exact of_decide_eq_true (Option.some.inj h)
theorem xpc_99_9 : ∀ r : xR, (gt xmt 99).bind xrow = some r → xfi r.2.2.2.2.2.2.2 9 = some (.iastore, 1) := xpcE (by decide +kernel)
theorem xpc_167_9 : ∀ r : xR, (gt xmt 167).bind xrow = some r → xfi r.2.2.2.2.2.2.2 9 = some (.iastore, 1) := xpcE (by decide +kernel)
theorem xpc_167_19 : ∀ r : xR, (gt xmt 167).bind xrow = some r → xfi r.2.2.2.2.2.2.2 19 = some (.iastore, 1) := xpcE (by decide +kernel)
set_option maxHeartbeats 4000000 in
theorem c_emit {D : va_G} {l : Launch} {ρ : Nat → Nat} {γ : Nat → ClassId} {es : va_W} (hco : zCo zD0 ρ γ (fun _ => 0) [] es) {k : Nat} (hk : zfv es 56 36 = some (.int (Int32.ofInt k))) (h18 : k ≤ 1118) (cw nw : Int32) : zHM zD0 D l 99 (1, 64) ρ γ es [.ref (ρ 56), .int cw, .int nw] (fun v es2 => v = none ∧ zfrm [4928, 4992, 3620, 4677] es es2 ∧ zar es2 77 = upd (zar es 77) k cw ∧ zfd es2 56 36 = k + 1) := by
  intro r hr sz
  refine zent (ρ := ρ) hr (by
    show 3 ≤ r.2.2.1
    exact zfl1_cat (sm := (99, (1, 64), [.inr (.inl (some 56)), .inl (0, 0), .inl (0, 0)], none, [], [], (([], []), []))) (by decide +kernel) r hr) ?_
  intro p e s m below meth c ls hsz B hP hD hl hret
  have b1 := i32_bd cw
  have b2 := i32_bd nw
  have hkk : (Int32.ofInt (k : Int)).toInt = (k : Int) := i32_big (by omega) (by omega)
  have n1 : ∀ η3 : zE, zag 100 (eE cw.toInt nw.toInt k) η3 → zi η3 (zsym 1) = cw ∧ zi η3 (zsym 2) = nw ∧ zi η3 (zsym 60) = Int32.ofInt (k : Int) := fun η3 h => by
    have a1 : η3 1 = cw.toInt := h 1 (by decide)
    have a2 : η3 2 = nw.toInt := h 2 (by decide)
    have a3 : η3 60 = (k : Int) := h 60 (by decide)
    refine ⟨?_, ?_, ?_⟩
    · show Int32.ofInt (1 * η3 1 + 0) = _; rw [a1, Int.one_mul, Int.add_zero, i32_of]
    · show Int32.ofInt (1 * η3 2 + 0) = _; rw [a2, Int.one_mul, Int.add_zero, i32_of]
    · show Int32.ofInt (1 * η3 60 + 0) = _; rw [a3, Int.one_mul, Int.add_zero]
  have hc := em_0
  unfold emRun at hc
  rw [emRow hr] at hc
  refine zseg (ρ := ρ) (γ := γ) (η := eE cw.toInt nw.toInt k) (sk := []) B (noHS0 es) hc hP hD va_S.rf (by rw [eE_loc]; exact hl) (eE_sat (by omega) (by decide)) (eE_co hco hk) ?_ ?_
  · intro pc lo sk ca fa nf η3 H3 locs3 ls3 es3 hpc hhk V3
    have hpc := xmN1 hpc
    subst hpc
    unfold emHk at hhk
    simp only [Bool.and_eq_true] at hhk
    obtain ⟨k1, k2, k3, k4, k9⟩ := hhk
    split at k9
    rotate_left
    · cases k9
    rename_i x ix i
    simp only [Bool.and_eq_true] at k9
    obtain ⟨j1, j2, j3⟩ := k9
    have j1 := Nat.eq_of_beq_eq_true j1
    subst j1
    obtain ⟨w1, w2, w3⟩ := n1 η3 V3.2.2.2.2.2.2.1
    have z1 : zi η3 x = cw := by
      unfold zi
      rw [zeB_ok j2]
      exact w1
    have z2 : zi η3 ix = Int32.ofInt (k : Int) := by
      unfold zi
      rw [zeB_ok j3]
      exact w3
    show W p l e (zrmS (1, 64)) s m _ below meth c H3 locs3 0 0 _ (F0 m 9 ls3 (.int (zi η3 x) :: .int (zi η3 ix) :: .ref (ρ 77) :: []))
    rw [z1, z2]
    have hC3 := zCo.flush V3.2.2.2.2.1 V3.2.2.2.2.2.2.2.1 k1 (fun _ => 0)
    have hf3 := V3.2.2.2.2.2.2.2.2
    obtain ⟨f0, g0, -⟩ := hC3.1 77 .int 1120 [(-2147483648, 2147483647)] rfl (by decide)
    refine zstoreH (ρ := ρ) (γ := γ) (i := 77) (n := 1120) (q := (-2147483648, 2147483647)) B V3.1 V3.2.1 V3.2.2.1 hC3 (by
      have := xpc_99_9 r hr
      exact this) rfl (by rw [hkk]; omega) (by rw [hkk]; omega) (i32_bd _) ?_
    intro es4 H4 locs4 he4 hP4 hD4 hS4 hC4 hz4 ho4
    rw [hkk, Int.toNat_natCast] at hz4
    have hf4 : zfrm [4928, 4677] es es4 := zfrm.trans (w1 := [4928, 4677]) (w2 := [4928, 4677]) (zfrm_wid V3.2.2.2.2.2.2.2.2 (by decide)) (zfrm_store (ρ := ρ) (γ := γ) g0 rfl he4 (by decide) (by decide)) (by decide)
    have hk4 : zfv es4 56 36 = some (.int (Int32.ofInt k)) := zfv_kept hf4 (by decide) (by decide) hk
    have l0 := hRf_ok k2
    obtain ⟨x1, l1, v1⟩ := hI_ok k3
    obtain ⟨x2, l2, v2⟩ := hI_ok k4
    have hl4 : lv_has ls3 r.2.2.1 [(0, .ref (ρ 56)), (1, .int cw), (2, .int nw)] := by
      rw [← eE_loc (k := k)]
      refine lvh V3.2.2.2.1 (fun q hq => ?_)
      rcases List.mem_cons.mp hq with e | e
      · rw [e]; exact ⟨_, l0, rfl⟩
      · rcases List.mem_cons.mp e with e | e
        · rw [e]
          refine ⟨_, l1, zv_int ?_⟩
          rw [v1]
          show 1 * η3 1 + 0 = 1 * cw.toInt + 0
          rw [V3.2.2.2.2.2.2.1 1 (by decide)]
          rfl
        · rcases List.mem_singleton.mp e with rfl
          refine ⟨_, l2, zv_int ?_⟩
          rw [v2]
          show 1 * η3 2 + 0 = 1 * nw.toInt + 0
          rw [V3.2.2.2.2.2.2.1 2 (by decide)]
          rfl
    have hc := em_10
    unfold emRun at hc
    rw [emRow hr] at hc
    refine zseg (ρ := ρ) (γ := γ) (η := eE cw.toInt nw.toInt k) (sk := []) B (noHS0 es4) hc hP4 hD4 hS4 (by rw [eE_loc]; exact hl4) (eE_sat (by omega) (by decide)) (eE_co hC4 hk4) (fun _ _ _ _ _ _ _ _ _ _ _ h => by cases h) ?_
    intro pc v lo ca fa nf η5 H5 locs5 ls5 es5 V5 hfin hx
    unfold emFin at hfin
    simp only [Bool.and_eq_true] at hfin
    obtain ⟨q1, q2, q3⟩ := hfin
    cases v with
    | some v => cases q2
    | none =>
    obtain ⟨y, y1, y2⟩ := hI_ok q3
    have h5 : zfv es5 56 36 = some (.int (zi η5 y)) := (V5.2.2.2.2.2.2.2.1.2.2.2.2 _ (zcF_some y1)).1
    have h6 : (zi η5 y).toInt = (k : Int) + 1 := by
      unfold zi
      rw [y2]
      show (Int32.ofInt (1 * η5 60 + 1)).toInt = _
      rw [V5.2.2.2.2.2.2.1 60 (by decide)]
      show (Int32.ofInt (1 * (k : Int) + 1)).toInt = _
      rw [Int.one_mul]
      exact i32_big (by omega) (by omega)
    have hf5 : zfrm [4992, 3620, 4677] es4 es5 := V5.2.2.2.2.2.2.2.2
    refine hret [] pc none η5 H5 locs5 ls5 hx V5.2.2.1 (fun t ht hK hF => ⟨⟨none, es5, rfl, by rw [ht]; exact V5.1, hK, V5.2.1, zCo.flush V5.2.2.2.2.1 V5.2.2.2.2.2.2.2.1 q1 _, rfl, zfrm.trans (w1 := [4928, 4992, 3620, 4677]) (zfrm_wid hf4 (by decide)) hf5 (by decide), ?_, ?_⟩, hF⟩)
    · rw [zar_kept hf5 (by decide), hz4, zar_kept hf3 (by decide)]
    · rw [zfd_of h5, h6]
  · intro pc v lo ca fa nf η3 H3 locs3 ls3 es3 V h
    cases h
set_option maxHeartbeats 4000000 in
theorem c_pushE {D : va_G} {l : Launch} {ρ : Nat → Nat} {γ : Nat → ClassId} {es : va_W} (hco : zCo zD0 ρ γ (fun _ => 0) [] es) {k : Nat} (hk : zfv es 56 38 = some (.int (Int32.ofInt k))) (h18 : k ≤ 88) (cw nw : Int32) : zHM zD0 D l 167 (1, 64) ρ γ es [.ref (ρ 56), .int cw, .int nw] (fun v es2 => v = none ∧ zfrm [5056, 5120, 3622, 4677] es es2 ∧ zar es2 79 = upd (zar es 79) k cw ∧ zar es2 80 = upd (zar es 80) k nw ∧ zfd es2 56 38 = k + 1) := by
  intro r hr sz
  refine zent (ρ := ρ) hr (by
    show 3 ≤ r.2.2.1
    exact zfl1_cat (sm := (167, (1, 64), [.inr (.inl (some 56)), .inl (0, 0), .inl (0, 0)], none, [], [], (([], []), []))) (by decide +kernel) r hr) ?_
  intro p e s m below meth c ls hsz B hP hD hl hret
  have b1 := i32_bd cw
  have b2 := i32_bd nw
  have hkk : (Int32.ofInt (k : Int)).toInt = (k : Int) := i32_big (by omega) (by omega)
  have n1 : ∀ η3 : zE, zag 100 (eE cw.toInt nw.toInt k) η3 → zi η3 (zsym 1) = cw ∧ zi η3 (zsym 2) = nw ∧ zi η3 (zsym 60) = Int32.ofInt (k : Int) := fun η3 h => by
    have a1 : η3 1 = cw.toInt := h 1 (by decide)
    have a2 : η3 2 = nw.toInt := h 2 (by decide)
    have a3 : η3 60 = (k : Int) := h 60 (by decide)
    refine ⟨?_, ?_, ?_⟩
    · show Int32.ofInt (1 * η3 1 + 0) = _; rw [a1, Int.one_mul, Int.add_zero, i32_of]
    · show Int32.ofInt (1 * η3 2 + 0) = _; rw [a2, Int.one_mul, Int.add_zero, i32_of]
    · show Int32.ofInt (1 * η3 60 + 0) = _; rw [a3, Int.one_mul, Int.add_zero]
  have hc := pu_0
  unfold emRun at hc
  rw [emRow hr] at hc
  refine zseg (ρ := ρ) (γ := γ) (η := eE cw.toInt nw.toInt k) (sk := []) B (noHS0 es) hc hP hD va_S.rf (by rw [eE_loc]; exact hl) (eE_sat (by omega) (by decide)) (eE_co hco hk) ?_ ?_
  · intro pc lo sk ca fa nf η3 H3 locs3 ls3 es3 hpc hhk V3
    have hpc := xmN1 hpc
    subst hpc
    unfold emHk at hhk
    simp only [Bool.and_eq_true] at hhk
    obtain ⟨k1, k2, k3, k4, k9⟩ := hhk
    split at k9
    rotate_left
    · cases k9
    rename_i x ix i
    simp only [Bool.and_eq_true] at k9
    obtain ⟨j1, j2, j3⟩ := k9
    have j1 := Nat.eq_of_beq_eq_true j1
    subst j1
    obtain ⟨w1, w2, w3⟩ := n1 η3 V3.2.2.2.2.2.2.1
    have z1 : zi η3 x = cw := by
      unfold zi
      rw [zeB_ok j2]
      exact w1
    have z2 : zi η3 ix = Int32.ofInt (k : Int) := by
      unfold zi
      rw [zeB_ok j3]
      exact w3
    show W p l e (zrmS (1, 64)) s m _ below meth c H3 locs3 0 0 _ (F0 m 9 ls3 (.int (zi η3 x) :: .int (zi η3 ix) :: .ref (ρ 79) :: []))
    rw [z1, z2]
    have hC3 := zCo.flush V3.2.2.2.2.1 V3.2.2.2.2.2.2.2.1 k1 (fun _ => 0)
    have hf3 := V3.2.2.2.2.2.2.2.2
    obtain ⟨f0, g0, -⟩ := hC3.1 79 .int 90 [(-2147483648, 2147483647)] rfl (by decide)
    refine zstoreH (ρ := ρ) (γ := γ) (i := 79) (n := 90) (q := (-2147483648, 2147483647)) B V3.1 V3.2.1 V3.2.2.1 hC3 (by
      have := xpc_167_9 r hr
      exact this) rfl (by rw [hkk]; omega) (by rw [hkk]; omega) (i32_bd _) ?_
    intro es4 H4 locs4 he4 hP4 hD4 hS4 hC4 hz4 ho4
    rw [hkk, Int.toNat_natCast] at hz4
    have hf4 : zfrm [5056, 4677] es es4 := zfrm.trans (w1 := [5056, 4677]) (w2 := [5056, 4677]) (zfrm_wid V3.2.2.2.2.2.2.2.2 (by decide)) (zfrm_store (ρ := ρ) (γ := γ) g0 rfl he4 (by decide) (by decide)) (by decide)
    have hk4 : zfv es4 56 38 = some (.int (Int32.ofInt k)) := zfv_kept hf4 (by decide) (by decide) hk
    have l0 := hRf_ok k2
    obtain ⟨x1, l1, v1⟩ := hI_ok k3
    obtain ⟨x2, l2, v2⟩ := hI_ok k4
    have hl4 : lv_has ls3 r.2.2.1 [(0, .ref (ρ 56)), (1, .int cw), (2, .int nw)] := by
      rw [← eE_loc (k := k)]
      refine lvh V3.2.2.2.1 (fun q hq => ?_)
      rcases List.mem_cons.mp hq with e | e
      · rw [e]; exact ⟨_, l0, rfl⟩
      · rcases List.mem_cons.mp e with e | e
        · rw [e]
          refine ⟨_, l1, zv_int ?_⟩
          rw [v1]
          show 1 * η3 1 + 0 = 1 * cw.toInt + 0
          rw [V3.2.2.2.2.2.2.1 1 (by decide)]
          rfl
        · rcases List.mem_singleton.mp e with rfl
          refine ⟨_, l2, zv_int ?_⟩
          rw [v2]
          show 1 * η3 2 + 0 = 1 * nw.toInt + 0
          rw [V3.2.2.2.2.2.2.1 2 (by decide)]
          rfl
    have hc := pu_10
    unfold emRun at hc
    rw [emRow hr] at hc
    have hzA : zar es4 79 = upd (zar es 79) k cw := by rw [hz4, zar_kept hf3 (by decide)]
    clear hz4 hf3 hC3 V3 k1 k2 k3 k4 j2 j3 l0 l1 l2 v1 v2 w1 w2 w3 z1 z2 g0 he4 ho4
    refine zseg (ρ := ρ) (γ := γ) (η := eE cw.toInt nw.toInt k) (sk := []) B (noHS0 es4) hc hP4 hD4 hS4 (by rw [eE_loc]; exact hl4) (eE_sat (by omega) (by decide)) (eE_co hC4 hk4) ?_ (fun _ _ _ _ _ _ _ _ _ _ _ _ h => by cases h)
    intro pc lo sk ca fa nf η3 H3 locs3 ls7 es7 hpc hhk V3
    have hpc := xmN1 hpc
    subst hpc
    unfold puHk at hhk
    simp only [Bool.and_eq_true] at hhk
    obtain ⟨k1, k2, k9⟩ := hhk
    split at k9
    rotate_left
    · cases k9
    rename_i x ix i
    simp only [Bool.and_eq_true] at k9
    obtain ⟨j1, j2, j3⟩ := k9
    have j1 := Nat.eq_of_beq_eq_true j1
    subst j1
    obtain ⟨w1, w2, w3⟩ := n1 η3 V3.2.2.2.2.2.2.1
    have z1 : zi η3 x = nw := by
      unfold zi
      rw [zeB_ok j2]
      exact w2
    have z2 : zi η3 ix = Int32.ofInt (k : Int) := by
      unfold zi
      rw [zeB_ok j3]
      exact w3
    show W p l e (zrmS (1, 64)) s m _ below meth c H3 locs3 0 0 _ (F0 m 19 ls7 (.int (zi η3 x) :: .int (zi η3 ix) :: .ref (ρ 80) :: []))
    rw [z1, z2]
    have hC3 := zCo.flush V3.2.2.2.2.1 V3.2.2.2.2.2.2.2.1 k1 (fun _ => 0)
    have hf3 := V3.2.2.2.2.2.2.2.2
    obtain ⟨f7, g0, -⟩ := hC3.1 80 .int 90 [(-2147483648, 2147483647)] rfl (by decide)
    refine zstoreH (ρ := ρ) (γ := γ) (i := 80) (n := 90) (q := (-2147483648, 2147483647)) B V3.1 V3.2.1 V3.2.2.1 hC3 (by
      have := xpc_167_19 r hr
      exact this) rfl (by rw [hkk]; omega) (by rw [hkk]; omega) (i32_bd _) ?_
    intro es6 H6 locs6 he6 hP6 hD6 hS6 hC6 hz6 ho6
    rw [hkk, Int.toNat_natCast] at hz6
    have hf6 : zfrm [5056, 5120, 4677] es es6 := zfrm.trans (w1 := [5056, 5120, 4677]) (w2 := [5056, 5120, 4677]) (zfrm_wid hf4 (by decide)) (zfrm.trans (w1 := [5056, 5120, 4677]) (w2 := [5056, 5120, 4677]) (zfrm_wid V3.2.2.2.2.2.2.2.2 (by decide)) (zfrm_store (ρ := ρ) (γ := γ) g0 rfl he6 (by decide) (by decide)) (by decide)) (by decide)
    have hk6 : zfv es6 56 38 = some (.int (Int32.ofInt k)) := zfv_kept hf6 (by decide) (by decide) hk
    have hzB : zar es6 79 = upd (zar es 79) k cw := by rw [zar_set ho6 (by decide), zar_kept hf3 (by decide), hzA]
    have hzC : zar es6 80 = upd (zar es 80) k nw := by rw [hz6, zar_kept hf3 (by decide), zar_kept hf4 (by decide)]
    have l0 := hRf_ok k2
    have hl6 : lv_has ls7 r.2.2.1 (zdL ρ (eE cw.toInt nw.toInt k) [(0, .inr (.inl (some 56)))]) := lvh V3.2.2.2.1 (fun q hq => by
      rcases List.mem_singleton.mp hq with rfl
      exact ⟨_, l0, rfl⟩)
    have hc := pu_20
    unfold emRun1 at hc
    rw [emRow hr] at hc
    refine zseg (ρ := ρ) (γ := γ) (η := eE cw.toInt nw.toInt k) (sk := []) B (noHS0 es6) hc hP6 hD6 hS6 hl6 (eE_sat (by omega) (by decide)) (eE_co hC6 hk6) (fun _ _ _ _ _ _ _ _ _ _ _ h => by cases h) ?_
    intro pc v lo ca fa nf η5 H5 locs5 ls5 es5 V5 hfin hx
    unfold emFin at hfin
    simp only [Bool.and_eq_true] at hfin
    obtain ⟨q1, q2, q3⟩ := hfin
    cases v with
    | some v => cases q2
    | none =>
    obtain ⟨y, y1, y2⟩ := hI_ok q3
    have h5 : zfv es5 56 38 = some (.int (zi η5 y)) := (V5.2.2.2.2.2.2.2.1.2.2.2.2 _ (zcF_some y1)).1
    have h6 : (zi η5 y).toInt = (k : Int) + 1 := by
      unfold zi
      rw [y2]
      show (Int32.ofInt (1 * η5 60 + 1)).toInt = _
      rw [V5.2.2.2.2.2.2.1 60 (by decide)]
      show (Int32.ofInt (1 * (k : Int) + 1)).toInt = _
      rw [Int.one_mul]
      exact i32_big (by omega) (by omega)
    have hf5 : zfrm [3622, 4677] es6 es5 := V5.2.2.2.2.2.2.2.2
    refine hret [] pc none η5 H5 locs5 ls5 hx V5.2.2.1 (fun t ht hK hF => ⟨⟨none, es5, rfl, by rw [ht]; exact V5.1, hK, V5.2.1, zCo.flush V5.2.2.2.2.1 V5.2.2.2.2.2.2.2.1 q1 _, rfl, zfrm.trans (w1 := [5056, 5120, 3622, 4677]) (zfrm_wid hf6 (by decide)) hf5 (by decide), ?_, ?_, ?_⟩, hF⟩)
    · rw [zar_kept hf5 (by decide), hzB]
    · rw [zar_kept hf5 (by decide), hzC]
    · rw [zfd_of h5, h6]
  · intro pc v lo ca fa nf η3 H3 locs3 ls3 es3 V h
    cases h
