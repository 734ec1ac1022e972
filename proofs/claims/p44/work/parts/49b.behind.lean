theorem xpc_79_11 : ∀ r : xR, (gt xmt 79).bind xrow = some r → xfi r.2.2.2.2.2.2.2 11 = some (.invokevirtual 318, 3) := xpcE (by decide +kernel)
theorem xpc_79_98 : ∀ r : xR, (gt xmt 79).bind xrow = some r → xfi r.2.2.2.2.2.2.2 98 = some (.invokevirtual 312, 3) := xpcE (by decide +kernel)
theorem xpc_79_138 : ∀ r : xR, (gt xmt 79).bind xrow = some r → xfi r.2.2.2.2.2.2.2 138 = some (.invokevirtual 299, 3) := xpcE (by decide +kernel)
theorem lk_comp : ∃ g1 g2 g3, xfi (xml 11) 318 = some (0, 127, g1, g2, g3) := ⟨_, _, _, rfl⟩
theorem hIn_ar {ρ : Nat → Nat} {η : zE} {fa : zFa} {ca : zCa} {es : va_W} (hs : zsat η fa) (hh : zcH ρ η ca es) {i : Nat} {ix : zI} {a b : Int} (h : hIn fa (zcA i ix ca) a b = true) {j : Nat} (hj : zd η ix = (j : Int)) : a ≤ (zar es i j).toInt ∧ (zar es i j).toInt ≤ b := by
  obtain ⟨x, x0, x1, x2, x3⟩ := hIn_ok hs h
  obtain ⟨w, w1, w2⟩ := zcA_some (η := η) x0
  have h8 : zav es i (zd η w).toNat = some (.int (zi η x)) := (hh _ w1).1
  rw [w2, hj, Int.toNat_natCast] at h8
  rw [zav_zar h8, x3]
  exact ⟨x1, x2⟩
theorem cA_ar {ρ : Nat → Nat} {η : zE} {fa : zFa} {ca : zCa} {es : va_W} (hs : zsat η fa) (hh : zcH ρ η ca es) {i : Nat} {ix t : zI} (h : zcA i ix ca = some (.inl t)) {j : Nat} (hj : zd η ix = (j : Int)) : zar es i j = zi η t := by
  obtain ⟨w, w1, w2⟩ := zcA_some (η := η) h
  have h8 : zav es i (zd η w).toNat = some (.int (zi η t)) := (hh _ w1).1
  rw [w2, hj, Int.toNat_natCast] at h8
  exact zav_zar h8
theorem hNe_ar {ρ : Nat → Nat} {η : zE} {fa : zFa} {ca : zCa} {es : va_W} (hs : zsat η fa) (hh : zcH ρ η ca es) {i : Nat} {ix : zI} {a b z : Int} (h0 : hIn fa (zcA i ix ca) a b = true) (h : hNe fa (zcA i ix ca) z = true) {j : Nat} (hj : zd η ix = (j : Int)) : (zar es i j).toInt ≠ z := by
  obtain ⟨x, x0, x1, x2, x3⟩ := hIn_ok hs h0
  obtain ⟨y, y0, y1⟩ := hNe_ok hs h
  rw [x0] at y0
  cases y0
  rw [cA_ar hs hh x0 hj, x3]
  exact y1
set_option maxHeartbeats 16000000 in
theorem be_sk {sk : List zV} (h : (match sk with
    | [.inr (.inl (some i))] => Nat.beq i 56
    | _ => false) = true) : sk = [.inr (.inl (some 56))] := by
  split at h
  · rename_i i
    have h := Nat.eq_of_beq_eq_true h
    rw [h]
  · cases h
theorem c_behind {D : va_G} {l : Launch} {ρ : Nat → Nat} {γ : Nat → ClassId} {es : va_W} (hco : zCo zD0 ρ γ (fun _ => 0) [] es) {cg : Nat → Int32} {k0 : Nat} (hJ : kJ cg k0 false es) (hgood : zfd es 56 4 = 0) (htok : 0 ≤ zfd es 56 8 ∧ zfd es 56 8 ≤ 5) (hpos : 1 ≤ zfd es 56 38) : zHM tU D l 79 (4, 129) ρ γ es [.ref (ρ 56)] (fun v es2 => ∃ x : Int32, v = some (.int x) ∧ (x.toInt = 0 ∨ x.toInt = 1) ∧ zfrm [3588, 3589, 3590, 3591, 3592, 3593, 3594, 3620, 3621, 3622, 3623, 3904, 4928, 4992, 5056, 5120, 4677] es es2 ∧ (∃ wn, kJ cg k0 wn es2 ∧ (zfd es2 56 4 = 0 → wn = decide (x.toInt = 1))) ∧ kB es es2) := by
  obtain ⟨b, p0, nb0, B0, D0, u, kk0, j1, j2, j3, j4, j5, j6, j7, j8, j9, j10, j11, -, j12⟩ := hJ
  obtain ⟨j13, j14⟩ := j12 rfl
  rw [j13] at j11
  obtain ⟨a1, a2⟩ := (fvx hco (k := 6) (a := 0) (b := 1600) (by decide +kernel) rfl).2
  obtain ⟨e1, e2⟩ := (fvx hco (k := 7) (a := 0) (b := 1600) (by decide +kernel) rfl).2
  intro r hr sz
  have ho : r.2.2.2.2.1 = 11 := own_ok (by decide +kernel) hr
  refine zent (ρ := ρ) hr (by
    show 1 ≤ r.2.2.1
    exact zfl1_cat (sm := (79, (4, 129), [.inr (.inl (some 56))], none, [], [], (([], []), []))) (by decide +kernel) r hr) ?_
  intro p e s m below meth c ls hsz B1 hP hD hl hret
  have hrw : ((gt xmt 79).bind xrow).map (fun r => zhR r (4, 129)) = some (zhR r (4, 129)) := by rw [hr]; rfl
  obtain ⟨fs56, h56⟩ := z56
  have hloc : ∀ (η : zE) (rk : Nat), η 1 = (rk : Int) → zdL ρ η beLo = [(0, .ref (ρ 56)), (1, .int (Int32.ofInt rk))] := fun η rk h => by
    show [(0, Value.ref (ρ 56)), (1, Value.int (Int32.ofInt (1 * η 1 + 0)))] = _
    rw [h, Int.one_mul, Int.add_zero]
  -- pushing a rank, then going on
  have keyP : ∀ (rk nb B k q : Nat) (H : Heap) (locs : List Loc) (ls2 : Array Slot) (es2 : va_W) (x : Int32), va_P D vwCl es2 H → va_D (va_A es sz) es2 → va_S (va_A es sz) s.heap H locs → zCo zD0 ρ γ (fun _ => 0) [] es2 → zfrm [3588, 3589, 3620, 3621, 3622, 4928, 4992, 4677] es es2 → zfd es2 56 4 = 0 → lv_has ls2 r.2.2.1 [(0, .ref (ρ 56)), (1, .int (Int32.ofInt rk))] → zfd es2 56 38 = ((q + 1 : Nat) : Int) → zfd es2 56 37 = (nb : Int) → nb ≤ 7 → zfd es2 56 36 = (k : Int) → kPl (zar es2 79) (zar es2 80) (q + 1) = some (nb, B) → k0 ≤ k → kRn cg (zar es2 77) (k - k0) k0 0 = some (B + 1) → k + (q + 1) ≤ 560 * b + 9 * u → 1 ≤ rk → rk ≤ 6 → rk ≠ 3 → (7 ≤ (zar es2 79 q).toInt ∨ (zar es2 79 q).toInt < rk) → x.toInt ≠ 126 → ¬ (97 ≤ x.toInt ∧ x.toInt ≤ 122) → 1 ≤ zfd es 56 8 → W p l e (zrmS (4, 129)) s m [Value.ref (ρ 56)].toArray below meth c H locs 0 0 (MQ below (zQh tU D ρ γ es sz (fun v es2 => ∃ x : Int32, v = some (.int x) ∧ (x.toInt = 0 ∨ x.toInt = 1) ∧ zfrm [3588, 3589, 3590, 3591, 3592, 3593, 3594, 3620, 3621, 3622, 3623, 3904, 4928, 4992, 5056, 5120, 4677] es es2 ∧ (∃ wn, kJ cg k0 wn es2 ∧ (zfd es2 56 4 = 0 → wn = decide (x.toInt = 1))) ∧ kB es es2)) [Value.ref (ρ 56)].toArray s 0 0 (va_A es sz)) (F0 m 138 ls2 [.int x, .int (Int32.ofInt rk), .ref (ρ 56)]) := by
    intro rk nb B k q H locs ls2 es2 x hP2 hD2 hS2 hC2 hf2 h4 hl2 g38 g37 gn g36 gpl gk grun gc r1 r2 r3 r4 x1 x2 tk
    have hple := kPl_le gpl gn
    obtain ⟨r2', hr2, o2, na2, ml2⟩ := shp_ok (mi := 167) (na := 2) (ml := 3) (by decide +kernel)
    obtain ⟨l1, l2, l3, hlk⟩ := lk_pushE
    have hrk : (Int32.ofInt (rk : Int)).toInt = (rk : Int) := i32_big (by omega) (by omega)
    have hv : zfv es2 56 38 = some (.int (Int32.ofInt ((q + 1 : Nat) : Int))) := (fvx hC2 (k := 38) (a := 0) (b := 89) (by decide +kernel) g38).1
    have hM : zHM tU D l 167 (1, 64) ρ γ es2 (.ref (ρ 56) :: [.int (Int32.ofInt rk), .int x]) _ := c_pushE (D := D) (l := l) (ρ := ρ) (γ := γ) (es := es2) hC2 (k := q + 1) hv (by omega) (Int32.ofInt rk) x
    refine zcallH (T := tU) (ρ := ρ) (γ := γ) (As := [.int (Int32.ofInt rk), .int x]) (rs := []) B1 hP2 hD2 hS2 hl2.1 hC2 (xpc_79_138 r hr) (link11 (r := zhR r (4, 129)) hlk ho) hr2 (i0 := 56) (fs := fs56) (by rw [o2]; exact h56) (by rw [na2]; rfl) (Nat.zero_le _) (rm := (1, 64)) ⟨by show 1 + 1 ≤ 4; decide, by rw [ml2]; show 8 + (3 + 11) + 64 ≤ 129; decide⟩ hM ?_
    intro v es4 H4 locs4 hP4 hD4 hS4 hC4 hR4
    obtain ⟨rfl, hf4, w79, w80, w38⟩ := hR4
    have c4 : ∀ i : Nat, i < 64 → xmN [3588, 3589, 3620, 3621, 3622, 4928, 4992, 4677] (64 * 56 + i) = false → xmN [5056, 5120, 3622, 4677] (64 * 56 + i) = false → zfd es4 56 i = zfd es 56 i := fun i q1 q2 q3 => by rw [zfd_kept hf4 q1 q3, zfd_kept hf2 q1 q2]
    have m6 := c4 6 (by decide) (by decide) (by decide)
    have m7 := c4 7 (by decide) (by decide) (by decide)
    have m8 := c4 8 (by decide) (by decide) (by decide)
    have m4 : zfd es4 56 4 = 0 := by rw [zfd_kept hf4 (by decide) (by decide)]; exact h4
    have m37 : zfd es4 56 37 = (nb : Int) := by rw [zfd_kept hf4 (by decide) (by decide)]; exact g37
    have m38 : zfd es4 56 38 = ((q + 2 : Nat) : Int) := by rw [w38]; push_cast; omega
    have hc := be_141
    unfold beRun at hc
    rw [hrw] at hc
    refine zseg (ρ := ρ) (γ := γ) (η := bE (zfd es4 56 6) (zfd es4 56 7) (zfd es4 56 8) ((q + 2 : Nat) : Int) nb 0 0) (sk := []) B1 (hsU es4) hc hP4 hD4 hS4 (by
      refine ⟨hl2.1, hl2.2.1, fun q9 h9 => ?_⟩
      rcases List.mem_singleton.mp h9 with rfl
      exact hl2.2.2 (0, .ref (ρ 56)) List.mem_cons_self) (bE_sat (by rw [m6]; exact a1) (by rw [m6]; exact a2) (by rw [m7]; exact e1) (by rw [m7]; exact e2) (by rw [m8]; exact htok.1) (by rw [m8]; exact htok.2) (by omega) (by omega) (by decide) (by omega) gn (by decide) (by decide) (by decide) (by decide)) (bE_co hC4 0 0 m4 m38 m37) (fun _ _ _ _ _ _ _ _ _ _ _ h => by cases h) ?_
    intro pc v lo ca fa nf η5 H5 locs5 ls5 es5 V5 hfin hx5
    unfold beF3 at hfin
    simp only [Bool.and_eq_true] at hfin
    obtain ⟨q1, q2, q3⟩ := hfin
    obtain ⟨z, z0, z1⟩ := hI_ok q2
    subst z0
    have hz : (zi η5 z).toInt = 1 := by unfold zi; rw [z1]; exact (show (Int32.ofInt 1).toInt = 1 by decide)
    have hf5 := V5.2.2.2.2.2.2.2.2
    obtain ⟨t1, t2⟩ := hGo_ok V5.2.2.2.2.1 V5.2.2.2.2.2.2.2.1.2.2.2.2 q3
    have t3 : η5 61 = zfd es 56 7 := by rw [V5.2.2.2.2.2.2.1 61 (by decide)]; exact m7
    rw [t3] at t2
    refine hret [] pc (some (.inl z)) η5 H5 locs5 ls5 hx5 V5.2.2.1 (fun t ht hK hF => ⟨⟨_, es5, rfl, by rw [ht]; exact V5.1, hK, V5.2.1, zCo.flush V5.2.2.2.2.1 V5.2.2.2.2.2.2.2.1 q1 _, zi η5 z, rfl, Or.inr hz, zfrm.trans (w1 := [3588, 3589, 3590, 3591, 3592, 3593, 3594, 3620, 3621, 3622, 3623, 3904, 4928, 4992, 5056, 5120, 4677]) (zfrm.trans (w1 := [3588, 3589, 3590, 3591, 3592, 3593, 3594, 3620, 3621, 3622, 3623, 3904, 4928, 4992, 5056, 5120, 4677]) (zfrm_wid hf2 (by decide)) hf4 (by decide)) hf5 (by decide), ⟨true, ⟨b, q + 2, nb, B + 1, B + 1, u, k, ?_⟩, fun _ => by rw [hz]; rfl⟩, t1, fun _ => Or.inl ⟨tk, t2⟩⟩, hF⟩)
    refine ⟨by rw [zfd_kept hf5 (by decide) (by decide), c4 35 (by decide) (by decide) (by decide)]; exact j1, j2, by rw [zfd_kept hf5 (by decide) (by decide)]; exact m38, by rw [zfd_kept hf5 (by decide) (by decide)]; exact m37, gn, by rw [zfd_kept hf5 (by decide) (by decide), zfd_kept hf4 (by decide) (by decide)]; exact g36, by rw [zar_kept hf5 (by decide), zar_kept hf4 (by decide), zar_kept hf2 (by decide)]; exact j7, j8, ?_, gk, by rw [zar_kept hf5 (by decide), zar_kept hf4 (by decide)]; exact grun, fun _ => ⟨by omega, rfl, by omega⟩, fun z => by cases z⟩
    rw [zar_kept hf5 (by decide), zar_kept hf5 (by decide), w79, w80, kPl_push gpl, hrk]
    exact kTop_b (by omega) (by omega) (by omega) (by rcases r4 with h | h; exact Or.inl h; exact Or.inr (by omega)) x1 x2
  -- what stays
  have stay : ∀ (es2 : va_W), zfrm [3588, 3589, 3620, 3621, 3622, 4928, 4992, 4677] es es2 → zfd es2 56 4 = 0 → zfd es2 56 6 = zfd es 56 6 ∧ zfd es2 56 7 = zfd es 56 7 ∧ zfd es2 56 8 = zfd es 56 8 ∧ zfd es2 56 4 = 0 ∧ zfd es2 56 35 = b ∧ (zar es2 61 b).toInt = u := fun es2 hf h4 => ⟨zfd_kept hf (by decide) (by decide), zfd_kept hf (by decide) (by decide), zfd_kept hf (by decide) (by decide), h4, by rw [zfd_kept hf (by decide) (by decide)]; exact j1, by rw [zar_kept hf (by decide)]; exact j7⟩
  -- at the loop's head
  have key : ∀ (N q rk nb B k : Nat) (H : Heap) (locs : List Loc) (ls2 : Array Slot) (es2 : va_W), q < N → va_P D vwCl es2 H → va_D (va_A es sz) es2 → va_S (va_A es sz) s.heap H locs → zCo zD0 ρ γ (fun _ => 0) [] es2 → zfrm [3588, 3589, 3620, 3621, 3622, 4928, 4992, 4677] es es2 → zfd es2 56 4 = 0 → lv_has ls2 r.2.2.1 [(0, .ref (ρ 56)), (1, .int (Int32.ofInt rk))] → zfd es2 56 38 = ((q + 1 : Nat) : Int) → zfd es2 56 37 = (nb : Int) → nb ≤ 7 → zfd es2 56 36 = (k : Int) → kPl (zar es2 79) (zar es2 80) (q + 1) = some (nb, B) → k0 ≤ k → kRn cg (zar es2 77) (k - k0) k0 0 = some (B + 1) → k + (q + 1) ≤ 560 * b + 9 * u → rk ≤ 6 → rk ≠ 3 → (1 ≤ rk → 1 ≤ zfd es 56 8) → (4 ≤ rk → kOp es) → W p l e (zrmS (4, 129)) s m [Value.ref (ρ 56)].toArray below meth c H locs 0 0 (MQ below (zQh tU D ρ γ es sz (fun v es2 => ∃ x : Int32, v = some (.int x) ∧ (x.toInt = 0 ∨ x.toInt = 1) ∧ zfrm [3588, 3589, 3590, 3591, 3592, 3593, 3594, 3620, 3621, 3622, 3623, 3904, 4928, 4992, 5056, 5120, 4677] es es2 ∧ (∃ wn, kJ cg k0 wn es2 ∧ (zfd es2 56 4 = 0 → wn = decide (x.toInt = 1))) ∧ kB es es2)) [Value.ref (ρ 56)].toArray s 0 0 (va_A es sz)) (F0 m 23 ls2 []) := by
    intro N
    induction N with
    | zero => intro q rk nb B k H locs ls2 es2 h; exact absurd h (Nat.not_lt_zero _)
    | succ N ih =>
      intro q rk nb B k H locs ls2 es2 hN hP2 hD2 hS2 hC2 hf2 hF4 hl2 g38 g37 gn g36 gpl gk grun gc r1 r2 r3 r4
      have hple := kPl_le gpl gn
      obtain ⟨m6, m7, m8, m4, m35, mu⟩ := stay es2 hf2 hF4
      obtain ⟨bd1, bd2, bd3, bd4, bd5, bd6, bd7⟩ := kPl_bd q nb B gpl
      -- a word is emitted, back to the head
      have step : ∀ (q2 nb2 B2 : Nat) (H : Heap) (locs : List Loc) (ls2 : Array Slot) (es2 : va_W) (x : Int32), q = q2 + 1 → va_P D vwCl es2 H → va_D (va_A es sz) es2 → va_S (va_A es sz) s.heap H locs → zCo zD0 ρ γ (fun _ => 0) [] es2 → zfrm [3588, 3589, 3620, 3621, 3622, 4928, 4992, 4677] es es2 → zfd es2 56 4 = 0 → lv_has ls2 r.2.2.1 [(0, .ref (ρ 56)), (1, .int (Int32.ofInt rk))] → zfd es2 56 38 = ((q2 + 1 : Nat) : Int) → zfd es2 56 37 = (nb2 : Int) → nb2 ≤ 7 → zfd es2 56 36 = (k : Int) → kPl (zar es2 79) (zar es2 80) (q2 + 1) = some (nb2, B2) → kRn cg (zar es2 77) (k - k0) k0 0 = some (B + 1) → kOne x (B + 1) = some (B2 + 1) → W p l e (zrmS (4, 129)) s m [Value.ref (ρ 56)].toArray below meth c H locs 0 0 (MQ below (zQh tU D ρ γ es sz (fun v es2 => ∃ x : Int32, v = some (.int x) ∧ (x.toInt = 0 ∨ x.toInt = 1) ∧ zfrm [3588, 3589, 3590, 3591, 3592, 3593, 3594, 3620, 3621, 3622, 3623, 3904, 4928, 4992, 5056, 5120, 4677] es es2 ∧ (∃ wn, kJ cg k0 wn es2 ∧ (zfd es2 56 4 = 0 → wn = decide (x.toInt = 1))) ∧ kB es es2)) [Value.ref (ρ 56)].toArray s 0 0 (va_A es sz)) (F0 m 98 ls2 [.int (Int32.ofInt 0), .int x, .ref (ρ 56)]) := by
        intro q2 nb2 B2 H locs ls2 es2 x eq hP2 hD2 hS2 hC2 hf2 hF5 hl2 g38 g37 gn2 g36 gpl2 grun2 hone
        obtain ⟨rr, hr2, o2, na2, ml2⟩ := shp_ok (mi := 99) (na := 2) (ml := 3) (by decide +kernel)
        obtain ⟨l1, l2, l3, hlk⟩ := lk_emit
        have hv : zfv es2 56 36 = some (.int (Int32.ofInt k)) := (fvx hC2 (k := 36) (a := 0) (b := 1119) (by decide +kernel) g36).1
        have hM : zHM tU D l 99 (1, 64) ρ γ es2 (.ref (ρ 56) :: [.int x, .int (Int32.ofInt 0)]) _ := c_emit (D := D) (l := l) (ρ := ρ) (γ := γ) (es := es2) hC2 (k := k) hv (by omega) x (Int32.ofInt 0)
        refine zcallH (T := tU) (ρ := ρ) (γ := γ) (As := [.int x, .int (Int32.ofInt 0)]) (rs := []) B1 hP2 hD2 hS2 hl2.1 hC2 (xpc_79_98 r hr) (link11 (r := zhR r (4, 129)) hlk ho) hr2 (i0 := 56) (fs := fs56) (by rw [o2]; exact h56) (by rw [na2]; rfl) (Nat.zero_le _) (rm := (1, 64)) ⟨by show 1 + 1 ≤ 4; decide, by rw [ml2]; show 8 + (3 + 11) + 64 ≤ 129; decide⟩ hM ?_
        intro v es4 H4 locs4 hP4 hD4 hS4 hC4 hR4
        obtain ⟨rfl, hf4, w77, w36⟩ := hR4
        have hf4' : zfrm [3588, 3589, 3620, 3621, 3622, 4928, 4992, 4677] es es4 := zfrm.trans (w1 := [3588, 3589, 3620, 3621, 3622, 4928, 4992, 4677]) hf2 hf4 (by decide)
        obtain ⟨n6, n7, n8, n4, n35, nu⟩ := stay es4 hf4' (by rw [zfd_kept hf4 (by decide) (by decide)]; exact hF5)
        have n37 : zfd es4 56 37 = (nb2 : Int) := by rw [zfd_kept hf4 (by decide) (by decide)]; exact g37
        have n38 : zfd es4 56 38 = ((q2 + 1 : Nat) : Int) := by rw [zfd_kept hf4 (by decide) (by decide)]; exact g38
        have hc := be_101
        unfold beRun at hc
        rw [hrw] at hc
        refine zseg (ρ := ρ) (γ := γ) (η := bE (zfd es4 56 6) (zfd es4 56 7) (zfd es4 56 8) ((q2 + 1 : Nat) : Int) nb2 rk 0) (sk := []) B1 (hsU es4) hc hP4 hD4 hS4 (by rw [hloc _ rk rfl]; exact hl2) (bE_sat (by rw [n6]; exact a1) (by rw [n6]; exact a2) (by rw [n7]; exact e1) (by rw [n7]; exact e2) (by rw [n8]; exact htok.1) (by rw [n8]; exact htok.2) (by omega) (by omega) (by decide) (by omega) gn2 (by omega) (by omega) (by decide) (by decide)) (bE_co hC4 _ _ n4 n38 n37) ?_ (fun _ _ _ _ _ _ _ _ _ _ _ _ h => by cases h)
        intro pc lo sk ca fa nf η3 H3 locs3 ls3 es3 hpc hhk V3
        have hpc := xmN1 hpc
        subst hpc
        unfold beH14 at hhk
        simp only [Bool.and_eq_true] at hhk
        obtain ⟨k1, k2, k3, k4, -⟩ := hhk
        have hsk : sk = [] := by
          cases sk with
          | nil => rfl
          | cons a t => cases k1
        subst hsk
        have l0 := hRf_ok k3
        obtain ⟨x1, l1', v1⟩ := hI_ok k4
        have hf3 := V3.2.2.2.2.2.2.2.2
        have hf3' : zfrm [3588, 3589, 3620, 3621, 3622, 4928, 4992, 4677] es es3 := zfrm.trans (w1 := [3588, 3589, 3620, 3621, 3622, 4928, 4992, 4677]) hf4' hf3 (by decide)
        refine ih q2 rk nb2 B2 (k + 1) H3 locs3 ls3 es3 (by omega) V3.1 V3.2.1 V3.2.2.1 (zCo.flush V3.2.2.2.2.1 V3.2.2.2.2.2.2.2.1 k2 _) hf3' (by rw [zfd_kept hf3 (by decide) (by decide)]; exact n4) ?_ (by rw [zfd_kept hf3 (by decide) (by decide)]; exact n38) (by rw [zfd_kept hf3 (by decide) (by decide)]; exact n37) gn2 (by rw [zfd_kept hf3 (by decide) (by decide), w36]; push_cast; rfl) (by rw [zar_kept hf3 (by decide), zar_kept hf3 (by decide), zar_kept hf4 (by decide), zar_kept hf4 (by decide)]; exact gpl2) (by omega) (by rw [zar_kept hf3 (by decide), w77]; exact kRn_emit gk grun2 hone) (by omega) r1 r2 r3 r4
        rw [← hloc (bE 0 0 0 0 0 rk 0) rk rfl]
        refine lvh V3.2.2.2.1 (fun q9 hq => ?_)
        rcases List.mem_cons.mp hq with e9 | e9
        · rw [e9]; exact ⟨_, l0, rfl⟩
        · rcases List.mem_singleton.mp e9 with rfl
          refine ⟨_, l1', zv_int ?_⟩
          rw [v1]
          show 1 * η3 1 + 0 = 1 * (rk : Int) + 0
          rw [V3.2.2.2.2.2.2.1 1 (by decide)]
          rfl
      have hc := be_23
      unfold beRun at hc
      rw [hrw] at hc
      refine zseg (ρ := ρ) (γ := γ) (η := bE (zfd es2 56 6) (zfd es2 56 7) (zfd es2 56 8) ((q + 1 : Nat) : Int) nb rk 0) (sk := []) B1 (hsU es2) hc hP2 hD2 hS2 (by rw [hloc _ rk rfl]; exact hl2) (bE_sat (by rw [m6]; exact a1) (by rw [m6]; exact a2) (by rw [m7]; exact e1) (by rw [m7]; exact e2) (by rw [m8]; exact htok.1) (by rw [m8]; exact htok.2) (by omega) (by omega) (by decide) (by omega) gn (by omega) (by omega) (by decide) (by decide)) (bE_co hC2 _ _ m4 g38 g37) ?_ ?_
      · intro pc lo sk ca fa nf η3 H3 locs3 ls3 es3 hpc hhk V3
        have hf3 := V3.2.2.2.2.2.2.2.2
        have hh3 := V3.2.2.2.2.2.2.2.1.2.2.2.2
        have hs3 := V3.2.2.2.2.1
        have g64 : zd η3 (.inr (64, 1, -1)) = (q : Int) := by show 1 * η3 64 + -1 = _; rw [V3.2.2.2.2.2.2.1 64 (by decide)]; show 1 * ((q + 1 : Nat) : Int) + -1 = _; omega
        have g1 : η3 1 = (rk : Int) := V3.2.2.2.2.2.2.1 1 (by decide)
        have hf3' : zfrm [3588, 3589, 3620, 3621, 3622, 4928, 4992, 4677] es es3 := zfrm.trans (w1 := [3588, 3589, 3620, 3621, 3622, 4928, 4992, 4677]) hf2 hf3 (by decide)
        obtain ⟨n6, n7, n8, n4, n35, nu⟩ := stay es3 hf3' (by rw [zfd_kept hf3 (by decide) (by decide)]; exact hF4)
        have n36 : zfd es3 56 36 = (k : Int) := by rw [zfd_kept hf3 (by decide) (by decide)]; exact g36
        have n37 : zfd es3 56 37 = (nb : Int) := by rw [zfd_kept hf3 (by decide) (by decide)]; exact g37
        have n79 : zar es3 79 = zar es2 79 := zar_kept hf3 (by decide)
        have n80 : zar es3 80 = zar es2 80 := zar_kept hf3 (by decide)
        have n77 : zar es3 77 = zar es2 77 := zar_kept hf3 (by decide)
        unfold beH1 at hhk
        simp only [Bool.and_eq_true] at hhk
        obtain ⟨k1, k2, k3, k4⟩ := hhk
        have hC3 := zCo.flush hs3 V3.2.2.2.2.2.2.2.1 k1 (fun _ => 0)
        have l0 := hRf_ok k2
        obtain ⟨x1, l1', v1⟩ := hI_ok k3
        have hl3 : lv_has ls3 r.2.2.1 [(0, .ref (ρ 56)), (1, .int (Int32.ofInt rk))] := by
          rw [← hloc (bE 0 0 0 0 0 rk 0) rk rfl]
          refine lvh V3.2.2.2.1 (fun q9 hq => ?_)
          rcases List.mem_cons.mp hq with e9 | e9
          · rw [e9]; exact ⟨_, l0, rfl⟩
          · rcases List.mem_singleton.mp e9 with rfl
            refine ⟨_, l1', zv_int ?_⟩
            rw [v1]
            show 1 * η3 1 + 0 = 1 * (rk : Int) + 0
            rw [g1]
        split at k4
        · -- a not
          simp only [Bool.and_eq_true] at k4
          obtain ⟨c1, c2⟩ := k4
          have p38 := hI_fd hh3 c1 g64 (by omega) (by omega)
          obtain ⟨t1, t2⟩ := hIn_ar hs3 hh3 c2 g64
          rw [n79] at t1 t2
          obtain ⟨q2, rfl⟩ : ∃ q2, q = q2 + 1 := ⟨q - 1, by rcases Nat.eq_zero_or_pos q with h | h; exact absurd (bd7 h) (by omega); omega⟩
          obtain ⟨nb2, B2, pp1, pp2⟩ := kPl_pop gpl
          have hnot : (zar es2 80 (q2 + 1)).toInt = 126 ∧ nb = nb2 + 1 ∧ B = B2 := by
            rcases kTop_ok pp2 with h | h | h
            · omega
            · exact ⟨h.2.1, h.2.2.1, h.2.2.2⟩
            · omega
          obtain ⟨s1, s2, s3⟩ := hnot
          have hc := be_77
          unfold beRun at hc
          rw [hrw] at hc
          refine zseg (ρ := ρ) (γ := γ) (η := bE (zfd es3 56 6) (zfd es3 56 7) (zfd es3 56 8) ((q2 + 1 : Nat) : Int) nb rk 0) (sk := []) B1 (hsU es3) hc V3.1 V3.2.1 V3.2.2.1 (by rw [hloc _ rk rfl]; exact hl3) (bE_sat (by rw [n6]; exact a1) (by rw [n6]; exact a2) (by rw [n7]; exact e1) (by rw [n7]; exact e2) (by rw [n8]; exact htok.1) (by rw [n8]; exact htok.2) (by omega) (by omega) (by decide) (by omega) gn (by omega) (by omega) (by decide) (by decide)) (bE_co hC3 _ _ n4 p38 n37) ?_ (fun _ _ _ _ _ _ _ _ _ _ _ _ h => by cases h)
          intro pc lo sk ca fa nf η5 H5 locs5 ls5 es5 hpc hhk V5
          have hpc := xmN1 hpc
          subst hpc
          have hf5 := V5.2.2.2.2.2.2.2.2
          unfold beH77 at hhk
          simp only [Bool.and_eq_true] at hhk
          obtain ⟨k1, k2, k3, k4⟩ := hhk
          split at k4
          rotate_left
          · cases k4
          rename_i xx yy ii
          simp only [Bool.and_eq_true] at k4
          obtain ⟨y1, y2, y3, y4⟩ := k4
          have y1 := Nat.eq_of_beq_eq_true y1
          subst y1
          have h64 : zd η5 (zsym 64) = ((q2 + 1 : Nat) : Int) := by show 1 * η5 64 + 0 = _; rw [V5.2.2.2.2.2.2.1 64 (by decide)]; show 1 * ((q2 + 1 : Nat) : Int) + 0 = _; omega
          obtain ⟨w1, w2, w3, w4, w5⟩ := hSm_ok y4
          cases w4
          have e80 := cA_ar V5.2.2.2.2.1 V5.2.2.2.2.2.2.2.1.2.2.2.2 w3 h64
          have e80' : zi η5 yy = zar es2 80 (q2 + 1) := by
            rw [← n80, ← zar_kept (i := 80) hf5 (by decide), e80]
            unfold zi
            rw [w5]
          have ex : zi η5 xx = Int32.ofInt 0 := by unfold zi; rw [zeB_ok y2]; rfl
          show W p l e (zrmS (4, 129)) s m [Value.ref (ρ 56)].toArray below meth c H5 locs5 0 0 (MQ below (zQh tU D ρ γ es sz (fun v es2 => ∃ x : Int32, v = some (.int x) ∧ (x.toInt = 0 ∨ x.toInt = 1) ∧ zfrm [3588, 3589, 3590, 3591, 3592, 3593, 3594, 3620, 3621, 3622, 3623, 3904, 4928, 4992, 5056, 5120, 4677] es es2 ∧ (∃ wn, kJ cg k0 wn es2 ∧ (zfd es2 56 4 = 0 → wn = decide (x.toInt = 1))) ∧ kB es es2)) [Value.ref (ρ 56)].toArray s 0 0 (va_A es sz)) (F0 m 98 ls5 [.int (zi η5 xx), .int (zi η5 yy), .ref (ρ 56)])
          rw [ex]
          have p37 := hI_fd V5.2.2.2.2.2.2.2.1.2.2.2.2 y3 (n := (nb2 : Int)) (by show 1 * η5 65 + -1 = _; rw [V5.2.2.2.2.2.2.1 65 (by decide)]; show 1 * (nb : Int) + -1 = _; omega) (by omega) (by omega)
          refine step q2 nb2 B2 H5 locs5 ls5 es5 (zi η5 yy) rfl V5.1 V5.2.1 V5.2.2.1 (zCo.flush V5.2.2.2.2.1 V5.2.2.2.2.2.2.2.1 k1 _) (zfrm.trans (w1 := [3588, 3589, 3620, 3621, 3622, 4928, 4992, 4677]) hf3' hf5 (by decide)) (by rw [zfd_kept hf5 (by decide) (by decide)]; exact n4) ?_ (by rw [zfd_kept hf5 (by decide) (by decide)]; exact p38) p37 (by omega) (by rw [zfd_kept hf5 (by decide) (by decide)]; exact n36) (by rw [zar_kept hf5 (by decide), zar_kept hf5 (by decide), n79, n80]; exact pp1) (by rw [zar_kept hf5 (by decide), n77]; exact grun) (by rw [e80', s3]; exact kOne_not s1)
          rw [← hloc (bE 0 0 0 0 0 rk 0) rk rfl]
          obtain ⟨x5, l5, v5⟩ := hI_ok k3
          refine lvh V5.2.2.2.1 (fun q9 hq => ?_)
          rcases List.mem_cons.mp hq with e9 | e9
          · rw [e9]; exact ⟨_, hRf_ok k2, rfl⟩
          · rcases List.mem_singleton.mp e9 with rfl
            refine ⟨_, l5, zv_int ?_⟩
            rw [v5]
            show 1 * η5 1 + 0 = 1 * (rk : Int) + 0
            rw [V5.2.2.2.2.2.2.1 1 (by decide)]
            rfl
        · -- an operator
          rename_i xx yy ii
          simp only [Bool.and_eq_true] at k4
          obtain ⟨c0, c1, c2, c3, c4, c5⟩ := k4
          have c0 := Nat.eq_of_beq_eq_true c0
          subst c0
          have p38 := hI_fd hh3 c2 g64 (by omega) (by omega)
          obtain ⟨t1, t2⟩ := hIn_ar hs3 hh3 c3 g64
          have t3 := hNe_ar hs3 hh3 c3 c4 g64
          rw [n79] at t1 t2 t3
          obtain ⟨q2, rfl⟩ : ∃ q2, q = q2 + 1 := ⟨q - 1, by rcases Nat.eq_zero_or_pos q with h | h; exact absurd (bd7 h) (by omega); omega⟩
          obtain ⟨nb2, B2, pp1, pp2⟩ := kPl_pop gpl
          have hop : (zar es2 80 (q2 + 1)).toInt ≠ 126 ∧ ¬ (97 ≤ (zar es2 80 (q2 + 1)).toInt ∧ (zar es2 80 (q2 + 1)).toInt ≤ 122) ∧ nb = nb2 ∧ B = B2 + 1 := by
            rcases kTop_ok pp2 with h | h | h
            · omega
            · exact absurd h.1 t3
            · exact h.2.2.2.2
          obtain ⟨s1, s2, s3, s4⟩ := hop
          obtain ⟨w1, w2, w3, w4, w5⟩ := hSm_ok c5
          cases w4
          have e80 := cA_ar hs3 hh3 w3 g64
          have e80' : zi η3 yy = zar es2 80 (q2 + 1) := by
            rw [← n80, e80]
            unfold zi
            rw [w5]
          have ex : zi η3 xx = Int32.ofInt 0 := by unfold zi; rw [zeB_ok c1]; rfl
          show W p l e (zrmS (4, 129)) s m [Value.ref (ρ 56)].toArray below meth c H3 locs3 0 0 (MQ below (zQh tU D ρ γ es sz (fun v es2 => ∃ x : Int32, v = some (.int x) ∧ (x.toInt = 0 ∨ x.toInt = 1) ∧ zfrm [3588, 3589, 3590, 3591, 3592, 3593, 3594, 3620, 3621, 3622, 3623, 3904, 4928, 4992, 5056, 5120, 4677] es es2 ∧ (∃ wn, kJ cg k0 wn es2 ∧ (zfd es2 56 4 = 0 → wn = decide (x.toInt = 1))) ∧ kB es es2)) [Value.ref (ρ 56)].toArray s 0 0 (va_A es sz)) (F0 m 98 ls3 [.int (zi η3 xx), .int (zi η3 yy), .ref (ρ 56)])
          rw [ex]
          refine step q2 nb2 B2 H3 locs3 ls3 es3 (zi η3 yy) rfl V3.1 V3.2.1 V3.2.2.1 hC3 hf3' n4 hl3 p38 (by rw [n37, s3]) (by omega) n36 (by rw [n79, n80]; exact pp1) (by rw [n77]; exact grun) (by rw [e80', s4]; exact kOne_op s1 s2)
        · -- a rank is pushed
          rename_i xx yy ii
          simp only [Bool.and_eq_true] at k4
          obtain ⟨⟨c0, c9⟩, c1, c2, c3, c4⟩ := k4
          have c0 := Nat.eq_of_beq_eq_true c0
          subst c0
          obtain ⟨w, w0, w1, w2, w3⟩ := hIn_ok hs3 c2
          cases w0
          have w1 : 1 ≤ 1 * η3 1 + 0 := w1
          have ey : zi η3 yy = Int32.ofInt (rk : Int) := by
            unfold zi
            rw [zeB_ok c1]
            show Int32.ofInt (1 * η3 1 + 0) = _
            rw [g1, Int.one_mul, Int.add_zero]
          have htop : 7 ≤ (zar es3 79 q).toInt ∨ (zar es3 79 q).toInt < rk := by
            split at c3
            · rename_i t et
              rw [Bool.and_eq_true, Bool.or_eq_true] at c3
              have e79 := cA_ar hs3 hh3 et g64
              rw [e79, z32_ok hs3 c3.1]
              rcases c3.2 with h | h
              · have := zlB_ok hs3 h
                have this : (6 : Int) < zd η3 t := this
                exact Or.inl (by omega)
              · have := zlB_ok hs3 h
                have this : zd η3 t < 1 * η3 1 + 0 := this
                exact Or.inr (by omega)
            · cases c3
          have hx : (zi η3 xx).toInt ≠ 126 ∧ ¬ (97 ≤ (zi η3 xx).toInt ∧ (zi η3 xx).toInt ≤ 122) := by
            simp only [Bool.or_eq_true, Bool.and_eq_true] at c4
            rcases c4 with h | h | h | ⟨h, h2⟩
            · have : (zi η3 xx).toInt = 38 := by unfold zi; rw [zeB_ok h]; exact (show (Int32.ofInt 38).toInt = 38 by decide)
              rw [this]; omega
            · have : (zi η3 xx).toInt = 124 := by unfold zi; rw [zeB_ok h]; exact (show (Int32.ofInt 124).toInt = 124 by decide)
              rw [this]; omega
            · have : (zi η3 xx).toInt = 0 := by unfold zi; rw [zeB_ok h]; exact (show (Int32.ofInt 0).toInt = 0 by decide)
              rw [this]; omega
            · obtain ⟨w', w0', w1', w2', w3'⟩ := hIn_ok hs3 h
              cases w0'
              have w1' : 3 ≤ 1 * η3 1 + 0 := w1'
              have hko := r4 (by omega)
              split at h2
              · rename_i t et
                split at h2
                · rename_i cc ec
                  have h60 : η3 60 = (((zfd es 56 6).toNat : Nat) : Int) := by
                    rw [V3.2.2.2.2.2.2.1 60 (by decide)]
                    show zfd es2 56 6 = _
                    rw [m6]
                    omega
                  have hm := mem_and hs3 hh3 et ec h60
                  have hxx : zi η3 xx = (zar es 58 (zfd es 56 6).toNat) &&& 255 := by
                    unfold zi
                    rw [zeB_ok h2]
                    show Int32.ofInt (1 * η3 cc + 0) = _
                    rw [Int.one_mul, Int.add_zero, hm, zar_kept hf3' (by decide)]
                  rw [hxx]
                  have := hko.1
                  have := hko.2
                  omega
                · cases h2
              · cases h2
          show W p l e (zrmS (4, 129)) s m [Value.ref (ρ 56)].toArray below meth c H3 locs3 0 0 (MQ below (zQh tU D ρ γ es sz (fun v es2 => ∃ x : Int32, v = some (.int x) ∧ (x.toInt = 0 ∨ x.toInt = 1) ∧ zfrm [3588, 3589, 3590, 3591, 3592, 3593, 3594, 3620, 3621, 3622, 3623, 3904, 4928, 4992, 5056, 5120, 4677] es es2 ∧ (∃ wn, kJ cg k0 wn es2 ∧ (zfd es2 56 4 = 0 → wn = decide (x.toInt = 1))) ∧ kB es es2)) [Value.ref (ρ 56)].toArray s 0 0 (va_A es sz)) (F0 m 138 ls3 [.int (zi η3 xx), .int (zi η3 yy), .ref (ρ 56)])
          rw [ey]
          have n38 : zfd es3 56 38 = ((q + 1 : Nat) : Int) := hI_fd hh3 c9 (by show 1 * η3 64 + 0 = _; rw [V3.2.2.2.2.2.2.1 64 (by decide)]; show 1 * ((q + 1 : Nat) : Int) + 0 = _; omega) (by omega) (by omega)
          exact keyP rk nb B k q H3 locs3 ls3 es3 (zi η3 xx) V3.1 V3.2.1 V3.2.2.1 hC3 hf3' n4 hl3 n38 n37 gn n36 (by rw [n79, n80]; exact gpl) gk (by rw [n77]; exact grun) gc (by omega) r1 r2 htop hx.1 hx.2 (r3 (by omega))
        · -- a bracket is closed
          simp only [Bool.and_eq_true] at k4
          obtain ⟨c1, c2, c3⟩ := k4
          have p38 := hI_fd hh3 c1 g64 (by omega) (by omega)
          obtain ⟨t1, t2⟩ := hIn_ar hs3 hh3 c2 g64
          rw [n79] at t1 t2
          obtain ⟨q2, rfl⟩ : ∃ q2, q = q2 + 1 := ⟨q - 1, by rcases Nat.eq_zero_or_pos q with h | h; exact absurd (bd7 h) (by omega); omega⟩
          obtain ⟨nb2, B2, pp1, pp2⟩ := kPl_pop gpl
          have hbr : nb = nb2 + 1 ∧ B = B2 := by
            rcases kTop_ok pp2 with h | h | h
            · exact h.2
            · omega
            · omega
          obtain ⟨s2, s3⟩ := hbr
          have hc := be_171
          unfold beRun at hc
          rw [hrw] at hc
          refine zseg (ρ := ρ) (γ := γ) (η := bE (zfd es3 56 6) (zfd es3 56 7) (zfd es3 56 8) ((q2 + 1 : Nat) : Int) nb 0 0) (sk := []) B1 (hsU es3) hc V3.1 V3.2.1 V3.2.2.1 (by
            refine ⟨hl3.1, hl3.2.1, fun q9 h9 => ?_⟩
            rcases List.mem_singleton.mp h9 with rfl
            exact hl3.2.2 (0, .ref (ρ 56)) List.mem_cons_self) (bE_sat (by rw [n6]; exact a1) (by rw [n6]; exact a2) (by rw [n7]; exact e1) (by rw [n7]; exact e2) (by rw [n8]; exact htok.1) (by rw [n8]; exact htok.2) (by omega) (by omega) (by decide) (by omega) gn (by decide) (by decide) (by decide) (by decide)) (bE_co hC3 _ _ n4 p38 n37) (fun _ _ _ _ _ _ _ _ _ _ _ h => by cases h) ?_
          intro pc v lo ca fa nf η5 H5 locs5 ls5 es5 V5 hfin hx5
          have hf5 := V5.2.2.2.2.2.2.2.2
          have hh5 := V5.2.2.2.2.2.2.2.1.2.2.2.2
          unfold beF2 at hfin
          simp only [Bool.and_eq_true, Bool.or_eq_true] at hfin
          obtain ⟨q1, q2', q3, q4⟩ := hfin
          obtain ⟨z, z0, z1⟩ := hI_ok q2'
          subst z0
          have hz : (zi η5 z).toInt = 0 := by unfold zi; rw [z1]; exact (show (Int32.ofInt 0).toInt = 0 by decide)
          have p37 := hI_fd hh5 q3 (n := (nb2 : Int)) (by show 1 * η5 65 + -1 = _; rw [V5.2.2.2.2.2.2.1 65 (by decide)]; show 1 * (nb : Int) + -1 = _; omega) (by omega) (by omega)
          have hkb : kB es es5 := by
            rcases q4 with ⟨h1, h2⟩ | ⟨h1, h2⟩
            · obtain ⟨y, y0, y1, y2, y3⟩ := hIn_ok V5.2.2.2.2.1 h1
              have f4 := cF_fd hh5 y0 y3
              obtain ⟨y', y0', y1', y2', y3'⟩ := hIn_ok V5.2.2.2.2.1 h2
              have f8 := cF_fd hh5 y0' y3'
              exact ⟨by omega, fun z => by omega⟩
            · obtain ⟨y, y0, y1, y2, y3⟩ := hIn_ok V5.2.2.2.2.1 h1
              cases y0
              have y1 : 1 ≤ 1 * η5 62 + 0 := y1
              have e62 : η5 62 = zfd es 56 8 := by rw [V5.2.2.2.2.2.2.1 62 (by decide)]; exact n8
              obtain ⟨t1', t2'⟩ := hGo_ok V5.2.2.2.2.1 hh5 h2
              have t3 : η5 61 = zfd es 56 7 := by rw [V5.2.2.2.2.2.2.1 61 (by decide)]; exact n7
              rw [t3] at t2'
              exact ⟨t1', fun _ => Or.inl ⟨by omega, t2'⟩⟩
          refine hret [] pc (some (.inl z)) η5 H5 locs5 ls5 hx5 V5.2.2.1 (fun t ht hK hF => ⟨⟨_, es5, rfl, by rw [ht]; exact V5.1, hK, V5.2.1, zCo.flush V5.2.2.2.2.1 V5.2.2.2.2.2.2.2.1 q1 _, zi η5 z, rfl, Or.inl hz, zfrm.trans (w1 := [3588, 3589, 3590, 3591, 3592, 3593, 3594, 3620, 3621, 3622, 3623, 3904, 4928, 4992, 5056, 5120, 4677]) (zfrm_wid hf3' (by decide)) hf5 (by decide), ⟨false, ⟨b, q2 + 1, nb2, B2, B + 1, u, k, ?_⟩, fun _ => by rw [hz]; rfl⟩, hkb⟩, hF⟩)
          refine ⟨by rw [zfd_kept hf5 (by decide) (by decide)]; exact n35, j2, by rw [zfd_kept hf5 (by decide) (by decide)]; exact p38, p37, by omega, by rw [zfd_kept hf5 (by decide) (by decide)]; exact n36, by rw [zar_kept hf5 (by decide)]; exact nu, j8, by rw [zar_kept hf5 (by decide), zar_kept hf5 (by decide), n79, n80]; exact pp1, gk, by rw [zar_kept hf5 (by decide), n77]; exact grun, (fun z => by cases z), fun _ => ⟨by rw [s3], by omega⟩⟩
        · cases k4
      · -- the end of all
        intro pc v lo ca fa nf η3 H3 locs3 ls3 es3 V3 hfin hx3
        have hf3 := V3.2.2.2.2.2.2.2.2
        have hh3 := V3.2.2.2.2.2.2.2.1.2.2.2.2
        have hs3 := V3.2.2.2.2.1
        have g64 : zd η3 (.inr (64, 1, -1)) = (q : Int) := by show 1 * η3 64 + -1 = _; rw [V3.2.2.2.2.2.2.1 64 (by decide)]; show 1 * ((q + 1 : Nat) : Int) + -1 = _; omega
        have hf3' : zfrm [3588, 3589, 3620, 3621, 3622, 4928, 4992, 4677] es es3 := zfrm.trans (w1 := [3588, 3589, 3620, 3621, 3622, 4928, 4992, 4677]) hf2 hf3 (by decide)
        obtain ⟨n6, n7, n8, n4, n35, nu⟩ := stay es3 hf3' (by rw [zfd_kept hf3 (by decide) (by decide)]; exact hF4)
        unfold beF1 at hfin
        simp only [Bool.and_eq_true, Bool.or_eq_true] at hfin
        obtain ⟨q1, q2, ⟨q3, q4⟩, q5⟩ := hfin
        obtain ⟨z, z0, z1⟩ := hI_ok q2
        subst z0
        have hz : (zi η3 z).toInt = 0 := by unfold zi; rw [z1]; exact (show (Int32.ofInt 0).toInt = 0 by decide)
        have p38 := hI_fd hh3 q3 g64 (by omega) (by omega)
        have hq0 : q = 0 := by
          refine bd6 ?_
          split at q5
          · rename_i t et
            simp only [Bool.and_eq_true, Bool.or_eq_true] at q5
            have e79 := cA_ar hs3 hh3 et g64
            rw [zar_kept hf3 (by decide)] at e79
            have e32 := z32_ok hs3 q5.1
            rw [e79, e32] at bd1 bd2 ⊢
            rcases q4 with h | h
            · obtain ⟨y, y0, y1⟩ := hNe_ok hs3 h
              rw [et] at y0
              cases y0
              rcases q5.2 with h6 | h6
              · have := zlB_ok hs3 h6
                have this : (6 : Int) < zd η3 t := this
                omega
              · have := zlB_ok hs3 h6
                have this : zd η3 t < 0 := this
                omega
            · obtain ⟨y, y0, y1, y2, y3⟩ := hIn_ok hs3 h
              rw [et] at y0
              cases y0
              omega
          · cases q5
        subst hq0
        have h00 : nb = 0 ∧ B = 0 := by omega
        refine hret _ pc (some (.inl z)) η3 H3 locs3 ls3 hx3 V3.2.2.1 (fun t ht hK hF => ⟨⟨_, es3, rfl, by rw [ht]; exact V3.1, hK, V3.2.1, zCo.flush hs3 V3.2.2.2.2.2.2.2.1 q1 _, zi η3 z, rfl, Or.inl hz, zfrm_wid hf3' (by decide), ⟨false, ⟨b, 0, 0, 0, B + 1, u, k, ?_⟩, fun _ => by rw [hz]; rfl⟩, ⟨by rw [n8]; exact htok, fun _ => Or.inr ⟨n8, n6, n7, by rw [p38]; omega⟩⟩⟩, hF⟩)
        refine ⟨n35, j2, p38, by rw [zfd_kept hf3 (by decide) (by decide), g37, h00.1], by decide, by rw [zfd_kept hf3 (by decide) (by decide)]; exact g36, nu, j8, rfl, gk, by rw [zar_kept hf3 (by decide)]; exact grun, (fun z => by cases z), fun _ => ⟨by rw [h00.2], by omega⟩⟩
  -- the entry
  obtain ⟨q, rfl⟩ : ∃ q, p0 = q + 1 := ⟨p0 - 1, by omega⟩
  have hple := kPl_le j9 j5
  obtain ⟨m6, m7, m8, m4, m35, mu⟩ := stay es (zfrm.refl _ _) hgood
  have hrkE : ∀ (η3 : zE) (fa : zFa) (ca : zCa) (lo : zL) (es3 : va_W), zsat η3 fa → zcH ρ η3 ca es3 → zfrm [4677] es es3 → η3 60 = zfd es 56 6 → hRk fa ca lo = true → ∃ (x : zI) (rk : Nat), zll lo 1 = some (.inl x) ∧ (∀ η, zd η x = (rk : Int)) ∧ rk ≤ 6 ∧ rk ≠ 3 ∧ (1 ≤ rk → 1 ≤ zfd es 56 8) ∧ (4 ≤ rk → kOp es) := by
    intro η3 fa ca lo es3 hs3 hh3 hf3 h60 h
    have tok : hIn fa (zcF 56 8 ca) 1 5 = true → 1 ≤ zfd es 56 8 := fun h => by
      obtain ⟨y, y0, y1, y2, y3⟩ := hIn_ok hs3 h
      have := cF_fd hh3 y0 y3
      rw [zfd_kept hf3 (by decide) (by decide)] at this
      omega
    have op : hOp fa ca = true → kOp es := fun h => by
      unfold hOp at h
      split at h
      · rename_i t et
        split at h
        · rename_i cc ec
          have hm := mem_and (n := (zfd es 56 6).toNat) hs3 hh3 et ec (by rw [h60]; omega)
          obtain ⟨y, y0, y1, y2, y3⟩ := hIn_ok hs3 h
          cases y0
          have e1' : (zi η3 (zsym cc)) = (zar es 58 (zfd es 56 6).toNat) &&& 255 := by
            show Int32.ofInt (1 * η3 cc + 0) = _
            rw [Int.one_mul, Int.add_zero, hm, zar_kept hf3 (by decide)]
          unfold kOp
          rw [← e1', y3]
          exact ⟨y2, y1⟩
        · cases h
      · cases h
    unfold hRk at h
    simp only [Bool.or_eq_true, Bool.and_eq_true] at h
    rcases h with h | ⟨h0, h | h | ⟨h, h3⟩⟩
    · obtain ⟨x, x0, x1⟩ := hI_ok h
      exact ⟨x, 0, x0, x1, by decide, by decide, fun z => absurd z (by decide), fun z => absurd z (by decide)⟩
    · obtain ⟨x, x0, x1⟩ := hI_ok h
      exact ⟨x, 1, x0, x1, by decide, by decide, fun _ => tok h0, fun z => absurd z (by decide)⟩
    · obtain ⟨x, x0, x1⟩ := hI_ok h
      exact ⟨x, 2, x0, x1, by decide, by decide, fun _ => tok h0, fun z => absurd z (by decide)⟩
    · rcases h with h | h | h
      · obtain ⟨x, x0, x1⟩ := hI_ok h
        exact ⟨x, 4, x0, x1, by decide, by decide, fun _ => tok h0, fun _ => op h3⟩
      · obtain ⟨x, x0, x1⟩ := hI_ok h
        exact ⟨x, 5, x0, x1, by decide, by decide, fun _ => tok h0, fun _ => op h3⟩
      · obtain ⟨x, x0, x1⟩ := hI_ok h
        exact ⟨x, 6, x0, x1, by decide, by decide, fun _ => tok h0, fun _ => op h3⟩
  have hc := be_0
  unfold beRun at hc
  rw [hrw] at hc
  refine zseg (ρ := ρ) (γ := γ) (η := bE (zfd es 56 6) (zfd es 56 7) (zfd es 56 8) ((q + 1 : Nat) : Int) nb0 0 0) (sk := []) B1 (hsU es) hc hP hD va_S.rf hl (bE_sat a1 a2 e1 e2 htok.1 htok.2 (by omega) (by omega) (by decide) (by omega) j5 (by decide) (by decide) (by decide) (by decide)) (bE_co hco _ _ hgood j3 j4) ?_ (fun _ _ _ _ _ _ _ _ _ _ _ _ h => by cases h)
  intro pc lo sk ca fa nf η3 H3 locs3 ls3 es3 hpc hhk V3
  have hf3 : zfrm [4677] es es3 := V3.2.2.2.2.2.2.2.2
  have hh3 := V3.2.2.2.2.2.2.2.1.2.2.2.2
  have hs3 := V3.2.2.2.2.1
  unfold beH0 at hhk
  simp only [Bool.and_eq_true] at hhk
  obtain ⟨k1, k2, k3, k4⟩ := hhk
  have hC3 := zCo.flush hs3 V3.2.2.2.2.2.2.2.1 k1 (fun _ => 0)
  have l0 := hRf_ok k2
  obtain ⟨x, rk, l1, v1, s1, s2, s3, s4⟩ := hrkE η3 fa ca lo es3 hs3 hh3 hf3 (V3.2.2.2.2.2.2.1 60 (by decide)) k3
  have hl3 : lv_has ls3 r.2.2.1 [(0, .ref (ρ 56)), (1, .int (Int32.ofInt rk))] := by
    rw [← hloc (bE 0 0 0 0 0 rk 0) rk rfl]
    refine lvh V3.2.2.2.1 (fun q9 hq => ?_)
    rcases List.mem_cons.mp hq with e9 | e9
    · rw [e9]; exact ⟨_, l0, rfl⟩
    · rcases List.mem_singleton.mp e9 with rfl
      refine ⟨_, l1, zv_int ?_⟩
      rw [v1]
      show (rk : Int) = 1 * (rk : Int) + 0
      omega
  have hf3' : zfrm [3588, 3589, 3620, 3621, 3622, 4928, 4992, 4677] es es3 := zfrm_wid hf3 (by decide)
  have d38 : zfd es3 56 38 = ((q + 1 : Nat) : Int) := by rw [zfd_kept hf3 (by decide) (by decide)]; exact j3
  have d37 : zfd es3 56 37 = (nb0 : Int) := by rw [zfd_kept hf3 (by decide) (by decide)]; exact j4
  have d36 : zfd es3 56 36 = (kk0 : Int) := by rw [zfd_kept hf3 (by decide) (by decide)]; exact j6
  have dpl : kPl (zar es3 79) (zar es3 80) (q + 1) = some (nb0, B0) := by rw [zar_kept hf3 (by decide), zar_kept hf3 (by decide)]; exact j9
  have hpcs : pc = 11 ∨ pc = 23 := by
    unfold xmN at hpc
    cases e9 : Nat.beq 11 pc with
    | true => exact Or.inl (Nat.eq_of_beq_eq_true e9).symm
    | false =>
      rw [e9] at hpc
      exact Or.inr (xmN1 hpc)
  rcases hpcs with rfl | rfl
  rotate_left
  · have hsk : sk = [] := by
      cases sk with
      | nil => rfl
      | cons a t => cases k4
    subst hsk
    exact key (q + 1) q rk nb0 B0 kk0 H3 locs3 ls3 es3 (Nat.lt_succ_self _) V3.1 V3.2.1 V3.2.2.1 hC3 hf3' (by rw [zfd_kept hf3 (by decide) (by decide)]; exact hgood) hl3 d38 d37 j5 d36 dpl j10 (by rw [zar_kept hf3 (by decide)]; exact j11) j14 s1 s2 s3 s4
  · -- is it compared already
    have k4 := be_sk k4
    subst k4
    obtain ⟨rr, hr2, o2, na2, ml2⟩ := shp_ok (mi := 127) (na := 0) (ml := 2) (by decide +kernel)
    obtain ⟨lk1, lk2, lk3, hlk⟩ := lk_comp
    have hM : zHM tU D l 127 (1, 64) ρ γ es3 (.ref (ρ 56) :: []) _ := c_isCompared (D := D) (l := l) (ρ := ρ) (γ := γ) (es := es3) hC3 d38 dpl j5
    refine zcallH (T := tU) (ρ := ρ) (γ := γ) (As := []) (rs := []) B1 V3.1 V3.2.1 V3.2.2.1 V3.2.2.2.1.1 hC3 (xpc_79_11 r hr) (link11 (r := zhR r (4, 129)) hlk ho) hr2 (i0 := 56) (fs := fs56) (by rw [o2]; exact h56) (by rw [na2]; rfl) (Nat.zero_le _) (rm := (1, 64)) ⟨by show 1 + 1 ≤ 4; decide, by rw [ml2]; show 8 + (2 + 11) + 64 ≤ 129; decide⟩ hM ?_
    intro v es4 H4 locs4 hP4 hD4 hS4 hC4 hR4
    obtain ⟨⟨w, rfl, w1, w2⟩, hf4⟩ := hR4
    have hf4' : zfrm [4677] es es4 := zfrm.trans (w1 := [4677]) hf3 hf4 (by decide)
    obtain ⟨n6, n7, n8, n4, n35, nu⟩ := stay es4 (zfrm_wid hf4' (by decide)) (by rw [zfd_kept hf4' (by decide) (by decide)]; exact hgood)
    have f38 : zfd es4 56 38 = ((q + 1 : Nat) : Int) := by rw [zfd_kept hf4 (by decide) (by decide)]; exact d38
    have f37 : zfd es4 56 37 = (nb0 : Int) := by rw [zfd_kept hf4 (by decide) (by decide)]; exact d37
    have hc := be_14
    unfold beRun at hc
    rw [hrw] at hc
    have hst : (some (Value.int w)).toList ++ [] = [Sum.inl (zsym 69)].map (zv ρ (bE (zfd es4 56 6) (zfd es4 56 7) (zfd es4 56 8) ((q + 1 : Nat) : Int) nb0 rk w.toInt)) := by
      show [Value.int w] = [Value.int (Int32.ofInt (1 * w.toInt + 0))]
      rw [Int.one_mul, Int.add_zero, i32_of]
    rw [hst]
    refine zseg (ρ := ρ) (γ := γ) (η := bE (zfd es4 56 6) (zfd es4 56 7) (zfd es4 56 8) ((q + 1 : Nat) : Int) nb0 rk w.toInt) (sk := [.inl (zsym 69)]) B1 (hsU es4) hc hP4 hD4 hS4 (by rw [hloc _ rk rfl]; exact hl3) (bE_sat (by rw [n6]; exact a1) (by rw [n6]; exact a2) (by rw [n7]; exact e1) (by rw [n7]; exact e2) (by rw [n8]; exact htok.1) (by rw [n8]; exact htok.2) (by omega) (by omega) (by decide) (by omega) j5 (by omega) (by omega) w1 w2) (bE_co hC4 _ _ n4 f38 f37) ?_ ?_
    · intro pc lo sk ca fa nf η5 H5 locs5 ls5 es5 hpc hhk V5
      have hpc := xmN1 hpc
      subst hpc
      unfold beH14 at hhk
      simp only [Bool.and_eq_true] at hhk
      obtain ⟨k1, k2, k3, k4, k5⟩ := hhk
      have hsk : sk = [] := by
        cases sk with
        | nil => rfl
        | cons a t => cases k1
      subst hsk
      obtain ⟨x5, l5, v5⟩ := hI_ok k4
      have hf5 := V5.2.2.2.2.2.2.2.2
      have f4 := hI_fd V5.2.2.2.2.2.2.2.1.2.2.2.2 k5 (n := 0) (by show 1 * η5 63 + 0 = 0; rw [V5.2.2.2.2.2.2.1 63 (by decide)]; rfl) (by decide) (by decide)
      refine key (q + 1) q rk nb0 B0 kk0 H5 locs5 ls5 es5 (Nat.lt_succ_self _) V5.1 V5.2.1 V5.2.2.1 (zCo.flush V5.2.2.2.2.1 V5.2.2.2.2.2.2.2.1 k2 _) (zfrm.trans (w1 := [3588, 3589, 3620, 3621, 3622, 4928, 4992, 4677]) (zfrm_wid hf4' (by decide)) hf5 (by decide)) f4 ?_ (by rw [zfd_kept hf5 (by decide) (by decide)]; exact f38) (by rw [zfd_kept hf5 (by decide) (by decide)]; exact f37) j5 (by rw [zfd_kept hf5 (by decide) (by decide), zfd_kept hf4 (by decide) (by decide)]; exact d36) (by rw [zar_kept hf5 (by decide), zar_kept hf5 (by decide), zar_kept hf4 (by decide), zar_kept hf4 (by decide)]; exact dpl) j10 (by rw [zar_kept hf5 (by decide), zar_kept hf4' (by decide)]; exact j11) j14 s1 s2 s3 s4
      rw [← hloc (bE 0 0 0 0 0 rk 0) rk rfl]
      refine lvh V5.2.2.2.1 (fun q9 hq => ?_)
      rcases List.mem_cons.mp hq with e9 | e9
      · rw [e9]; exact ⟨_, hRf_ok k3, rfl⟩
      · rcases List.mem_singleton.mp e9 with rfl
        refine ⟨_, l5, zv_int ?_⟩
        rw [v5]
        show 1 * η5 1 + 0 = 1 * (rk : Int) + 0
        rw [V5.2.2.2.2.2.2.1 1 (by decide)]
        rfl
    · intro pc v lo ca fa nf η5 H5 locs5 ls5 es5 V5 hfin hx5
      have hf5 := V5.2.2.2.2.2.2.2.2
      have hh5 := V5.2.2.2.2.2.2.2.1.2.2.2.2
      unfold beF14 at hfin
      simp only [Bool.and_eq_true] at hfin
      obtain ⟨q1, q2, q3⟩ := hfin
      obtain ⟨z, z0, z1⟩ := hI_ok q2
      subst z0
      have hz : (zi η5 z).toInt = 1 := by unfold zi; rw [z1]; exact (show (Int32.ofInt 1).toInt = 1 by decide)
      obtain ⟨y, y0, y1, y2, y3⟩ := hIn_ok V5.2.2.2.2.1 q3
      have f4 := cF_fd hh5 y0 y3
      have hfA : zfrm [3588, 3589, 4677] es es5 := zfrm.trans (w1 := [3588, 3589, 4677]) (zfrm_wid hf4' (by decide)) hf5 (by decide)
      refine hret _ pc (some (.inl z)) η5 H5 locs5 ls5 hx5 V5.2.2.1 (fun t ht hK hF => ⟨⟨_, es5, rfl, by rw [ht]; exact V5.1, hK, V5.2.1, zCo.flush V5.2.2.2.2.1 V5.2.2.2.2.2.2.2.1 q1 _, zi η5 z, rfl, Or.inr hz, zfrm_wid hfA (by decide), ⟨false, ⟨b, q + 1, nb0, B0, B0 + 1, u, kk0, ?_⟩, fun z => by omega⟩, ⟨by rw [zfd_kept hfA (by decide) (by decide)]; exact htok, fun z => by omega⟩⟩, hF⟩)
      refine ⟨by rw [zfd_kept hfA (by decide) (by decide)]; exact j1, j2, by rw [zfd_kept hfA (by decide) (by decide)]; exact j3, by rw [zfd_kept hfA (by decide) (by decide)]; exact j4, j5, by rw [zfd_kept hfA (by decide) (by decide)]; exact j6, by rw [zar_kept hfA (by decide)]; exact j7, j8, by rw [zar_kept hfA (by decide), zar_kept hfA (by decide)]; exact j9, j10, by rw [zar_kept hfA (by decide)]; exact j11, (fun z => by cases z), fun _ => ⟨rfl, j14⟩⟩
