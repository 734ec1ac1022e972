theorem xpc_194_235 : ∀ r : xR, (gt xmt 194).bind xrow = some r → xfi r.2.2.2.2.2.2.2 235 = some (.invokevirtual 299, 3) := xpcE (by decide +kernel)
theorem xpc_194_265 : ∀ r : xR, (gt xmt 194).bind xrow = some r → xfi r.2.2.2.2.2.2.2 265 = some (.invokevirtual 312, 3) := xpcE (by decide +kernel)
def own11 (mi : Nat) : Bool := match (gt xmt mi).bind xrow with
  | some r => Nat.beq r.2.2.2.2.1 11
  | none => false
theorem own_ok {mi : Nat} (h : own11 mi = true) {r : xR} (hr : (gt xmt mi).bind xrow = some r) : r.2.2.2.2.1 = 11 := by
  unfold own11 at h
  rw [hr] at h
  exact Nat.eq_of_beq_eq_true h
theorem link11 {x mi g1 g2 g3 : Nat} (h : xfi (xml 11) x = some (0, mi, g1, g2, g3)) {r : xR} (ho : r.2.2.2.2.1 = 11) : xfi (xml r.2.2.2.2.1) x = some (0, mi, g1, g2, g3) := by rw [ho]; exact h
/-- what a called row is: its owner, how many arguments, its locals -/
def shp (mi na ml : Nat) : Bool := match (gt xmt mi).bind xrow with
  | some r => Nat.beq r.2.2.2.2.1 11 && (Nat.beq r.2.2.2.2.2.2.1 na && Nat.beq r.2.2.1 ml)
  | none => false
theorem shp_ok {mi na ml : Nat} (h : shp mi na ml = true) : ∃ r : xR, (gt xmt mi).bind xrow = some r ∧ r.2.2.2.2.1 = 11 ∧ r.2.2.2.2.2.2.1 = na ∧ r.2.2.1 = ml := by
  unfold shp at h
  split at h
  · rename_i r e
    rw [Bool.and_eq_true, Bool.and_eq_true] at h
    exact ⟨r, e, Nat.eq_of_beq_eq_true h.1, Nat.eq_of_beq_eq_true h.2.1, Nat.eq_of_beq_eq_true h.2.2⟩
  · cases h
theorem lk_pushE : ∃ g1 g2 g3, xfi (xml 11) 299 = some (0, 167, g1, g2, g3) := ⟨_, _, _, rfl⟩
theorem lk_emit : ∃ g1 g2 g3, xfi (xml 11) 312 = some (0, 99, g1, g2, g3) := ⟨_, _, _, rfl⟩
theorem z56 : ∃ fs, zdec[56]? = some (.inr (11, fs)) := ⟨_, rfl⟩
set_option maxHeartbeats 8000000 in
theorem c_unit {D : va_G} {l : Launch} {ρ : Nat → Nat} {γ : Nat → ClassId} {es : va_W} (hco : zCo zD0 ρ γ (fun _ => 0) [] es) {cg : Nat → Int32} {k0 : Nat} (hJ : kJ cg k0 true es) (hgood : zfd es 56 4 = 0) (htok : 0 ≤ zfd es 56 8 ∧ zfd es 56 8 ≤ 5) : zHM tU D l 194 (3, 108) ρ γ es [.ref (ρ 56)] (fun v es2 => ∃ x : Int32, v = some (.int x) ∧ (x.toInt = 0 ∨ x.toInt = 1) ∧ zfrm [3588, 3589, 3590, 3591, 3592, 3593, 3594, 3620, 3621, 3622, 3623, 3904, 4928, 4992, 5056, 5120, 4677] es es2 ∧ (∃ wn, kJ cg k0 wn es2 ∧ (zfd es2 56 4 = 0 → wn = decide (x.toInt = 1))) ∧ kT es es2) := by
  obtain ⟨b, p0, nb, B, D0, u, k, j1, j2, j3, j4, j5, j6, j7, j8, j9, j10, j11, j12, -⟩ := hJ
  obtain ⟨j13, j14, j15⟩ := j12 rfl
  rw [j14] at j11
  have hple := kPl_le j9 j5
  obtain ⟨v6, a1, a2⟩ := fvx hco (k := 6) (a := 0) (b := 1600) (by decide +kernel) rfl
  obtain ⟨v7, e1, e2⟩ := fvx hco (k := 7) (a := 0) (b := 1600) (by decide +kernel) rfl
  obtain ⟨v8, -, -⟩ := fvx hco (k := 8) (a := -2147483648) (b := 2147483647) (by decide +kernel) rfl
  obtain ⟨v4, -, -⟩ := fvx hco (k := 4) (a := 0) (b := 4) (by decide +kernel) hgood
  obtain ⟨v38, -, -⟩ := fvx hco (k := 38) (a := 0) (b := 89) (by decide +kernel) j3
  obtain ⟨v37, -, -⟩ := fvx hco (k := 37) (a := 0) (b := 7) (by decide +kernel) j4
  obtain ⟨v35, -, -⟩ := fvx hco (k := 35) (a := 0) (b := 1) (by decide +kernel) j1
  obtain ⟨v36, -, -⟩ := fvx hco (k := 36) (a := 0) (b := 1119) (by decide +kernel) j6
  intro r hr sz
  have ho : r.2.2.2.2.1 = 11 := own_ok (by decide +kernel) hr
  refine zent (ρ := ρ) hr (by
    show 1 ≤ r.2.2.1
    exact zfl1_cat (sm := (194, (3, 108), [.inr (.inl (some 56))], none, [], [], (([], []), []))) (by decide +kernel) r hr) ?_
  intro p e s m below meth c ls hsz B0 hP hD hl hret
  have hrw : ((gt xmt 194).bind xrow).map (fun r => zhR r (3, 108)) = some (zhR r (3, 108)) := by rw [hr]; rfl
  obtain ⟨fs56, h56⟩ := z56
  have hc := un_0
  unfold unRun at hc
  rw [hrw] at hc
  refine zseg (ρ := ρ) (γ := γ) (η := uE (zfd es 56 6) (zfd es 56 7) (zfd es 56 8) p0 nb b u) (sk := []) B0 (hsU es) hc hP hD va_S.rf hl (uE_sat a1 a2 e1 e2 htok.1 htok.2 j13 (by omega) j5 j2 j8) (uE_co hco v6 v7 v8 v4 v38 v37 v35 j7) ?_ ?_
  · intro pc lo sk ca fa nf η3 H3 locs3 ls3 es3 hpc hhk V3
    have hf3 := V3.2.2.2.2.2.2.2.2
    have hh3 := V3.2.2.2.2.2.2.2.1.2.2.2.2
    have hs3 := V3.2.2.2.2.1
    have g61 : η3 61 = zfd es 56 7 := V3.2.2.2.2.2.2.1 61 (by decide)
    have g64 : zd η3 (zsym 64) = (p0 : Int) := by show 1 * η3 64 + 0 = _; rw [V3.2.2.2.2.2.2.1 64 (by decide)]; show 1 * (p0 : Int) + 0 = _; omega
    have g65 : zd η3 (zsym 65) = (nb : Int) := by show 1 * η3 65 + 0 = _; rw [V3.2.2.2.2.2.2.1 65 (by decide)]; show 1 * (nb : Int) + 0 = _; omega
    have g67 : zd η3 (zsym 67) = (b : Int) := by show 1 * η3 67 + 0 = _; rw [V3.2.2.2.2.2.2.1 67 (by decide)]; show 1 * (b : Int) + 0 = _; omega
    have g68 : η3 68 = (u : Int) := V3.2.2.2.2.2.2.1 68 (by decide)
    unfold unHk at hhk
    simp only [Bool.and_eq_true] at hhk
    obtain ⟨k1, k2, k3, k4, k5, k6, k7, kq, k8⟩ := hhk
    have hC3 := zCo.flush hs3 V3.2.2.2.2.2.2.2.1 k1 (fun _ => 0)
    have f38 := hI_fd hh3 k3 g64 (by omega) (by omega)
    have f37 := hI_fd hh3 k4 g65 (by omega) (by omega)
    have f35 := hI_fd hh3 k5 g67 (by omega) (by omega)
    have f36 : zfd es3 56 36 = (k : Int) := by rw [zfd_kept hf3 (by decide) (by decide)]; exact j6
    have f4 : zfd es3 56 4 = 0 := by
      obtain ⟨x, x0, x1, x2, x3⟩ := hIn_ok hs3 k6
      rw [cF_fd hh3 x0 x3]
      omega
    obtain ⟨t1, t2⟩ := hGo_ok hs3 hh3 k7
    rw [g61] at t2
    have t0 : 1 ≤ zfd es 56 8 := by
      obtain ⟨x, x0, x1, x2, x3⟩ := hIn_ok hs3 kq
      cases x0
      have g62 : zd η3 (zsym 62) = zfd es 56 8 := by show 1 * η3 62 + 0 = _; rw [V3.2.2.2.2.2.2.1 62 (by decide)]; show 1 * (zfd es 56 8) + 0 = _; omega
      omega
    split at k8
    rotate_left
    · cases k8
    rename_i x y i
    rw [Bool.and_eq_true] at k8
    obtain ⟨k8, k9⟩ := k8
    have k8 := Nat.eq_of_beq_eq_true k8
    subst k8
    have hpcs : pc = 235 ∨ pc = 265 := by
      unfold xmN at hpc
      cases e9 : Nat.beq 235 pc with
      | true => exact Or.inl (Nat.eq_of_beq_eq_true e9).symm
      | false =>
        rw [e9] at hpc
        exact Or.inr (xmN1 hpc)
    rcases hpcs with rfl | rfl
    · -- pushE
      have k9 : (zeB x (.inl 126) && (hIn fa (zcF 56 37 ca) 0 6 && ((zeB y (.inl 3) && hI (zcA 61 (zsym 67) ca) (zsym 68)) || (zeB y (.inl 7) && (hI (zcA 61 (zsym 67) ca) (.inr (68, 1, 1)) && hIn fa (some (.inl (zsym 68))) 0 59))))) = true := k9
      simp only [Bool.and_eq_true, Bool.or_eq_true] at k9
      obtain ⟨x1, n6, yy⟩ := k9
      have hx : zi η3 x = Int32.ofInt 126 := by unfold zi; rw [zeB_ok x1]; rfl
      have hn6 : nb ≤ 6 := by
        obtain ⟨w, w0, w1, w2, w3⟩ := hIn_ok hs3 n6
        have := cF_fd hh3 w0 w3
        omega
      have hy : ∃ u2 : Nat, ((zi η3 y).toInt = 7 ∨ (zi η3 y).toInt = 3) ∧ (zar es3 61 b).toInt = (u2 : Int) ∧ u ≤ u2 ∧ u2 ≤ 60 := by
        rcases yy with ⟨q1, q2⟩ | ⟨q1, q2, q3⟩
        · refine ⟨u, Or.inr ?_, hI_ar hh3 q2 g67 (by show 1 * η3 68 + 0 = _; rw [g68]; omega) (by omega) (by omega), Nat.le_refl _, j8⟩
          unfold zi; rw [zeB_ok q1]; exact (show (Int32.ofInt 3).toInt = 3 by decide)
        · obtain ⟨w, w0, w1, w2, w3⟩ := hIn_ok hs3 q3
          cases w0
          have w2 : 1 * η3 68 + 0 ≤ 59 := w2
          refine ⟨u + 1, Or.inl ?_, hI_ar hh3 q2 g67 (by show 1 * η3 68 + 1 = _; rw [g68]; omega) (by omega) (by omega), by omega, by omega⟩
          unfold zi; rw [zeB_ok q1]; exact (show (Int32.ofInt 7).toInt = 7 by decide)
      obtain ⟨u2, y1, y2, y3, y4⟩ := hy
      obtain ⟨r2, hr2, o2, na2, ml2⟩ := shp_ok (mi := 167) (na := 2) (ml := 3) (by decide +kernel)
      obtain ⟨l1, l2, l3, hlk⟩ := lk_pushE
      have hv : zfv es3 56 38 = some (.int (Int32.ofInt p0)) := (fvx hC3 (k := 38) (a := 0) (b := 89) (by decide +kernel) f38).1
      have hM : zHM tU D l 167 (1, 64) ρ γ es3 (.ref (ρ 56) :: [.int (zi η3 y), .int (zi η3 x)]) _ := c_pushE (D := D) (l := l) (ρ := ρ) (γ := γ) (es := es3) hC3 (k := p0) hv (by omega) (zi η3 y) (zi η3 x)
      refine zcallH (ρ := ρ) (γ := γ) (As := [.int (zi η3 y), .int (zi η3 x)]) (rs := []) B0 V3.1 V3.2.1 V3.2.2.1 V3.2.2.2.1.1 hC3 (xpc_194_235 r hr) (link11 (r := zhR r (3, 108)) hlk ho) hr2 (i0 := 56) (fs := fs56) (by rw [o2]; exact h56) (by rw [na2]; rfl) (Nat.zero_le _) (rm := (1, 64)) ⟨by show 1 + 1 ≤ 3; decide, by rw [ml2]; show 8 + (3 + 11) + 64 ≤ 108; decide⟩ hM ?_
      intro v es4 H4 locs4 hP4 hD4 hS4 hC4 hR4
      obtain ⟨rfl, hf4, w79, w80, w38⟩ := hR4
      have l0 := hRf_ok k2
      have q37 : zfd es4 56 37 = (nb : Int) := by rw [zfd_kept hf4 (by decide) (by decide)]; exact f37
      have hv37 : zfv es4 56 37 = some (.int (Int32.ofInt nb)) := (fvx hC4 (k := 37) (a := 0) (b := 7) (by decide +kernel) q37).1
      have hc := un_238
      unfold unRun at hc
      rw [hrw] at hc
      refine zseg (ρ := ρ) (γ := γ) (η := uE 0 0 0 0 nb 0 0) (sk := []) B0 (hsU es4) hc hP4 hD4 hS4 (lvh V3.2.2.2.1 (fun q hq => by
        rcases List.mem_singleton.mp hq with rfl
        exact ⟨_, l0, rfl⟩)) ⟨uE_bd ⟨by decide, by decide⟩ ⟨by decide, by decide⟩ ⟨by decide, by decide⟩ ⟨by decide, by decide⟩ (zbd_of (by omega) (by omega)) ⟨by decide, by decide⟩ ⟨by decide, by decide⟩, fun q hq => by
        rcases List.mem_singleton.mp hq with rfl
        exact ⟨by show (0 : Int) ≤ nb; omega, by show (nb : Int) ≤ 6; omega, fun _ z => by cases z⟩, fun q hq => (by cases hq), fun q hq => (by cases hq)⟩ (zCo.add (zCo.env hC4) ⟨fvi hv37 rfl, fun ix z => by cases z⟩) (fun _ _ _ _ _ _ _ _ _ _ _ h => by cases h) ?_
      intro pc v lo ca fa nf η5 H5 locs5 ls5 es5 V5 hfin hx5
      unfold unF1 at hfin
      simp only [Bool.and_eq_true] at hfin
      obtain ⟨q1, q2, q3⟩ := hfin
      obtain ⟨z, z0, z1⟩ := hI_ok q2
      subst z0
      have hz : (zi η5 z).toInt = 1 := by unfold zi; rw [z1]; exact (show (Int32.ofInt 1).toInt = 1 by decide)
      have hf5 : zfrm [3621, 4677] es4 es5 := V5.2.2.2.2.2.2.2.2
      have p37 := hI_fd V5.2.2.2.2.2.2.2.1.2.2.2.2 q3 (n := ((nb + 1 : Nat) : Int)) (by show 1 * η5 65 + 1 = _; rw [V5.2.2.2.2.2.2.1 65 (by decide)]; show 1 * (nb : Int) + 1 = _; omega) (by omega) (by omega)
      have c35 : ∀ kk : Nat, kk < 64 → xmN [3621, 4677] (64 * 56 + kk) = false → xmN [5056, 5120, 3622, 4677] (64 * 56 + kk) = false → zfd es5 56 kk = zfd es3 56 kk := fun kk a1 a2 a3 => by rw [zfd_kept hf5 a1 a2, zfd_kept hf4 a1 a3]
      refine hret [] pc (some (.inl z)) η5 H5 locs5 ls5 hx5 V5.2.2.1 (fun t ht hK hF => ⟨⟨_, es5, rfl, by rw [ht]; exact V5.1, hK, V5.2.1, zCo.flush V5.2.2.2.2.1 V5.2.2.2.2.2.2.2.1 q1 _, zi η5 z, rfl, Or.inr hz, zfrm.trans (w1 := [3588, 3589, 3590, 3591, 3592, 3593, 3594, 3620, 3621, 3622, 3623, 3904, 4928, 4992, 5056, 5120, 4677]) (zfrm.trans (w1 := [3588, 3589, 3590, 3591, 3592, 3593, 3594, 3620, 3621, 3622, 3623, 3904, 4928, 4992, 5056, 5120, 4677]) (zfrm_wid hf3 (by decide)) hf4 (by decide)) hf5 (by decide), ⟨true, ?_, fun _ => by rw [hz]; rfl⟩, ?_⟩, hF⟩)
      · refine kJ_nest (es := es3) (x := zi η3 y) j2 (by rw [c35 35 (by decide) (by decide) (by decide)]; exact f35) (by rw [zfd_kept hf5 (by decide) (by decide), w38]; push_cast; rfl) p37 (by omega) (by rw [c35 36 (by decide) (by decide) (by decide)]; exact f36) (by rw [zar_kept hf5 (by decide), zar_kept hf4 (by decide)]; exact y2) y3 y4 j13 (nb := nb) (B := B) ?_ (by rw [zar_kept hf5 (by decide), w79]) (by rw [zar_kept hf5 (by decide), w80, hx]) y1 j10 (by rw [zar_kept hf5 (by decide), zar_kept hf4 (by decide)]) ?_ j15
        · rw [zar_kept hf3 (by decide), zar_kept hf3 (by decide)]; exact j9
        · rw [zar_kept hf3 (by decide)]; exact j11
      · unfold kT
        rw [c35 8 (by decide) (by decide) (by decide), c35 6 (by decide) (by decide) (by decide), c35 7 (by decide) (by decide) (by decide)]
        exact ⟨t1, fun _ => ⟨t0, t2⟩⟩
    · -- emit
      have k9 : (hIn fa (some (.inl y)) 97 122 && (hI (zcA 61 (zsym 67) ca) (.inr (68, 1, 1)) && hIn fa (some (.inl (zsym 68))) 0 59)) = true := k9
      simp only [Bool.and_eq_true] at k9
      obtain ⟨q1, q2, q3⟩ := k9
      obtain ⟨w, w0, w1, w2, w3⟩ := hIn_ok hs3 q1
      cases w0
      obtain ⟨w', w0', w1', w2', w3'⟩ := hIn_ok hs3 q3
      cases w0'
      have w2' : 1 * η3 68 + 0 ≤ 59 := w2'
      have y2 := hI_ar hh3 q2 g67 (n := ((u + 1 : Nat) : Int)) (by show 1 * η3 68 + 1 = _; rw [g68]; push_cast; omega) (by omega) (by omega)
      obtain ⟨r2, hr2, o2, na2, ml2⟩ := shp_ok (mi := 99) (na := 2) (ml := 3) (by decide +kernel)
      obtain ⟨l1, l2, l3, hlk⟩ := lk_emit
      have hv : zfv es3 56 36 = some (.int (Int32.ofInt k)) := (fvx hC3 (k := 36) (a := 0) (b := 1119) (by decide +kernel) f36).1
      have hM : zHM tU D l 99 (1, 64) ρ γ es3 (.ref (ρ 56) :: [.int (zi η3 y), .int (zi η3 x)]) _ := c_emit (D := D) (l := l) (ρ := ρ) (γ := γ) (es := es3) hC3 (k := k) hv (by omega) (zi η3 y) (zi η3 x)
      refine zcallH (ρ := ρ) (γ := γ) (As := [.int (zi η3 y), .int (zi η3 x)]) (rs := []) B0 V3.1 V3.2.1 V3.2.2.1 V3.2.2.2.1.1 hC3 (xpc_194_265 r hr) (link11 (r := zhR r (3, 108)) hlk ho) hr2 (i0 := 56) (fs := fs56) (by rw [o2]; exact h56) (by rw [na2]; rfl) (Nat.zero_le _) (rm := (1, 64)) ⟨by show 1 + 1 ≤ 3; decide, by rw [ml2]; show 8 + (3 + 11) + 64 ≤ 108; decide⟩ hM ?_
      intro v es4 H4 locs4 hP4 hD4 hS4 hC4 hR4
      obtain ⟨rfl, hf4, w77, w36⟩ := hR4
      have l0 := hRf_ok k2
      have hc := un_268
      unfold unRun at hc
      rw [hrw] at hc
      refine zseg (ρ := ρ) (γ := γ) (η := fun _ => 0) (sk := []) B0 (hsU es4) hc hP4 hD4 hS4 (lvh V3.2.2.2.1 (fun q hq => by
        rcases List.mem_singleton.mp hq with rfl
        exact ⟨_, l0, rfl⟩)) ⟨fun _ => (show zbd 0 from ⟨by decide, by decide⟩), fun q hq => (by cases hq), fun q hq => (by cases hq), fun q hq => (by cases hq)⟩ (zCo.env hC4) (fun _ _ _ _ _ _ _ _ _ _ _ h => by cases h) ?_
      intro pc v lo ca fa nf η5 H5 locs5 ls5 es5 V5 hfin hx5
      unfold unF0 at hfin
      simp only [Bool.and_eq_true] at hfin
      obtain ⟨q1, q2⟩ := hfin
      obtain ⟨z, z0, z1⟩ := hI_ok q2
      subst z0
      have hz : (zi η5 z).toInt = 0 := by unfold zi; rw [z1]; exact (show (Int32.ofInt 0).toInt = 0 by decide)
      have hf5 : zfrm [4677] es4 es5 := V5.2.2.2.2.2.2.2.2
      have c35 : ∀ kk : Nat, kk < 64 → xmN [4677] (64 * 56 + kk) = false → xmN [4928, 4992, 3620, 4677] (64 * 56 + kk) = false → zfd es5 56 kk = zfd es3 56 kk := fun kk a1 a2 a3 => by rw [zfd_kept hf5 a1 a2, zfd_kept hf4 a1 a3]
      refine hret [] pc (some (.inl z)) η5 H5 locs5 ls5 hx5 V5.2.2.1 (fun t ht hK hF => ⟨⟨_, es5, rfl, by rw [ht]; exact V5.1, hK, V5.2.1, zCo.flush V5.2.2.2.2.1 V5.2.2.2.2.2.2.2.1 q1 _, zi η5 z, rfl, Or.inl hz, zfrm.trans (w1 := [3588, 3589, 3590, 3591, 3592, 3593, 3594, 3620, 3621, 3622, 3623, 3904, 4928, 4992, 5056, 5120, 4677]) (zfrm.trans (w1 := [3588, 3589, 3590, 3591, 3592, 3593, 3594, 3620, 3621, 3622, 3623, 3904, 4928, 4992, 5056, 5120, 4677]) (zfrm_wid hf3 (by decide)) hf4 (by decide)) hf5 (by decide), ⟨false, ?_, fun _ => by rw [hz]; rfl⟩, ?_⟩, hF⟩)
      · refine kJ_oper (es := es3) (x := zi η3 y) j2 (by rw [c35 35 (by decide) (by decide) (by decide)]; exact f35) (by rw [c35 38 (by decide) (by decide) (by decide)]; exact f38) (by rw [c35 37 (by decide) (by decide) (by decide)]; exact f37) j5 (by rw [zfd_kept hf5 (by decide) (by decide), w36]; push_cast; rfl) (by rw [zar_kept hf5 (by decide), zar_kept hf4 (by decide)]; exact y2) (by omega) (nb := nb) (B := B) ?_ (by rw [zar_kept hf5 (by decide), zar_kept hf4 (by decide)]) (by rw [zar_kept hf5 (by decide), zar_kept hf4 (by decide)]) (by rw [w3]; exact w1) (by rw [w3]; exact w2) j10 (by rw [zar_kept hf5 (by decide), w77]) ?_ j15
        · rw [zar_kept hf3 (by decide), zar_kept hf3 (by decide)]; exact j9
        · rw [zar_kept hf3 (by decide)]; exact j11
      · unfold kT
        rw [c35 8 (by decide) (by decide) (by decide), c35 6 (by decide) (by decide) (by decide), c35 7 (by decide) (by decide) (by decide)]
        exact ⟨t1, fun _ => ⟨t0, t2⟩⟩
  · -- it is misplaced
    intro pc v lo ca fa nf η3 H3 locs3 ls3 es3 V3 hfin hx3
    have hf3 := V3.2.2.2.2.2.2.2.2
    have hh3 := V3.2.2.2.2.2.2.2.1.2.2.2.2
    have hs3 := V3.2.2.2.2.1
    unfold unFin at hfin
    simp only [Bool.and_eq_true] at hfin
    obtain ⟨q1, q2, q3, q4, q5⟩ := hfin
    obtain ⟨z, z0, z1⟩ := hI_ok q2
    subst z0
    have hz : (zi η3 z).toInt = 1 := by unfold zi; rw [z1]; exact (show (Int32.ofInt 1).toInt = 1 by decide)
    have f4 : 1 ≤ zfd es3 56 4 := by
      obtain ⟨x, x0, x1, x2, x3⟩ := hIn_ok hs3 q3
      rw [cF_fd hh3 x0 x3]
      exact x1
    have f8 : 0 ≤ zfd es3 56 8 ∧ zfd es3 56 8 ≤ 5 := by
      obtain ⟨x, x0, x1, x2, x3⟩ := hIn_ok hs3 q4
      rw [cF_fd hh3 x0 x3]
      exact ⟨x1, x2⟩
    have g67 : zd η3 (zsym 67) = (b : Int) := by show 1 * η3 67 + 0 = _; rw [V3.2.2.2.2.2.2.1 67 (by decide)]; show 1 * (b : Int) + 0 = _; omega
    have y2 := hI_ar hh3 q5 g67 (n := (u : Int)) (by show 1 * η3 68 + 0 = _; rw [V3.2.2.2.2.2.2.1 68 (by decide)]; show 1 * (u : Int) + 0 = _; omega) (by omega) (by omega)
    refine hret _ pc (some (.inl z)) η3 H3 locs3 ls3 hx3 V3.2.2.1 (fun t ht hK hF => ⟨⟨_, es3, rfl, by rw [ht]; exact V3.1, hK, V3.2.1, zCo.flush hs3 V3.2.2.2.2.2.2.2.1 q1 _, zi η3 z, rfl, Or.inr hz, zfrm_wid hf3 (by decide), ⟨true, ⟨b, p0, nb, B, B, u, k, ?_⟩, fun z => by omega⟩, f8, fun z => by omega⟩, hF⟩)
    refine ⟨by rw [zfd_kept hf3 (by decide) (by decide)]; exact j1, j2, by rw [zfd_kept hf3 (by decide) (by decide)]; exact j3, by rw [zfd_kept hf3 (by decide) (by decide)]; exact j4, j5, by rw [zfd_kept hf3 (by decide) (by decide)]; exact j6, y2, j8, by rw [zar_kept hf3 (by decide), zar_kept hf3 (by decide)]; exact j9, j10, by rw [zar_kept hf3 (by decide)]; exact j11, fun _ => ⟨j13, rfl, j15⟩, fun z => by cases z⟩
