set_option maxHeartbeats 16000000 in
theorem c_e {D : va_G} {l : Launch} {ρ : Nat → Nat} {γ : Nat → ClassId} {es : va_W} (hco : zCo zD0 ρ γ (fun _ => 0) [] es) {b k0 : Nat} (f35 : zfd es 56 35 = b) (hb : b ≤ 1) (f36 : zfd es 56 36 = k0) (htok : 0 ≤ zfd es 56 8 ∧ zfd es 56 8 ≤ 5) (hgo : zfd es 56 4 = 0 → ∃ u : Nat, (zar es 61 b).toInt = u ∧ u ≤ 60 ∧ k0 ≤ 560 * b + 9 * u) : zHM tU D l 97 (5, 150) ρ γ es [.ref (ρ 56)] (eR k0 b es) := by
  intro r hr sz
  have ho : r.2.2.2.2.1 = 11 := own_ok (by decide +kernel) hr
  refine zent (ρ := ρ) hr (by
    show 1 ≤ r.2.2.1
    exact zfl1_cat (sm := (97, (5, 150), [.inr (.inl (some 56))], none, [], [], (([], []), []))) (by decide +kernel) r hr) ?_
  intro p e s m below meth c ls hsz B1 hP hD hl hret
  have hrw : ((gt xmt 97).bind xrow).map (fun r => zhR r (5, 150)) = some (zhR r (5, 150)) := by rw [hr]; rfl
  obtain ⟨fs56, h56⟩ := z56
  have hloc : ∀ (η : zE) (x : Int32), η 1 = x.toInt → zdL ρ η eLo = [(0, .ref (ρ 56)), (1, .int x)] := fun η x h => by
    show [(0, Value.ref (ρ 56)), (1, Value.int (Int32.ofInt (1 * η 1 + 0)))] = _
    rw [h, Int.one_mul, Int.add_zero, i32_of]
  -- from a place before the head
  have head : ∀ (x : Int32) (N : Nat), (∀ (H : Heap) (locs : List Loc) (ls2 : Array Slot) (es2 : va_W), (zfd es2 56 4 = 0 → eM es2 < N) → va_P D vwCl es2 H → va_D (va_A es sz) es2 → va_S (va_A es sz) s.heap H locs → zCo zD0 ρ γ (fun _ => 0) [] es2 → zfrm [3588, 3589, 3590, 3591, 3592, 3593, 3594, 3620, 3621, 3622, 3623, 3904, 4928, 4992, 5056, 5120, 4677] es es2 → lv_has ls2 r.2.2.1 [(0, .ref (ρ 56)), (1, .int x)] → eI k0 es x es2 → W p l e (zrmS (5, 150)) s m [Value.ref (ρ 56)].toArray below meth c H locs 0 0 (MQ below (zQh tU D ρ γ es sz (eR k0 b es)) [Value.ref (ρ 56)].toArray s 0 0 (va_A es sz)) (F0 m 19 ls2 [])) → (x.toInt = 0 ∨ x.toInt = 1) → ∀ (v : zI) (pc0 : Nat) (sk0 : List zV) (H : Heap) (locs : List Loc) (ls2 : Array Slot) (es2 : va_W), (zd (gE (zfd es2 56 4) (zfd es2 56 38) x.toInt) v = x.toInt ∧ (v = .inl 1 ∨ v = zsym 1)) → eRun (eH17 v) beNo [19] [4677] pc0 [(0, .inr (.inl (some 56)))] sk0 = true → (zfd es2 56 4 = 0 → eM es2 < N) → va_P D vwCl es2 H → va_D (va_A es sz) es2 → va_S (va_A es sz) s.heap H locs → zCo zD0 ρ γ (fun _ => 0) [] es2 → zfrm [3588, 3589, 3590, 3591, 3592, 3593, 3594, 3620, 3621, 3622, 3623, 3904, 4928, 4992, 5056, 5120, 4677] es es2 → lv_has ls2 r.2.2.1 [(0, .ref (ρ 56))] → eI k0 es x es2 → W p l e (zrmS (5, 150)) s m [Value.ref (ρ 56)].toArray below meth c H locs 0 0 (MQ below (zQh tU D ρ γ es sz (eR k0 b es)) [Value.ref (ρ 56)].toArray s 0 0 (va_A es sz)) (F0 m pc0 ls2 (sk0.map (zv ρ (gE (zfd es2 56 4) (zfd es2 56 38) x.toInt)))) := by
    intro x N key hx v pc0 sk0 H locs ls2 es2 hv hc hN hP2 hD2 hS2 hC2 hf2 hl2 hI2
    obtain ⟨-, b1, b2⟩ := fvx hC2 (k := 4) (a := 0) (b := 4) (by decide +kernel) rfl
    obtain ⟨-, c1, c2⟩ := fvx hC2 (k := 38) (a := 0) (b := 89) (by decide +kernel) rfl
    unfold eRun at hc
    rw [hrw] at hc
    refine zseg (ρ := ρ) (γ := γ) (η := gE (zfd es2 56 4) (zfd es2 56 38) x.toInt) (sk := sk0) B1 (hsU es2) hc hP2 hD2 hS2 hl2 (gE_sat b1 b2 c1 c2 (by omega) (by omega)) (gE_co hC2 _) ?_ (fun _ _ _ _ _ _ _ _ _ _ _ _ h => by cases h)
    intro pc lo sk ca fa nf η5 H5 locs5 ls5 es5 hpc hhk V5
    have hpc := xmN1 hpc
    subst hpc
    unfold eH17 at hhk
    simp only [Bool.and_eq_true] at hhk
    obtain ⟨k1, k2, k3, k4⟩ := hhk
    have hsk : sk = [] := by
      cases sk with
      | nil => rfl
      | cons a t => cases k1
    subst hsk
    have hf5 : zfrm [4677] es2 es5 := V5.2.2.2.2.2.2.2.2
    obtain ⟨x5, l5, v5⟩ := hI_ok k4
    have q4 : zfd es5 56 4 = zfd es2 56 4 := zfd_kept hf5 (by decide) (by decide)
    have q6 : zfd es5 56 6 = zfd es2 56 6 := zfd_kept hf5 (by decide) (by decide)
    have q7 : zfd es5 56 7 = zfd es2 56 7 := zfd_kept hf5 (by decide) (by decide)
    have q8 : zfd es5 56 8 = zfd es2 56 8 := zfd_kept hf5 (by decide) (by decide)
    have q35 : zfd es5 56 35 = zfd es2 56 35 := zfd_kept hf5 (by decide) (by decide)
    have q36 : zfd es5 56 36 = zfd es2 56 36 := zfd_kept hf5 (by decide) (by decide)
    have q37 : zfd es5 56 37 = zfd es2 56 37 := zfd_kept hf5 (by decide) (by decide)
    have q38 : zfd es5 56 38 = zfd es2 56 38 := zfd_kept hf5 (by decide) (by decide)
    have q61 : zar es5 61 = zar es2 61 := zar_kept hf5 (by decide)
    have q77 : zar es5 77 = zar es2 77 := zar_kept hf5 (by decide)
    have q79 : zar es5 79 = zar es2 79 := zar_kept hf5 (by decide)
    have q80 : zar es5 80 = zar es2 80 := zar_kept hf5 (by decide)
    refine key H5 locs5 ls5 es5 (by unfold eM; rw [q4, q6, q7, q8, q38]; exact hN) V5.1 V5.2.1 V5.2.2.1 (zCo.flush V5.2.2.2.2.1 V5.2.2.2.2.2.2.2.1 k2 _) (zfrm.trans (w1 := [3588, 3589, 3590, 3591, 3592, 3593, 3594, 3620, 3621, 3622, 3623, 3904, 4928, 4992, 5056, 5120, 4677]) hf2 hf5 (by decide)) ?_ ?_
    · rw [← hloc (gE 0 0 x.toInt) x rfl]
      refine lvh V5.2.2.2.1 (fun q9 hq => ?_)
      rcases List.mem_cons.mp hq with e9 | e9
      · rw [e9]; exact ⟨_, hRf_ok k3, rfl⟩
      · rcases List.mem_singleton.mp e9 with rfl
        refine ⟨_, l5, zv_int ?_⟩
        rw [v5]
        rcases hv with ⟨hv1, hv2 | hv2⟩
        · subst hv2
          show (1 : Int) = 1 * x.toInt + 0
          have : (1 : Int) = x.toInt := hv1
          omega
        · subst hv2
          show 1 * η5 1 + 0 = 1 * x.toInt + 0
          rw [V5.2.2.2.2.2.2.1 1 (by decide)]
          rfl
    · unfold eI eS eP kJ
      rw [q4, q6, q7, q8, q35, q36, q37, q38, q61, q77, q79, q80]
      exact hI2
  -- from the head
  have key : ∀ (N : Nat) (x : Int32) (H : Heap) (locs : List Loc) (ls2 : Array Slot) (es2 : va_W), (x.toInt = 0 ∨ x.toInt = 1) → (zfd es2 56 4 = 0 → eM es2 < N) → va_P D vwCl es2 H → va_D (va_A es sz) es2 → va_S (va_A es sz) s.heap H locs → zCo zD0 ρ γ (fun _ => 0) [] es2 → zfrm [3588, 3589, 3590, 3591, 3592, 3593, 3594, 3620, 3621, 3622, 3623, 3904, 4928, 4992, 5056, 5120, 4677] es es2 → lv_has ls2 r.2.2.1 [(0, .ref (ρ 56)), (1, .int x)] → eI k0 es x es2 → W p l e (zrmS (5, 150)) s m [Value.ref (ρ 56)].toArray below meth c H locs 0 0 (MQ below (zQh tU D ρ γ es sz (eR k0 b es)) [Value.ref (ρ 56)].toArray s 0 0 (va_A es sz)) (F0 m 19 ls2 []) := by
    intro N
    induction N using Nat.strongRecOn with
    | _ N ih =>
    intro x H locs ls2 es2 hx hN hP2 hD2 hS2 hC2 hf2 hl2 hI2
    obtain ⟨-, b1, b2⟩ := fvx hC2 (k := 4) (a := 0) (b := 4) (by decide +kernel) rfl
    obtain ⟨-, c1, c2⟩ := fvx hC2 (k := 38) (a := 0) (b := 89) (by decide +kernel) rfl
    have hc := e_19
    unfold eRun at hc
    rw [hrw] at hc
    -- what stays
    have stay : ∀ es5 : va_W, zfrm [4677] es2 es5 → eM es5 = eM es2 ∧ eI k0 es x es5 ∧ zfd es5 56 4 = zfd es2 56 4 ∧ zfd es5 56 38 = zfd es2 56 38 ∧ zfd es5 56 35 = zfd es2 56 35 := by
      intro es5 hf5
      have q4 : zfd es5 56 4 = zfd es2 56 4 := zfd_kept hf5 (by decide) (by decide)
      have q6 : zfd es5 56 6 = zfd es2 56 6 := zfd_kept hf5 (by decide) (by decide)
      have q7 : zfd es5 56 7 = zfd es2 56 7 := zfd_kept hf5 (by decide) (by decide)
      have q8 : zfd es5 56 8 = zfd es2 56 8 := zfd_kept hf5 (by decide) (by decide)
      have q35 : zfd es5 56 35 = zfd es2 56 35 := zfd_kept hf5 (by decide) (by decide)
      have q36 : zfd es5 56 36 = zfd es2 56 36 := zfd_kept hf5 (by decide) (by decide)
      have q37 : zfd es5 56 37 = zfd es2 56 37 := zfd_kept hf5 (by decide) (by decide)
      have q38 : zfd es5 56 38 = zfd es2 56 38 := zfd_kept hf5 (by decide) (by decide)
      have q61 : zar es5 61 = zar es2 61 := zar_kept hf5 (by decide)
      have q77 : zar es5 77 = zar es2 77 := zar_kept hf5 (by decide)
      have q79 : zar es5 79 = zar es2 79 := zar_kept hf5 (by decide)
      have q80 : zar es5 80 = zar es2 80 := zar_kept hf5 (by decide)
      refine ⟨by unfold eM; rw [q6, q7, q8, q38], ?_, q4, q38, q35⟩
      unfold eI eS eP kJ
      rw [q4, q6, q7, q8, q35, q36, q37, q38, q61, q77, q79, q80]
      exact hI2
    refine zseg (ρ := ρ) (γ := γ) (η := gE (zfd es2 56 4) (zfd es2 56 38) x.toInt) (sk := []) B1 (hsU es2) hc hP2 hD2 hS2 (by rw [hloc _ x rfl]; exact hl2) (gE_sat b1 b2 c1 c2 (by omega) (by omega)) (gE_co hC2 _) ?_ ?_
    · intro pc lo sk ca fa nf η3 H3 locs3 ls3 es3 hpc hhk V3
      have hf3 : zfrm [4677] es2 es3 := V3.2.2.2.2.2.2.2.2
      have hs3 := V3.2.2.2.2.1
      have g63 : η3 63 = zfd es2 56 4 := V3.2.2.2.2.2.2.1 63 (by decide)
      have g64 : η3 64 = zfd es2 56 38 := V3.2.2.2.2.2.2.1 64 (by decide)
      have g1 : η3 1 = x.toInt := V3.2.2.2.2.2.2.1 1 (by decide)
      unfold eH19 at hhk
      simp only [Bool.and_eq_true, Bool.or_eq_true] at hhk
      obtain ⟨k1, k2, k3, k4, k5, k6⟩ := hhk
      have k3 := eHs_ok k3
      subst k3
      have hC3 := zCo.flush hs3 V3.2.2.2.2.2.2.2.1 k1 (fun _ => 0)
      obtain ⟨m3, i3, n4, n38, n35⟩ := stay es3 hf3
      have f0 : zfd es2 56 4 = 0 := by
        obtain ⟨w, w0, w1, w2, w3⟩ := hIn_ok hs3 k4
        cases w0
        have w1 : 0 ≤ 1 * η3 63 + 0 := w1
        have w2 : 1 * η3 63 + 0 ≤ 0 := w2
        omega
      have p0 : 1 ≤ zfd es2 56 38 := by
        obtain ⟨w, w0, w1, w2, w3⟩ := hIn_ok hs3 k5
        cases w0
        have w1 : 1 ≤ 1 * η3 64 + 0 := w1
        omega
      have f3 : zfd es3 56 4 = 0 := by rw [n4]; exact f0
      rcases i3 with ⟨-, i3, -⟩ | ⟨z0, ⟨wn, jj, jw⟩, tk, pl⟩
      · exact absurd f3 i3
      have jw := jw f3
      have pl := pl f3
      have l0 := hRf_ok k2
      have hls3 : lv_has ls3 r.2.2.1 [(0, .ref (ρ 56))] := by
        refine lvh V3.2.2.2.1 (tm := [(0, .inr (.inl (some 56)))]) (η := fun _ => 0) (fun q hq => ?_)
        rcases List.mem_singleton.mp hq with rfl
        exact ⟨_, l0, rfl⟩
      have at3 := (fvx hC3 (k := 6) (a := 0) (b := 1600) (by decide +kernel) rfl).2
      have hf3' : zfrm [3588, 3589, 3590, 3591, 3592, 3593, 3594, 3620, 3621, 3622, 3623, 3904, 4928, 4992, 5056, 5120, 4677] es es3 := zfrm.trans (w1 := [3588, 3589, 3590, 3591, 3592, 3593, 3594, 3620, 3621, 3622, 3623, 3904, 4928, 4992, 5056, 5120, 4677]) hf2 hf3 (by decide)
      rcases k6 with ⟨k6, k7⟩ | ⟨k6, k7⟩
      · -- unit()
        have k6 := Nat.eq_of_beq_eq_true k6
        subst k6
        have hx1 : x.toInt = 1 := by
          obtain ⟨w, w0, w1, w2, w3⟩ := hIn_ok hs3 k7
          cases w0
          have w1 : 1 ≤ 1 * η3 1 + 0 := w1
          omega
        have jw : wn = true := by rw [jw, hx1]; rfl
        subst jw
        obtain ⟨rr, hr2, o2, na2, ml2⟩ := shp_ok shp_194
        obtain ⟨lk1, lk2, lk3, hlk⟩ := lk_unit
        have hM : zHM tU D l 194 (3, 108) ρ γ es3 (.ref (ρ 56) :: []) _ := c_unit (D := D) (l := l) (ρ := ρ) (γ := γ) (es := es3) hC3 jj f3 tk
        refine zcallH (T := tU) (ρ := ρ) (γ := γ) (As := []) (rs := []) B1 V3.1 V3.2.1 V3.2.2.1 V3.2.2.2.1.1 hC3 (xpc_97_38 r hr) (link11 (r := zhR r (5, 150)) hlk ho) hr2 (i0 := 56) (fs := fs56) (by rw [o2]; exact h56) (by rw [na2]; rfl) (Nat.zero_le _) (rm := (3, 108)) ⟨by show 3 + 1 ≤ 5; decide, by rw [ml2]; show 8 + (7 + 11) + 108 ≤ 150; decide⟩ hM ?_
        intro v es4 H4 locs4 hP4 hD4 hS4 hC4 hR4
        obtain ⟨x4, rfl, hx4, hf4, ⟨wn4, j4, w4⟩, t4⟩ := hR4
        have at4 := (fvx hC4 (k := 6) (a := 0) (b := 1600) (by decide +kernel) rfl).2
        have pi4 := (fvx hC4 (k := 38) (a := 0) (b := 89) (by decide +kernel) rfl).2
        have hst : (some (Value.int x4)).toList ++ [] = [Sum.inl (zsym 1)].map (zv ρ (gE (zfd es4 56 4) (zfd es4 56 38) x4.toInt)) := by
          show [Value.int x4] = [Value.int (Int32.ofInt (1 * x4.toInt + 0))]
          rw [Int.one_mul, Int.add_zero, i32_of]
        rw [hst]
        refine head x4 (eM es2) (fun H9 locs9 ls9 es9 h9 => ih (eM es2) (hN f0) x4 H9 locs9 ls9 es9 hx4 h9) hx4 (zsym 1) 41 [.inl (zsym 1)] H4 locs4 ls3 es4 ⟨by show 1 * x4.toInt + 0 = _; omega, Or.inr rfl⟩ e_41 (fun z => ?_) hP4 hD4 hS4 hC4 (zfrm.trans (w1 := [3588, 3589, 3590, 3591, 3592, 3593, 3594, 3620, 3621, 3622, 3623, 3904, 4928, 4992, 5056, 5120, 4677]) hf3' hf4 (by decide)) hls3 (Or.inr ⟨z0, ⟨wn4, j4, w4⟩, t4.1, fun z => Or.inr ?_⟩)
        · have g := eM_go (es := es3) (es2 := es4) (by omega) (by omega) (by omega) at3 at4 (t4.2 z)
          omega
        · rcases pl with ⟨pl, -⟩ | pl
          · exact eP_first pl (t4.2 z)
          · exact eP_step pl (t4.2 z)
      · -- behindUnit()
        have k6 := Nat.eq_of_beq_eq_true k6
        subst k6
        have hx1 : x.toInt = 0 := by
          obtain ⟨w, w0, w1, w2, w3⟩ := hIn_ok hs3 k7
          cases w0
          have w1 : 1 * η3 1 + 0 ≤ 0 := w2
          omega
        have jw : wn = false := by rw [jw, hx1]; rfl
        subst jw
        obtain ⟨rr, hr2, o2, na2, ml2⟩ := shp_ok shp_79
        obtain ⟨lk1, lk2, lk3, hlk⟩ := lk_behind
        have hM : zHM tU D l 79 (4, 129) ρ γ es3 (.ref (ρ 56) :: []) _ := c_behind (D := D) (l := l) (ρ := ρ) (γ := γ) (es := es3) hC3 jj f3 tk (by rw [n38]; exact p0)
        refine zcallH (T := tU) (ρ := ρ) (γ := γ) (As := []) (rs := []) B1 V3.1 V3.2.1 V3.2.2.1 V3.2.2.2.1.1 hC3 (xpc_97_45 r hr) (link11 (r := zhR r (5, 150)) hlk ho) hr2 (i0 := 56) (fs := fs56) (by rw [o2]; exact h56) (by rw [na2]; rfl) (Nat.zero_le _) (rm := (4, 129)) ⟨by show 4 + 1 ≤ 5; decide, by rw [ml2]; show 8 + (2 + 11) + 129 ≤ 150; decide⟩ hM ?_
        intro v es4 H4 locs4 hP4 hD4 hS4 hC4 hR4
        obtain ⟨x4, rfl, hx4, hf4, ⟨wn4, j4, w4⟩, t4⟩ := hR4
        have at4 := (fvx hC4 (k := 6) (a := 0) (b := 1600) (by decide +kernel) rfl).2
        have pi4 := (fvx hC4 (k := 38) (a := 0) (b := 89) (by decide +kernel) rfl).2
        have hst : (some (Value.int x4)).toList ++ [] = [Sum.inl (zsym 1)].map (zv ρ (gE (zfd es4 56 4) (zfd es4 56 38) x4.toInt)) := by
          show [Value.int x4] = [Value.int (Int32.ofInt (1 * x4.toInt + 0))]
          rw [Int.one_mul, Int.add_zero, i32_of]
        rw [hst]
        refine head x4 (eM es2) (fun H9 locs9 ls9 es9 h9 => ih (eM es2) (hN f0) x4 H9 locs9 ls9 es9 hx4 h9) hx4 (zsym 1) 48 [.inl (zsym 1)] H4 locs4 ls3 es4 ⟨by show 1 * x4.toInt + 0 = _; omega, Or.inr rfl⟩ e_48 (fun z => ?_) hP4 hD4 hS4 hC4 (zfrm.trans (w1 := [3588, 3589, 3590, 3591, 3592, 3593, 3594, 3620, 3621, 3622, 3623, 3904, 4928, 4992, 5056, 5120, 4677]) hf3' hf4 (by decide)) hls3 (Or.inr ⟨z0, ⟨wn4, j4, w4⟩, t4.1, fun z => Or.inr ?_⟩)
        · rcases t4.2 z with t | ⟨t1, t2, t3, t5⟩
          · have g := eM_go (es := es3) (es2 := es4) (by omega) (by omega) (by omega) at3 at4 t
            omega
          · have g := eM_up (es := es3) (es2 := es4) (by omega) ⟨t1, t2, t3⟩ t5
            omega
        · rcases pl with ⟨-, pl⟩ | pl
          · omega
          · rcases t4.2 z with t | ⟨t1, t2, t3, t5⟩
            · exact eP_step pl t
            · exact eP_same pl ⟨t1, t2, t3⟩
    · intro pc v lo ca fa nf η5 H5 locs5 ls5 es5 V5 hfin hx5
      have hf5 : zfrm [4677] es2 es5 := V5.2.2.2.2.2.2.2.2
      have hs5 := V5.2.2.2.2.1
      have g63 : η5 63 = zfd es2 56 4 := V5.2.2.2.2.2.2.1 63 (by decide)
      have g64 : η5 64 = zfd es2 56 38 := V5.2.2.2.2.2.2.1 64 (by decide)
      unfold eF19 at hfin
      simp only [Bool.and_eq_true, Bool.or_eq_true] at hfin
      obtain ⟨q1, q2, q3⟩ := hfin
      have hv : v = none := by
        cases v with
        | none => rfl
        | some a => cases q2
      subst hv
      obtain ⟨m3, i3, n4, n38, n35⟩ := stay es5 hf5
      have hf5' : zfrm [3588, 3589, 3590, 3591, 3592, 3593, 3594, 3620, 3621, 3622, 3623, 3904, 4928, 4992, 5056, 5120, 4677] es es5 := zfrm.trans (w1 := [3588, 3589, 3590, 3591, 3592, 3593, 3594, 3620, 3621, 3622, 3623, 3904, 4928, 4992, 5056, 5120, 4677]) hf2 hf5 (by decide)
      have hend : zfd es5 56 4 = 0 → zfd es5 56 38 = 0 := by
        intro z
        rcases q3 with q3 | ⟨q3, q4⟩
        · obtain ⟨w, w0, w1, w2, w3⟩ := hIn_ok hs5 q3
          cases w0
          have w1 : 1 ≤ 1 * η5 63 + 0 := w1
          omega
        · obtain ⟨w, w0, w1, w2, w3⟩ := hIn_ok hs5 q4
          cases w0
          have w1 : 0 ≤ 1 * η5 64 + 0 := w1
          have w2 : 1 * η5 64 + 0 ≤ 0 := w2
          omega
      refine hret _ pc none η5 H5 locs5 ls5 hx5 V5.2.2.1 (fun t ht hK hF => ⟨⟨_, es5, rfl, by rw [ht]; exact V5.1, hK, V5.2.1, zCo.flush hs5 V5.2.2.2.2.2.2.2.1 q1 _, rfl, hf5', ?_, ?_⟩, hF⟩)
      · rcases i3 with ⟨-, i3, i4, i5⟩ | ⟨z0, ⟨wn, ⟨b', p', nb, B, D', u, k, j1, j2, j3, j4, j5, j6, j7, j8, j9, j10, j11, j12, j13⟩, jw⟩, tk, pl⟩
        · exact ⟨k0, 0, i4, Nat.le_refl _, by rw [i5]; exact kRn_0, fun h => absurd h (Nat.lt_irrefl _), fun z => absurd z i3⟩
        · have hbb : zfd es5 56 35 = b := by rw [zfd_kept hf5' (by decide) (by decide)]; exact f35
          have hbb : b' = b := by omega
          subst hbb
          have hkb : k ≤ 560 * b' + 560 := by
            cases wn with
            | true => obtain ⟨y1, y2, y3⟩ := j12 rfl; omega
            | false => obtain ⟨y1, y2⟩ := j13 rfl; omega
          refine ⟨k, D', j6, j10, j11, fun _ => ⟨z0, hkb⟩, fun z => ⟨u, j7, j8, ?_⟩⟩
          have := hend z
          cases wn with
          | true => obtain ⟨y1, y2, y3⟩ := j12 rfl; omega
          | false => obtain ⟨y1, y2⟩ := j13 rfl; omega
      · intro z
        rcases i3 with ⟨-, i3, i4⟩ | ⟨z0, ⟨wn, ⟨b', p', nb, B, D', u, k, j1, j2, j3, j4, j5, j6, j7, j8, j9, j10, j11, j12, j13⟩, jw⟩, tk, pl⟩
        · exact absurd z i3
        · refine ⟨z0, ?_, tk.2⟩
          rcases pl z with ⟨-, pl⟩ | pl
          · have jw := jw z
            rw [pl] at jw
            have jw : wn = true := jw
            have := hend z
            obtain ⟨y1, y2, y3⟩ := j12 jw
            omega
          · exact pl
  -- the start
  obtain ⟨-, b1, b2⟩ := fvx hco (k := 4) (a := 0) (b := 4) (by decide +kernel) rfl
  obtain ⟨-, c1, c2⟩ := fvx hco (k := 38) (a := 0) (b := 89) (by decide +kernel) rfl
  have hc := e_0
  unfold eRun at hc
  rw [hrw] at hc
  refine zseg (ρ := ρ) (γ := γ) (η := gE (zfd es 56 4) (zfd es 56 38) 0) (sk := []) B1 (hsU es) hc hP hD va_S.rf hl (gE_sat b1 b2 c1 c2 (by decide) (by decide)) (gE_co hco _) ?_ (fun _ _ _ _ _ _ _ _ _ _ _ _ h => by cases h)
  intro pc lo sk ca fa nf η3 H3 locs3 ls3 es3 hpc hhk V3
  have hpc := xmN1 hpc
  subst hpc
  have hf3 : zfrm [3621, 3622, 4677] es es3 := V3.2.2.2.2.2.2.2.2
  have hh3 := V3.2.2.2.2.2.2.2.1.2.2.2.2
  have hs3 := V3.2.2.2.2.1
  unfold eH0 at hhk
  simp only [Bool.and_eq_true] at hhk
  obtain ⟨k1, k2, k3, k4, k5⟩ := hhk
  split at k5
  rotate_left
  · cases k5
  rename_i xx yy i
  simp only [Bool.and_eq_true] at k5
  obtain ⟨k5, k6, k7⟩ := k5
  have k5 := Nat.eq_of_beq_eq_true k5
  subst k5
  have hC3 := zCo.flush hs3 V3.2.2.2.2.2.2.2.1 k1 (fun _ => 0)
  have f38 := hI_fd hh3 k3 (n := 0) rfl (by decide) (by decide)
  have f37 := hI_fd hh3 k4 (n := 0) rfl (by decide) (by decide)
  have hxx : zi η3 xx = Int32.ofInt 0 := by unfold zi; rw [zeB_ok k6]; rfl
  have hyy : zi η3 yy = Int32.ofInt 8 := by unfold zi; rw [zeB_ok k7]; rfl
  have l0 := hRf_ok k2
  obtain ⟨r2, hr2, o2, na2, ml2⟩ := shp_ok (mi := 167) (na := 2) (ml := 3) (by decide +kernel)
  obtain ⟨l1, l2, l3, hlk⟩ := lk_pushE
  have hv : zfv es3 56 38 = some (.int (Int32.ofInt (0 : Nat))) := (fvx hC3 (k := 38) (a := 0) (b := 89) (by decide +kernel) f38).1
  have hM : zHM tU D l 167 (1, 64) ρ γ es3 (.ref (ρ 56) :: [.int (zi η3 yy), .int (zi η3 xx)]) _ := c_pushE (D := D) (l := l) (ρ := ρ) (γ := γ) (es := es3) hC3 (k := 0) hv (by decide) (zi η3 yy) (zi η3 xx)
  refine zcallH (T := tU) (ρ := ρ) (γ := γ) (As := [.int (zi η3 yy), .int (zi η3 xx)]) (rs := []) B1 V3.1 V3.2.1 V3.2.2.1 V3.2.2.2.1.1 hC3 (xpc_97_14 r hr) (link11 (r := zhR r (5, 150)) hlk ho) hr2 (i0 := 56) (fs := fs56) (by rw [o2]; exact h56) (by rw [na2]; rfl) (Nat.zero_le _) (rm := (1, 64)) ⟨by show 1 + 1 ≤ 5; decide, by rw [ml2]; show 8 + (3 + 11) + 64 ≤ 150; decide⟩ hM ?_
  intro v es4 H4 locs4 hP4 hD4 hS4 hC4 hR4
  obtain ⟨rfl, hf4, w79, w80, w38⟩ := hR4
  have hls3 : lv_has ls3 r.2.2.1 [(0, .ref (ρ 56))] := by
    refine lvh V3.2.2.2.1 (tm := [(0, .inr (.inl (some 56)))]) (η := fun _ => 0) (fun q hq => ?_)
    rcases List.mem_singleton.mp hq with rfl
    exact ⟨_, l0, rfl⟩
  have hf4' : zfrm [3588, 3589, 3590, 3591, 3592, 3593, 3594, 3620, 3621, 3622, 3623, 3904, 4928, 4992, 5056, 5120, 4677] es es4 := zfrm.trans (w1 := [3588, 3589, 3590, 3591, 3592, 3593, 3594, 3620, 3621, 3622, 3623, 3904, 4928, 4992, 5056, 5120, 4677]) (zfrm_wid hf3 (by decide)) hf4 (by decide)
  have c4 : ∀ i : Nat, i < 64 → xmN [3621, 3622, 4677] (64 * 56 + i) = false → xmN [5056, 5120, 3622, 4677] (64 * 56 + i) = false → zfd es4 56 i = zfd es 56 i := fun i q1 q2 q3 => by rw [zfd_kept hf4 q1 q3, zfd_kept hf3 q1 q2]
  have m4 := c4 4 (by decide) (by decide) (by decide)
  have m6 := c4 6 (by decide) (by decide) (by decide)
  have m7 := c4 7 (by decide) (by decide) (by decide)
  have m8 := c4 8 (by decide) (by decide) (by decide)
  have m35 := c4 35 (by decide) (by decide) (by decide)
  have m36 := c4 36 (by decide) (by decide) (by decide)
  have m37 : zfd es4 56 37 = 0 := by rw [zfd_kept hf4 (by decide) (by decide)]; exact f37
  have m77 : zar es4 77 = zar es 77 := by rw [zar_kept hf4 (by decide), zar_kept hf3 (by decide)]
  refine head (Int32.ofInt 1) (eM es4 + 1) (fun H9 locs9 ls9 es9 h9 => key _ (Int32.ofInt 1) H9 locs9 ls9 es9 (Or.inr (by decide)) h9) (Or.inr (by decide)) (.inl 1) 17 [] H4 locs4 ls3 es4 ⟨by show (1 : Int) = (Int32.ofInt 1).toInt; decide, Or.inl rfl⟩ e_17 (fun _ => Nat.lt_succ_self _) hP4 hD4 hS4 hC4 hf4' hls3 ?_
  by_cases z : zfd es 56 4 = 0
  · obtain ⟨u, u1, u2, u3⟩ := hgo z
    refine Or.inr ⟨z, ⟨true, ⟨b, 1, 0, 0, 0, u, k0, by rw [m35]; exact f35, hb, by rw [w38]; rfl, m37, by decide, by rw [m36]; exact f36, by rw [zar_kept hf4 (by decide), zar_kept hf3 (by decide)]; exact u1, u2, ?_, Nat.le_refl _, by rw [m77]; exact kRn_0, fun _ => ⟨Nat.le_refl _, rfl, by omega⟩, fun h => by cases h⟩, fun _ => by decide⟩, by rw [m8]; exact htok, fun _ => Or.inl ⟨⟨m8, m6, m7⟩, by decide⟩⟩
    rw [w79, w80, hyy]
    rfl
  · exact Or.inl ⟨z, by rw [m4]; exact z, by rw [m36]; exact f36, m77⟩
