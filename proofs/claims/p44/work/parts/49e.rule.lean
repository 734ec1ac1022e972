/-! readRule(): by hand around its runs. -/
def ruCa : zCa := [((56, .inl 35), .inl (zsym 67)), ((56, .inl 36), .inl (zsym 66))]
def ruFs : List (Nat × zG) := [(67, (0, 1, [])), (66, (0, 1119, []))]
def ruRun (hk : zCk) (fin : zK) (pcs wr : List Nat) (pc : Nat) : Bool := match ((gt xmt 172).bind xrow).map (fun r => zhR r (10, 400)) with
  | some r => zgo1 zD0 (hk, [], 0, wr) 20000 (r, pcs) pc [(0, .inr (.inl (some 56)))] [] ruCa (ruFs, [], []) fin
  | none => false
def ruS (a : Nat) (sk : List zV) : Bool := match sk with
  | [.inl x, .inl y, .inr (.inl (some i))] => Nat.beq i a && (zeB x (zsym 66) && zeB y (zsym 67))
  | _ => false
theorem ruS_ok {a : Nat} {sk : List zV} (h : ruS a sk = true) : ∃ x y : zI, sk = [.inl x, .inl y, .inr (.inl (some a))] ∧ zeB x (zsym 66) = true ∧ zeB y (zsym 67) = true := by
  unfold ruS at h
  split at h
  · rename_i x y i
    simp only [Bool.and_eq_true] at h
    obtain ⟨h1, h2, h3⟩ := h
    have h1 := Nat.eq_of_beq_eq_true h1
    subst h1
    exact ⟨x, y, rfl, h2, h3⟩
  · cases h
def ruH (a : Nat) : zCk := fun _ lo sk ca fa _ => zfl zD0 fa ca && (hRf (zll lo 0) 56 && ruS a sk)
theorem ru_0 : ruRun (ruH 73) beNo [30] [3623, 4160, 4677] 0 = true := by decide +kernel
def ruH31 : zCk := fun _ lo sk ca fa _ => zfl zD0 fa ca && (hRf (zll lo 0) 56 && eHs sk)
theorem ru_31 : ruRun ruH31 beNo [32] [4677] 31 = true := by decide +kernel
theorem ru_35 : ruRun (ruH 74) beNo [47] [4677] 35 = true := by decide +kernel
def ruF : zK := fun fa _ v ca => zfl zD0 fa ca && (match v with
  | none => true
  | some _ => false)
theorem ru_48 : ruRun (fun _ _ _ _ _ _ => false) ruF [] [4677] 48 = true := by decide +kernel
def rE (b k : Int) : zE := fun i => if i = 67 then b else if i = 66 then k else 0
theorem rE_sat {b k : Int} (b1 : 0 ≤ b) (b2 : b ≤ 1) (k1 : 0 ≤ k) (k2 : k ≤ 1119) : zsat (rE b k) (ruFs, [], []) := by
  refine ⟨fun i => ?_, fun q hq => ?_, fun q hq => (by cases hq), fun q hq => (by cases hq)⟩
  · unfold rE
    split
    · exact zbd_of (by omega) (by omega)
    split
    · exact zbd_of (by omega) (by omega)
    exact ⟨by decide, by decide⟩
  rcases List.mem_cons.mp hq with h | h
  · rw [h]; exact ⟨b1, b2, fun _ z => by cases z⟩
  rcases List.mem_singleton.mp h with rfl
  exact ⟨k1, k2, fun _ z => by cases z⟩
theorem rE_co {ρ : Nat → Nat} {γ : Nat → ClassId} {es : va_W} (hco : zCo zD0 ρ γ (fun _ => 0) [] es) : zCo zD0 ρ γ (rE (zfd es 56 35) (zfd es 56 36)) ruCa es := by
  obtain ⟨v35, -, -⟩ := fvx hco (k := 35) (a := 0) (b := 1) (by decide +kernel) rfl
  obtain ⟨v36, -, -⟩ := fvx hco (k := 36) (a := 0) (b := 1119) (by decide +kernel) rfl
  have h0 : zCo zD0 ρ γ (rE (zfd es 56 35) (zfd es 56 36)) [] es := zCo.env hco
  have nf : ∀ (k2 : Nat) (ix : zI), (Sum.inl k2 : zKy) = .inr ix → 0 ≤ zd (rE (zfd es 56 35) (zfd es 56 36)) ix := fun _ _ z => by cases z
  exact zCo.add (zCo.add h0 ⟨fvi v36 rfl, nf _⟩) ⟨fvi v35 rfl, nf _⟩
theorem zfrm_drop {w : List Nat} {es es2 : va_W} (h : zfrm (4677 :: w) es es2) (h1 : zct es 73 5 = none) (h2 : zct es2 73 5 = none) (hp : pN es → pN es2) : zfrm w es es2 := by
  refine ⟨fun i k hk hw => ?_, fun _ => hp⟩
  by_cases e : 64 * i + k = 4677
  · have e1 : i = 73 := by omega
    have e2 : k = 5 := by omega
    subst e1 e2
    rw [h1, h2]
  · refine h.1 i k hk ?_
    unfold xmN
    cases e9 : Nat.beq 4677 (64 * i + k) with
    | true => exact absurd (Nat.eq_of_beq_eq_true e9).symm e
    | false => exact hw
theorem zct73 {T : zTb} {ρ : Nat → Nat} {γ : Nat → ClassId} {η : zE} {es : va_W} (C : zCo zD0 ρ γ η [] es) : zct es 73 5 = none := by
  obtain ⟨f0, g0, -⟩ := C.1 73 .int 2 [(0, 1119)] rfl (by decide)
  unfold zct
  rw [g0]
  rfl
/-- a bank's rule, where the other bank's was written -/
theorem kSeg_old {es es2 : va_W} {b j k0 k d : Nat} {x y : Int32} (hj : j ≤ 1) (hb : b ≤ 1) (hne : j ≠ b) (h : kSeg es j) (h73 : zar es2 73 = upd (zar es 73) b x) (h74 : zar es2 74 = upd (zar es 74) b y) (hk : k0 ≤ k) (h77 : kRn (zar es 77) (zar es2 77) (k - k0) k0 0 = some d) (hr : k0 < k → 560 * b ≤ k0 ∧ k ≤ 560 * b + 560) : kSeg es2 j := by
  have e3 : zar es2 73 j = zar es 73 j := by rw [h73]; unfold upd; rw [if_neg hne]
  have e4 : zar es2 74 j = zar es 74 j := by rw [h74]; unfold upd; rw [if_neg hne]
  obtain ⟨-, h2⟩ := kRn_ok h77
  unfold kSeg at h ⊢
  rw [e3, e4]
  obtain ⟨s1, s2, s3, ⟨d0, s4⟩, s5⟩ := h
  refine ⟨s1, s2, s3, ⟨d0, ?_⟩, s5⟩
  rw [kRun_ext (f := zar es 77) _ _ _ (fun i i1 i2 => ?_)]
  · exact s4
  · refine h2 i ?_
    by_cases z : k0 < k
    · obtain ⟨r1, r2⟩ := hr z
      obtain ⟨q1, q2⟩ := s5 (by omega)
      omega
    · omega
theorem kSeg_new {es es2 : va_W} {b k0 k d : Nat} (h73 : zar es2 73 = upd (zar es 73) b (Int32.ofInt k0)) (h74 : zar es2 74 = upd (zar es 74) b (Int32.ofInt k)) (hk : k0 ≤ k) (hk2 : k ≤ 1119) (h77 : kRn (zar es 77) (zar es2 77) (k - k0) k0 0 = some d) (hr : k0 < k → 560 * b ≤ k0 ∧ k ≤ 560 * b + 560) : kSeg es2 b := by
  have e3 : (zar es2 73 b).toInt = k0 := by rw [h73]; unfold upd; rw [if_pos rfl]; exact i32_big (by omega) (by omega)
  have e4 : (zar es2 74 b).toInt = k := by rw [h74]; unfold upd; rw [if_pos rfl]; exact i32_big (by omega) (by omega)
  obtain ⟨h1, -⟩ := kRn_ok h77
  unfold kSeg
  rw [e3, e4]
  refine ⟨by omega, by omega, by omega, ⟨d, ?_⟩, fun z => ?_⟩
  · have e5 : ((k : Int) - (k0 : Int)).toNat = k - k0 := by omega
    rw [e5, Int.toNat_natCast]
    exact h1
  · have := hr (by omega)
    omega
theorem fvn {es : va_W} {ρ : Nat → Nat} {γ : Nat → ClassId} (hco : zCo zD0 ρ γ (fun _ => 0) [] es) {k : Nat} {a b : Int} (h : zrgF zdec 56 k = some (a, b)) : ∃ x : Int32, zfv es 56 k = some (.int x) ∧ zfd es 56 k = x.toInt := by
  obtain ⟨x, h1, -, -⟩ := zrgF_val hco h rfl
  exact ⟨x, h1, zfd_of h1⟩
theorem xpc_172_30 : ∀ r : xR, (gt xmt 172).bind xrow = some r → xfi r.2.2.2.2.2.2.2 30 = some (.iastore, 1) := xpcE (by decide +kernel)
theorem xpc_172_32 : ∀ r : xR, (gt xmt 172).bind xrow = some r → xfi r.2.2.2.2.2.2.2 32 = some (.invokevirtual 290, 3) := xpcE (by decide +kernel)
theorem xpc_172_47 : ∀ r : xR, (gt xmt 172).bind xrow = some r → xfi r.2.2.2.2.2.2.2 47 = some (.iastore, 1) := xpcE (by decide +kernel)
theorem lk_e : ∃ g1 g2 g3, xfi (xml 11) 290 = some (0, 97, g1, g2, g3) := ⟨_, _, _, rfl⟩
theorem shp_97 : shp 97 0 2 = true := by decide +kernel
set_option maxHeartbeats 16000000 in
theorem so_rule {D : va_G} {l : Launch} : zSO zD0 D l pN sm_rule := by
  intro es hpN r hr ρ γ vs sz g hgb hco hao hpre hen her
  have hvs : vs = [.ref (ρ 56)] := by
    match vs, hao with
    | [v], h => exact congrArg (fun x => [x]) h.1
  subst hvs
  have ho : r.2.2.2.2.1 = 11 := own_ok (mi := 172) (by decide +kernel) hr
  have hr : (gt xmt 172).bind xrow = some r := hr
  refine zent (ρ := ρ) hr (by
    show 1 ≤ r.2.2.1
    exact zfl1_cat (sm := sm_rule) (by decide +kernel) r hr) ?_
  intro p e s m below meth c ls hsz B1 hP hD hl hret
  have hrw : ((gt xmt 172).bind xrow).map (fun r => zhR r (10, 400)) = some (zhR r (10, 400)) := by rw [hr]; rfl
  obtain ⟨fs56, h56⟩ := z56
  obtain ⟨-, b1, b2⟩ := fvx hco (k := 35) (a := 0) (b := 1) (by decide +kernel) rfl
  obtain ⟨-, c1, c2⟩ := fvx hco (k := 36) (a := 0) (b := 1119) (by decide +kernel) rfl
  obtain ⟨b, hb⟩ : ∃ b : Nat, zfd es 56 35 = b := ⟨(zfd es 56 35).toNat, by omega⟩
  obtain ⟨k0, hk0⟩ : ∃ k0 : Nat, zfd es 56 36 = k0 := ⟨(zfd es 56 36).toNat, by omega⟩
  have g41 : g 41 = zfd es 56 7 := by
    obtain ⟨x, x1, x2⟩ := hen (41, 56, .inl 7) (List.mem_cons_of_mem _ List.mem_cons_self)
    rw [x2, zfd_of x1]
  have g44 : g 44 = zfd es 56 8 := by
    obtain ⟨x, x1, x2⟩ := hen (44, 56, .inl 8) (List.mem_cons_of_mem _ (List.mem_cons_of_mem _ List.mem_cons_self))
    rw [x2, zfd_of x1]
  have htok : 0 ≤ zfd es 56 8 ∧ zfd es 56 8 ≤ 5 := by
    have := her (44, 0, 5) (by decide)
    rw [← g44]
    exact this
  have hl0 : ∀ (lo : zL) (η : zE) (ls3 : Array Slot), lv_has ls3 r.2.2.1 (zdL ρ η lo) → hRf (zll lo 0) 56 = true → lv_has ls3 r.2.2.1 [(0, .ref (ρ 56))] := by
    intro lo η ls3 h1 h2
    refine lvh h1 (tm := [(0, .inr (.inl (some 56)))]) (η := fun _ => 0) (fun q hq => ?_)
    rcases List.mem_singleton.mp hq with rfl
    exact ⟨_, hRf_ok h2, rfl⟩
  -- from the start to ruleFrom's store
  have hc := ru_0
  unfold ruRun at hc
  rw [hrw] at hc
  refine zseg (ρ := ρ) (γ := γ) (η := rE (zfd es 56 35) (zfd es 56 36)) (sk := []) B1 (noHS0 es) hc hP hD va_S.rf hl (rE_sat b1 b2 c1 c2) (rE_co hco) ?_ (fun _ _ _ _ _ _ _ _ _ _ _ _ h => by cases h)
  intro pc lo sk ca fa nf η3 H3 locs3 ls3 es3 hpc hhk V3
  have hpc := xmN1 hpc
  subst hpc
  have hf3 : zfrm [3623, 4160, 4677] es es3 := V3.2.2.2.2.2.2.2.2
  unfold ruH at hhk
  simp only [Bool.and_eq_true] at hhk
  obtain ⟨k1, k2, k3⟩ := hhk
  obtain ⟨x, y, rfl, k4, k5⟩ := ruS_ok k3
  have hC3 := zCo.flush V3.2.2.2.2.1 V3.2.2.2.2.2.2.2.1 k1 (fun _ => 0)
  have hxx : zi η3 x = Int32.ofInt k0 := by
    unfold zi; rw [zeB_ok k4]; show Int32.ofInt (1 * η3 66 + 0) = _
    rw [V3.2.2.2.2.2.2.1 66 (by decide)]; show Int32.ofInt (1 * (zfd es 56 36) + 0) = _; rw [hk0, Int.one_mul, Int.add_zero]
  have hyy : zi η3 y = Int32.ofInt b := by
    unfold zi; rw [zeB_ok k5]; show Int32.ofInt (1 * η3 67 + 0) = _
    rw [V3.2.2.2.2.2.2.1 67 (by decide)]; show Int32.ofInt (1 * (zfd es 56 35) + 0) = _; rw [hb, Int.one_mul, Int.add_zero]
  have hkI : (Int32.ofInt (k0 : Int)).toInt = k0 := i32_big (by omega) (by omega)
  have hbI : (Int32.ofInt (b : Int)).toInt = b := i32_big (by omega) (by omega)
  show W p l e (zrmS (10, 400)) s m _ below meth c H3 locs3 0 0 _ (F0 m 30 ls3 (.int (zi η3 x) :: .int (zi η3 y) :: .ref (ρ 73) :: []))
  rw [hxx, hyy]
  obtain ⟨f0, g0, -⟩ := hC3.1 73 .int 2 [(0, 1119)] rfl (by decide)
  refine zstoreH (ρ := ρ) (γ := γ) (i := 73) (n := 2) (q := (0, 1119)) B1 V3.1 V3.2.1 V3.2.2.1 hC3 (xpc_172_30 r hr) rfl (by rw [hbI]; omega) (by rw [hbI]; omega) (by unfold inR; rw [hkI]; constructor <;> omega) ?_
  intro es4 H4 locs4 he4 hP4 hD4 hS4 hC4 hz4 ho4
  rw [hbI, Int.toNat_natCast] at hz4
  have hf4 : zfrm [3623, 4160, 4672, 4677] es es4 := zfrm.trans (w1 := [3623, 4160, 4672, 4677]) (w2 := [4672, 4677]) (zfrm_wid hf3 (by decide)) (zfrm_store (ρ := ρ) (γ := γ) g0 rfl he4 (by decide) (by decide)) (by decide)
  have hls3 := hl0 lo η3 ls3 V3.2.2.2.1 k2
  obtain ⟨-, d1, d2⟩ := fvx hC4 (k := 35) (a := 0) (b := 1) (by decide +kernel) rfl
  obtain ⟨-, e1, e2⟩ := fvx hC4 (k := 36) (a := 0) (b := 1119) (by decide +kernel) rfl
  -- to e()
  have hc := ru_31
  unfold ruRun at hc
  rw [hrw] at hc
  refine zseg (ρ := ρ) (γ := γ) (η := rE (zfd es4 56 35) (zfd es4 56 36)) (sk := []) B1 (noHS0 es4) hc hP4 hD4 hS4 hls3 (rE_sat d1 d2 e1 e2) (rE_co hC4) ?_ (fun _ _ _ _ _ _ _ _ _ _ _ _ h => by cases h)
  intro pc lo sk ca fa nf η5 H5 locs5 ls5 es5 hpc hhk V5
  have hpc := xmN1 hpc
  subst hpc
  have hf5 : zfrm [4677] es4 es5 := V5.2.2.2.2.2.2.2.2
  unfold ruH31 at hhk
  simp only [Bool.and_eq_true] at hhk
  obtain ⟨n1, n2, n3⟩ := hhk
  have n3 := eHs_ok n3
  subst n3
  have hC5 := zCo.flush V5.2.2.2.2.1 V5.2.2.2.2.2.2.2.1 n1 (fun _ => 0)
  have hf5' : zfrm [3623, 4160, 4672, 4677] es es5 := zfrm.trans (w1 := [3623, 4160, 4672, 4677]) hf4 hf5 (by decide)
  have s4 : zfd es5 56 4 = zfd es 56 4 := zfd_kept hf5' (by decide) (by decide)
  have s6 : zfd es5 56 6 = zfd es 56 6 := zfd_kept hf5' (by decide) (by decide)
  have s7 : zfd es5 56 7 = zfd es 56 7 := zfd_kept hf5' (by decide) (by decide)
  have s8 : zfd es5 56 8 = zfd es 56 8 := zfd_kept hf5' (by decide) (by decide)
  have s35 : zfd es5 56 35 = b := by rw [zfd_kept hf5' (by decide) (by decide)]; exact hb
  have s36 : zfd es5 56 36 = k0 := by rw [zfd_kept hf5' (by decide) (by decide)]; exact hk0
  have s61 : zar es5 61 = zar es 61 := zar_kept hf5' (by decide)
  have s74 : zar es5 74 = zar es 74 := zar_kept hf5' (by decide)
  have s77 : zar es5 77 = zar es 77 := zar_kept hf5' (by decide)
  have s73 : zar es5 73 = upd (zar es 73) b (Int32.ofInt k0) := by rw [zar_kept hf5 (by decide), hz4, zar_kept hf3 (by decide)]
  have hpl : zfd es 56 4 = 0 → 560 * b ≤ k0 ∧ ∃ u : Nat, (zar es 61 b).toInt = u ∧ u ≤ 60 ∧ k0 ≤ 560 * b + 9 * u := by
    intro z
    have h := hpN.2 z
    rw [hb, hk0, Int.toNat_natCast] at h
    obtain ⟨h1, h2, h3, h4⟩ := h
    exact ⟨by omega, (zar es 61 b).toInt.toNat, by omega, by omega, by omega⟩
  obtain ⟨rr, hr2, o2, na2, ml2⟩ := shp_ok shp_97
  obtain ⟨lk1, lk2, lk3, hlk⟩ := lk_e
  have hM : zHM zD0 D l 97 (5, 150) ρ γ es5 (.ref (ρ 56) :: []) _ := c_e (D := D) (l := l) (ρ := ρ) (γ := γ) (es := es5) hC5 (b := b) (k0 := k0) s35 (by omega) s36 (by rw [s8]; exact htok) (fun z => by rw [s61]; exact (hpl (by rw [← s4]; exact z)).2)
  refine zcallH (T := zD0) (ρ := ρ) (γ := γ) (As := []) (rs := []) B1 V5.1 V5.2.1 V5.2.2.1 V5.2.2.2.1.1 hC5 (xpc_172_32 r hr) (link11 (r := zhR r (10, 400)) hlk ho) hr2 (i0 := 56) (fs := fs56) (by rw [o2]; exact h56) (by rw [na2]; rfl) (Nat.zero_le _) (rm := (5, 150)) ⟨by show 5 + 1 ≤ 10; decide, by rw [ml2]; show 8 + (2 + 11) + 150 ≤ 400; decide⟩ hM ?_
  intro v es6 H6 locs6 hP6 hD6 hS6 hC6 hR6
  obtain ⟨rfl, hf6, ⟨k, d, q36, q1, q2, q3, q4⟩, q5⟩ := hR6
  have hls5 := hl0 lo η5 ls5 V5.2.2.2.1 n2
  obtain ⟨-, w1, w2⟩ := fvx hC6 (k := 36) (a := 0) (b := 1119) (by decide +kernel) q36
  have q35 : zfd es6 56 35 = b := by rw [zfd_kept hf6 (by decide) (by decide)]; exact s35
  -- to ruleTo's store
  have hc := ru_35
  unfold ruRun at hc
  rw [hrw] at hc
  refine zseg (ρ := ρ) (γ := γ) (η := rE (zfd es6 56 35) (zfd es6 56 36)) (sk := []) B1 (noHS0 es6) hc hP6 hD6 hS6 hls5 (rE_sat (by omega) (by omega) (by omega) (by omega)) (rE_co hC6) ?_ (fun _ _ _ _ _ _ _ _ _ _ _ _ h => by cases h)
  intro pc lo sk ca fa nf η7 H7 locs7 ls7 es7 hpc hhk V7
  have hpc := xmN1 hpc
  subst hpc
  have hf7 : zfrm [4677] es6 es7 := V7.2.2.2.2.2.2.2.2
  unfold ruH at hhk
  simp only [Bool.and_eq_true] at hhk
  obtain ⟨k1, k2, k3⟩ := hhk
  obtain ⟨x, y, rfl, k4, k5⟩ := ruS_ok k3
  have hC7 := zCo.flush V7.2.2.2.2.1 V7.2.2.2.2.2.2.2.1 k1 (fun _ => 0)
  have hxx : zi η7 x = Int32.ofInt k := by
    unfold zi; rw [zeB_ok k4]; show Int32.ofInt (1 * η7 66 + 0) = _
    rw [V7.2.2.2.2.2.2.1 66 (by decide)]; show Int32.ofInt (1 * (zfd es6 56 36) + 0) = _; rw [q36, Int.one_mul, Int.add_zero]
  have hyy : zi η7 y = Int32.ofInt b := by
    unfold zi; rw [zeB_ok k5]; show Int32.ofInt (1 * η7 67 + 0) = _
    rw [V7.2.2.2.2.2.2.1 67 (by decide)]; show Int32.ofInt (1 * (zfd es6 56 35) + 0) = _; rw [q35, Int.one_mul, Int.add_zero]
  have hkJ : (Int32.ofInt (k : Int)).toInt = k := i32_big (by omega) (by omega)
  show W p l e (zrmS (10, 400)) s m _ below meth c H7 locs7 0 0 _ (F0 m 47 ls7 (.int (zi η7 x) :: .int (zi η7 y) :: .ref (ρ 74) :: []))
  rw [hxx, hyy]
  obtain ⟨f1, g1, -⟩ := hC7.1 74 .int 2 [(0, 1119)] rfl (by decide)
  refine zstoreH (ρ := ρ) (γ := γ) (i := 74) (n := 2) (q := (0, 1119)) B1 V7.1 V7.2.1 V7.2.2.1 hC7 (xpc_172_47 r hr) rfl (by rw [hbI]; omega) (by rw [hbI]; omega) (by unfold inR; rw [hkJ]; constructor <;> omega) ?_
  intro es8 H8 locs8 he8 hP8 hD8 hS8 hC8 hz8 ho8
  rw [hbI, Int.toNat_natCast] at hz8
  have hf8 : zfrm [4736, 4677] es6 es8 := zfrm.trans (w1 := [4736, 4677]) (w2 := [4736, 4677]) (zfrm_wid hf7 (by decide)) (zfrm_store (ρ := ρ) (γ := γ) g1 rfl he8 (by decide) (by decide)) (by decide)
  have hls7 := hl0 lo η7 ls7 V7.2.2.2.1 k2
  obtain ⟨-, d1, d2⟩ := fvx hC8 (k := 35) (a := 0) (b := 1) (by decide +kernel) rfl
  obtain ⟨-, e1, e2⟩ := fvx hC8 (k := 36) (a := 0) (b := 1119) (by decide +kernel) rfl
  -- the end
  have hc := ru_48
  unfold ruRun at hc
  rw [hrw] at hc
  refine zseg (ρ := ρ) (γ := γ) (η := rE (zfd es8 56 35) (zfd es8 56 36)) (sk := []) B1 (noHS0 es8) hc hP8 hD8 hS8 hls7 (rE_sat d1 d2 e1 e2) (rE_co hC8) (fun _ _ _ _ _ _ _ _ _ _ _ h => by cases h) ?_
  intro pc v lo ca fa nf η9 H9 locs9 ls9 es9 V9 hfin hx9
  have hf9 : zfrm [4677] es8 es9 := V9.2.2.2.2.2.2.2.2
  unfold ruF at hfin
  simp only [Bool.and_eq_true] at hfin
  obtain ⟨z1, z2⟩ := hfin
  have hv : v = none := by
    cases v with
    | none => rfl
    | some a => cases z2
  subst hv
  have hC9 := zCo.flush V9.2.2.2.2.1 V9.2.2.2.2.2.2.2.1 z1 (fun _ => 0)
  have hf9' : zfrm [4736, 4677] es6 es9 := zfrm.trans (w1 := [4736, 4677]) hf8 hf9 (by decide)
  have t4 : zfd es9 56 4 = zfd es6 56 4 := zfd_kept hf9' (by decide) (by decide)
  have t6 : zfd es9 56 6 = zfd es6 56 6 := zfd_kept hf9' (by decide) (by decide)
  have t7 : zfd es9 56 7 = zfd es6 56 7 := zfd_kept hf9' (by decide) (by decide)
  have t8 : zfd es9 56 8 = zfd es6 56 8 := zfd_kept hf9' (by decide) (by decide)
  have t35 : zfd es9 56 35 = b := by rw [zfd_kept hf9' (by decide) (by decide)]; exact q35
  have t36 : zfd es9 56 36 = k := by rw [zfd_kept hf9' (by decide) (by decide)]; exact q36
  have t61 : zar es9 61 = zar es6 61 := zar_kept hf9' (by decide)
  have t77 : zar es9 77 = zar es6 77 := zar_kept hf9' (by decide)
  have t73 : zar es9 73 = upd (zar es 73) b (Int32.ofInt k0) := by rw [zar_kept hf9' (by decide), zar_kept hf6 (by decide)]; exact s73
  have t74 : zar es9 74 = upd (zar es 74) b (Int32.ofInt k) := by rw [zar_kept hf9 (by decide), hz8, zar_kept hf7 (by decide), zar_kept hf6 (by decide), s74]
  have hrun : kRn (zar es 77) (zar es9 77) (k - k0) k0 0 = some d := by rw [t77, ← s77]; exact q2
  have hrg : k0 < k → 560 * b ≤ k0 ∧ k ≤ 560 * b + 560 := fun z => by
    obtain ⟨y1, y2⟩ := q3 z
    exact ⟨(hpl (by rw [← s4]; exact y1)).1, y2⟩
  have hpN9 : pN es9 := by
    refine ⟨?_, ?_⟩
    · rcases (show b = 0 ∨ b = 1 by omega) with z | z
      · subst z
        exact ⟨kSeg_new t73 t74 q1 (by omega) hrun hrg, kSeg_old (by decide) (by decide) (by decide) hpN.1.2 t73 t74 q1 hrun hrg⟩
      · subst z
        exact ⟨kSeg_old (by decide) (by decide) (by decide) hpN.1.1 t73 t74 q1 hrun hrg, kSeg_new t73 t74 q1 (by omega) hrun hrg⟩
    · intro z
      rw [t4] at z
      obtain ⟨y1, y2, y3⟩ := q5 z
      obtain ⟨u, u1, u2, u3⟩ := q4 z
      have := (hpl (by rw [← s4]; exact y1)).1
      rw [t35, t36, Int.toNat_natCast, t61, u1]
      refine ⟨by omega, by omega, by omega, by omega⟩
  have hfr : zfrm sm_rule.2.2.2.2.1 es es9 := by
    refine zfrm_drop ?_ (zct73 (T := zD0) hco) (zct73 (T := zD0) hC9) (fun _ => hpN9)
    exact zfrm.trans (zfrm.trans (zfrm_wid hf5' (by decide)) hf6 (by decide)) hf9' (by decide)
  obtain ⟨x4, v4, u4⟩ := fvn hC9 (k := 4) (a := 0) (b := 4) (by decide +kernel)
  obtain ⟨x6, v6, u6⟩ := fvn hC9 (k := 6) (a := 0) (b := 1600) (by decide +kernel)
  obtain ⟨x7, v7, u7⟩ := fvn hC9 (k := 7) (a := 0) (b := 1600) (by decide +kernel)
  obtain ⟨x8, v8, u8⟩ := fvn hC9 (k := 8) (a := -2147483648) (b := 2147483647) (by decide +kernel)
  have r4 := (fvx hC9 (k := 4) (a := 0) (b := 4) (by decide +kernel) rfl).2
  have hal : ∃ al ∈ sm_rule.2.2.2.2.2.2.2, ∃ g2 : zE, zag4 g g2 ∧ zPo al es9 g2 := by
    have hag : zag4 g (fun i => if i = 60 then zfd es9 56 6 else if i = 61 then zfd es9 56 7 else if i = 62 then zfd es9 56 8 else if i = 63 then zfd es9 56 4 else g i) := by
      intro j j1 j2
      show (if j = 60 then zfd es9 56 6 else if j = 61 then zfd es9 56 7 else if j = 62 then zfd es9 56 8 else if j = 63 then zfd es9 56 4 else g j) = g j
      rw [if_neg (by omega), if_neg (by omega), if_neg (by omega), if_neg (by omega)]
    by_cases z : zfd es9 56 4 = 0
    · obtain ⟨y1, ⟨y2, y3⟩, y4⟩ := q5 (by rw [← t4]; exact z)
      rcases y3 with y3 | ⟨y3, y5, y6⟩
      · refine ⟨_, List.mem_cons_of_mem _ List.mem_cons_self, _, hag, fun q hq => ?_, fun q hq => ?_, fun q hq => by cases hq⟩
        · rcases List.mem_cons.mp hq with rfl | hq
          · exact ⟨x8, v8, u8⟩
          · rcases List.mem_singleton.mp hq with rfl
            exact ⟨x4, v4, u4⟩
        · rcases List.mem_cons.mp hq with rfl | hq
          · show 0 ≤ zfd es9 56 8 ∧ zfd es9 56 8 ≤ 0
            omega
          · rcases List.mem_singleton.mp hq with rfl
            show 0 ≤ zfd es9 56 4 ∧ zfd es9 56 4 ≤ 0
            omega
      · refine ⟨_, List.mem_cons_of_mem _ (List.mem_cons_of_mem _ List.mem_cons_self), _, hag, fun q hq => ?_, fun q hq => ?_, fun q hq => ?_⟩
        · rcases List.mem_cons.mp hq with rfl | hq
          · exact ⟨x6, v6, u6⟩
          rcases List.mem_cons.mp hq with rfl | hq
          · exact ⟨x7, v7, u7⟩
          rcases List.mem_cons.mp hq with rfl | hq
          · exact ⟨x8, v8, u8⟩
          · rcases List.mem_singleton.mp hq with rfl
            exact ⟨x4, v4, u4⟩
        · rcases List.mem_cons.mp hq with rfl | hq
          · show 1 ≤ g 44 ∧ g 44 ≤ 5
            omega
          rcases List.mem_cons.mp hq with rfl | hq
          · show 1 ≤ zfd es9 56 8 ∧ zfd es9 56 8 ≤ 5
            omega
          · rcases List.mem_singleton.mp hq with rfl
            show 0 ≤ zfd es9 56 4 ∧ zfd es9 56 4 ≤ 0
            omega
        · rcases List.mem_cons.mp hq with rfl | hq
          · show g 41 - zfd es9 56 6 ≤ 0
            omega
          · rcases List.mem_singleton.mp hq with rfl
            show zfd es9 56 6 - zfd es9 56 7 ≤ -1
            omega
    · refine ⟨_, List.mem_cons_self, _, hag, fun q hq => ?_, fun q hq => ?_, fun q hq => by cases hq⟩
      · rcases List.mem_singleton.mp hq with rfl
        exact ⟨x4, v4, u4⟩
      · rcases List.mem_singleton.mp hq with rfl
        show 1 ≤ zfd es9 56 4 ∧ zfd es9 56 4 ≤ 4
        omega
  exact hret _ pc none η9 H9 locs9 ls9 hx9 V9.2.2.1 (fun t ht hK hF => ⟨⟨_, es9, rfl, rfl, by rw [ht]; exact V9.1, hK, V9.2.1, hC9, hfr, hal⟩, hF⟩)
