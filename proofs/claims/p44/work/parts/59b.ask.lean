theorem zineH {T : zTb} {D : va_G} {l : Launch} {γ : Nat → ClassId} {r : xR} {p : Program} {e : Env} {s : State} {m : MethodId} {args : Array Value} {below : List Frame} {meth : Method} {c : Code} {A : Nat → Prop} {Q : State → Prop} (B : zBs T D l γ r p s m args c A) {pc tgt : Nat} {off : Int} {H : Heap} {locs : List Loc} {ls : Array Slot} (hx : xfi r.2.2.2.2.2.2.2 pc = some (.if_icmp .ne off, 3)) (ht : (pc : Int) + off = (tgt : Int)) {x y : Int32} {rs : List Value} (h1 : x ≠ y → W p l e (xrm r) s m args below meth c H locs 0 0 Q (F0 m tgt ls rs)) (h2 : x = y → W p l e (xrm r) s m args below meth c H locs 0 0 Q (F0 m (pc + 3) ls rs)) : W p l e (xrm r) s m args below meth c H locs 0 0 Q (F0 m pc ls (.int y :: .int x :: rs)) := by
  obtain ⟨c1, c2, c3, c4, c5, c6, c7, c8, c9, c10, c11⟩ := B
  have hd : decode r.2.1 pc = .ok (.if_icmp .ne off, 3) := c8 (pc, _) (xfi_ok hx)
  exact lv_icmp_ne (tgt := tgt) c1 c2 hd ht h1 h2
theorem pN_store {es es2 : va_W} {i a0 b0 : Nat} {x y : ClassId × vp_A} (hg : es[i]? = some (a0, .inl y)) (he : es2 = es.set i (b0, .inl x)) (h1 : i ≠ 61) (h2 : i ≠ 73) (h3 : i ≠ 74) (h4 : i ≠ 77) (h : pN es) : pN es2 := by
  subst he
  exact pN.arr hg (zar_ne h1) (fun hm => pM.of (zar_ne h2) (zar_ne h3) (zar_ne h4) hm) h
def aE (i fl j b k n w : Int) : zE := fun s => if s = 1 then i else if s = 2 then fl else if s = 3 then j else if s = 4 then b else if s = 67 then k else if s = 68 then n else if s = 69 then w else 0
theorem aE_bd {i fl j b k n w : Int} (i1 : 0 ≤ i) (i2 : i ≤ 6) (f1 : 0 ≤ fl) (f2 : fl ≤ 1) (j1 : 0 ≤ j) (j2 : j ≤ 4) (b1 : -1 ≤ b) (b2 : b ≤ 3) (k1 : 0 ≤ k) (k2 : k ≤ 1) (n1 : 0 ≤ n) (n2 : n ≤ 4) (w1 : 0 ≤ w) (w2 : w ≤ 6) : ∀ s, zbd (aE i fl j b k n w s) := by
  intro s
  unfold aE
  split
  · exact zbd_of (by omega) (by omega)
  split
  · exact zbd_of (by omega) (by omega)
  split
  · exact zbd_of (by omega) (by omega)
  split
  · exact zbd_of (by omega) (by omega)
  split
  · exact zbd_of (by omega) (by omega)
  split
  · exact zbd_of (by omega) (by omega)
  split
  · exact zbd_of (by omega) (by omega)
  exact ⟨by decide, by decide⟩
theorem aE_sat {i fl j b k n w a : Int} (ha : a ≤ 6) (i1 : 0 ≤ i) (i2 : i ≤ a) (f1 : 0 ≤ fl) (f2 : fl ≤ 1) (j1 : 0 ≤ j) (j2 : j ≤ 4) (b1 : -1 ≤ b) (b2 : b ≤ 3) (k1 : 0 ≤ k) (k2 : k ≤ 1) (n1 : 0 ≤ n) (n2 : n ≤ 4) (w1 : 0 ≤ w) (w2 : w ≤ 6) : zsat (aE i fl j b k n w) (asFs a, [], []) := by
  refine ⟨aE_bd i1 (by omega) f1 f2 j1 j2 b1 b2 k1 k2 n1 n2 w1 w2, fun q hq => ?_, fun q hq => (by cases hq), fun q hq => (by cases hq)⟩
  rcases List.mem_cons.mp hq with h | h
  · rw [h]; exact ⟨i1, i2, fun _ z => by cases z⟩
  rcases List.mem_cons.mp h with h | h
  · rw [h]; exact ⟨f1, f2, fun _ z => by cases z⟩
  rcases List.mem_cons.mp h with h | h
  · rw [h]; exact ⟨j1, j2, fun _ z => by cases z⟩
  rcases List.mem_cons.mp h with h | h
  · rw [h]; exact ⟨k1, k2, fun _ z => by cases z⟩
  rcases List.mem_cons.mp h with h | h
  · rw [h]; exact ⟨n1, n2, fun _ z => by cases z⟩
  rcases List.mem_singleton.mp h with rfl
  exact ⟨w1, w2, fun _ z => by cases z⟩
theorem aE_sae {i b : Int} (i1 : 0 ≤ i) (i2 : i ≤ 5) (b1 : -1 ≤ b) (b2 : b ≤ 3) : zsat (aE i 0 0 b 0 0 0) (asFe, [], []) := by
  refine ⟨aE_bd i1 (by omega) (by decide) (by decide) (by decide) (by decide) b1 b2 (by decide) (by decide) (by decide) (by decide) (by decide) (by decide), fun q hq => ?_, fun q hq => (by cases hq), fun q hq => (by cases hq)⟩
  rcases List.mem_cons.mp hq with h | h
  · rw [h]; exact ⟨i1, i2, fun _ z => by cases z⟩
  rcases List.mem_singleton.mp h with rfl
  exact ⟨b1, b2, fun _ z => by cases z⟩
theorem aE_co {ρ : Nat → Nat} {γ : Nat → ClassId} {es : va_W} (hco : zCo zD0 ρ γ (fun _ => 0) [] es) {k n w : Nat} (hk : zfd es 56 34 = k) (hn : (zar es 60 k).toInt = n) (hw : (zar es 59 k).toInt = w) (i fl j b : Int) : zCo zD0 ρ γ (aE i fl j b k n w) asCa es := by
  obtain ⟨v34, -, -⟩ := fvx hco (k := 34) (a := 0) (b := 1) (by decide +kernel) hk
  have h0 : zCo zD0 ρ γ (aE i fl j b k n w) [] es := zCo.env hco
  have h2 : (zd (aE i fl j b k n w) (zsym 67)).toNat = k := by
    show (1 * (k : Int) + 0).toNat = k
    omega
  refine zCo.add (zCo.add (zCo.add h0 ⟨?_, fun ix z => ?_⟩) ⟨?_, fun ix z => ?_⟩) ⟨fvi v34 rfl, fun ix z => by cases z⟩
  · have h1 : zav es 59 k = some (.int (zar es 59 k)) := zavx hco (i := 59) (n := 2) (rs := [(0, 6)]) rfl k
    show zav es 59 (zd (aE i fl j b k n w) (zsym 67)).toNat = some (.int (Int32.ofInt (1 * (w : Int) + 0)))
    rw [h2, h1, Int.one_mul, Int.add_zero, ← hw, i32_of]
  · cases z
    show 0 ≤ 1 * (k : Int) + 0
    omega
  · have h1 : zav es 60 k = some (.int (zar es 60 k)) := zavx hco (i := 60) (n := 2) (rs := [(0, 4)]) rfl k
    show zav es 60 (zd (aE i fl j b k n w) (zsym 67)).toNat = some (.int (Int32.ofInt (1 * (n : Int) + 0)))
    rw [h2, h1, Int.one_mul, Int.add_zero, ← hn, i32_of]
  · cases z
    show 0 ≤ 1 * (k : Int) + 0
    omega
theorem asOr_ok {ρ : Nat → Nat} {η : zE} {fa : zFa} {ca : zCa} {es : va_W} (hs : zsat η fa) (hh : zcH ρ η ca es) {ix v : zI} (h : asOr fa ca ix v = true) {m : Nat} (hm : zd η ix = (m : Int)) : zi η v = sB (zar es 87 m) (Int32.ofInt (η 4)) := by
  unfold asOr at h
  split at h
  rotate_left
  · cases h
  rename_i old e
  split at h
  rotate_left
  · cases h
  rename_i q eq
  split at h
  rotate_left
  · cases h
  rename_i q2 eq2
  have m1 := zmem_ok hs.2.2.2 eq
  have m2 := zmem_ok hs.2.2.2 eq2
  have z1 : ∀ s, zi η (zsym s) = Int32.ofInt (η s) := fun s => by
    show Int32.ofInt (1 * η s + 0) = _
    rw [Int.one_mul, Int.add_zero]
  rw [z1] at m1 m2
  rw [zi_sym h, m2, m1, cA_ar hs hh e hm]
  rfl
theorem asS33_ok {ρ : Nat → Nat} {η : zE} {fa : zFa} {ca : zCa} {es : va_W} (hs : zsat η fa) (hh : zcH ρ η ca es) {sk : List zV} (h : asS33 ca sk = true) {j : Nat} (hj : η 3 = (j : Int)) : ∃ y x : zI, sk = [.inl y, .inl x] ∧ zi η y = Int32.ofInt (η 1) ∧ zi η x = zar es 86 j := by
  unfold asS33 at h
  split at h
  rotate_left
  · cases h
  rename_i y x
  rw [Bool.and_eq_true] at h
  obtain ⟨h1, h2⟩ := h
  obtain ⟨x1, y1, e1, e2, e3⟩ := hSm_ok h2
  cases e2
  refine ⟨y, x, rfl, zi_sym h1, ?_⟩
  rw [cA_ar hs hh e1 (j := j) (by show 1 * η 3 + 0 = _; omega)]
  unfold zi
  rw [e3 η]
theorem asS64_ok {ρ : Nat → Nat} {η : zE} {fa : zFa} {ca : zCa} {es : va_W} (hs : zsat η fa) (hh : zcH ρ η ca es) {sk : List zV} (h : asS64 ca sk = true) {i : Nat} (hi : η 1 = (i : Int)) : ∃ mk ii : zI, sk = [.inl mk, .inl ii, .inr (.inl (some 56))] ∧ zi η ii = Int32.ofInt (η 1) ∧ zi η mk = zar es 87 i := by
  unfold asS64 at h
  split at h
  rotate_left
  · cases h
  rename_i mk ii o
  simp only [Bool.and_eq_true] at h
  obtain ⟨h0, h1, h2⟩ := h
  have h0 := Nat.eq_of_beq_eq_true h0
  subst h0
  obtain ⟨x1, y1, e1, e2, e3⟩ := hSm_ok h2
  cases e2
  refine ⟨mk, ii, rfl, zi_sym h1, ?_⟩
  rw [cA_ar hs hh e1 (j := i) (by show 1 * η 1 + 0 = _; omega)]
  unfold zi
  rw [e3 η]
theorem xpc_125_33 : ∀ r : xR, (gt xmt 125).bind xrow = some r → xfi r.2.2.2.2.2.2.2 33 = some (.if_icmp .ne 7, 3) := xpcE (by decide +kernel)
theorem xpc_125_64 : ∀ r : xR, (gt xmt 125).bind xrow = some r → xfi r.2.2.2.2.2.2.2 64 = some (.invokevirtual 450, 3) := xpcE (by decide +kernel)
theorem xpc_125_115 : ∀ r : xR, (gt xmt 125).bind xrow = some r → xfi r.2.2.2.2.2.2.2 115 = some (.iastore, 1) := xpcE (by decide +kernel)
theorem xpc_125_122 : ∀ r : xR, (gt xmt 125).bind xrow = some r → xfi r.2.2.2.2.2.2.2 122 = some (.iastore, 1) := xpcE (by decide +kernel)
theorem xpc_125_137 : ∀ r : xR, (gt xmt 125).bind xrow = some r → xfi r.2.2.2.2.2.2.2 137 = some (.iastore, 1) := xpcE (by decide +kernel)
theorem lk_wish : ∃ g1 g2 g3, xfi (xml 11) 450 = some (0, 199, g1, g2, g3) := ⟨_, _, _, rfl⟩
theorem shp_199 : shp 199 2 5 = true := by decide +kernel
