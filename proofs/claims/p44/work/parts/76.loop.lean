/-! The law's loop. -/
def lwA (s : State) : Nat → Prop := fun q => s.heap.size ≤ q
def lwB (D : va_G) (p : Program) (s : State) (m : MethodId) (meth : Method) (c : Code) (b L : Nat) (xs : Nat → Int32) (ρ : Nat → Nat) (γ : Nat → ClassId) : Prop := lw_At p s m meth c b L xs ∧ L ≤ 3072 ∧ va_K D vwCl [] s ∧ ρ xz_SC = b ∧ hTz zD0 s γ ∧ zStr (lwA s) s
set_option maxHeartbeats 1000000 in
theorem lw_CC {D : va_G} {p : Program} {l : Launch} {e : Env} {s : State} {m : MethodId} {below : List Frame} {meth : Method} {c : Code} {b L : Nat} {xs : Nat → Int32} {ρ : Nat → Nat} {γ : Nat → ClassId} (B : lwB D p s m meth c b L xs ρ γ) {us : List zSm} {cm : List (Nat × List Nat)} {pl : List (Nat × Instr × Nat)} (hpl : xpg code pl = true) {pcs : List Nat} {hk : zCk} {η : zE} (h0 : η 0 = (L : Int)) {es : va_W}
    (hA : ∀ (pc : Nat) (lo : zL) (sk : List zV) (ca : zCa) (fa : zFa) (nf : Nat) (η3 : zE) (H : Heap) (locs : List Loc) (ls : Array Slot) (es3 : va_W), xmN pcs pc = true → hk pc lo sk ca fa nf = true → zIv (us, zdec, zprs) (lwU cm us.length hk) D ρ γ es s (lwA s) (lwR pl, pcs) η 100 η3 H locs ls lo ca fa nf es3 → W p l e (xrm (lwR pl)) s m #[Value.ref b] below meth c H locs 95 10804 (lw_Z below #[Value.ref b] s) (F0 m pc ls (sk.map (zv ρ η3)))) :
    zCx (us, zdec, zprs) (lwU cm us.length hk) D l ρ γ es (lwR pl, pcs) p e s m #[Value.ref b] below meth c (lwA s) (lw_Z below #[Value.ref b] s) lwF 95 10804 η 100 := by
  obtain ⟨⟨hx, hb, hr, hml, hown, hts, hX, hbl, hlocks, hgv⟩, hL, hK, hS, hT, hZ⟩ := B
  refine ⟨hx, hb, hml, hown, fun w hw => hts w (List.mem_filter.mp hw).1, hK, ⟨fun _ h => h, (by decide : 95 ≤ 600000), (by decide : 10804 ≤ 7302250)⟩, xpg_ok hpl, hT, ⟨fun _ => ⟨L, xs, h0, by omega, by decide, by rw [hS]; exact hX, by rw [hS]; exact hbl, by rw [hS]; exact Nat.not_le.mpr hbl⟩, hZ⟩, hA, ?_⟩
  intro pc v lo ca fa nf η3 H locs ls es3 V hk hx2
  obtain ⟨y, y0, y1⟩ := hI_ok hk
  subst y0
  have hz : zi η3 y = 1 := by
    unfold zi
    rw [y1]
    rfl
  have hd : decode code pc = .ok (.ireturn, 1) := hx2.1
  show W p l e room_1 s m #[Value.ref b] below meth c H locs 95 10804 (lw_Z below #[Value.ref b] s) (F0 m pc ls [.int (zi η3 y)])
  rw [hz]
  refine W.widen (k := 600000) (n := 7302250) (by decide) (by decide) ?_
  refine va_forget (fun q hq => V.2.2.1.2.2 q hq) ?_
  exact lw_ret hx hb hr hlocks hd
set_option maxHeartbeats 1000000 in
theorem lw_go {D : va_G} {p : Program} {l : Launch} {e : Env} {s : State} {m : MethodId} {below : List Frame} {meth : Method} {c : Code} {b : Nat} {ρ : Nat → Nat} {γ : Nat → ClassId} {us : List zSm} {cm : List (Nat × List Nat)} {pl : List (Nat × Instr × Nat)} (hpl : xpg code pl = true) {pcs : List Nat} {hk : zCk} {η : zE} {es : va_W} (hus : zHS D l pN us) (hp : pN es)
    (CC : zCx (us, zdec, zprs) (lwU cm us.length hk) D l ρ γ es (lwR pl, pcs) p e s m #[Value.ref b] below meth c (lwA s) (lw_Z below #[Value.ref b] s) lwF 95 10804 η 100)
    {pc : Nat} {lo : zL} {sk : List zV} {ca : zCa} {fa : zFa} {nf : Nat} (h : lwGo us cm pl pcs hk pc lo sk ca fa nf = true) {η3 : zE} {H : Heap} {locs : List Loc} {ls : Array Slot} {es3 : va_W} (V : zIv (us, zdec, zprs) (lwU cm us.length hk) D ρ γ es s (lwA s) (lwR pl, pcs) η 100 η3 H locs ls lo ca fa nf es3) : W p l e (xrm (lwR pl)) s m #[Value.ref b] below meth c H locs 95 10804 (lw_Z below #[Value.ref b] s) (F0 m pc ls (sk.map (zv ρ η3))) := by
  have HS : ∀ (es1 : va_W), zfrm (lwU cm us.length hk).2.2.2 es es1 → ∀ (j : Nat) (sm : zSm), j < us.length → (us, zdec, zprs).1[j]? = some sm → zSOe (us, zdec, zprs) D l sm es1 := fun es1 hf j sm _ he => (zSO_T (a := []) (b := us) (hus sm (List.mem_of_getElem? he))) es1 (hf.2 (show xmN lwWr 4677 = false by decide +kernel) hp)
  unfold lwGo at h
  split at h
  · rename_i i e1
    exact zsi_ok (zex_ok HS 3000) CC (pc := pc) (lo := lo) (sk := sk) (ca := ca) (fa := fa) (nf := nf) (n := i.2) (η := η3) (H := H) (locs := locs) (ls := ls) (es := es3) V HS (i := i.1) (xpg_ok hpl (pc, i) (xfi_ok e1)) h
  · cases h
def lE (L i v t : Int) : zE := fun s => if s = 0 then L else if s = 3 then i else if s = 4 then v else if s = 5 then t else 0
theorem lE_sat {L i v t : Int} (a1 : 0 ≤ L) (a2 : L ≤ 3072) (b1 : 0 ≤ i) (b2 : i ≤ 3072) (c1 : -2147483648 ≤ v) (c2 : v ≤ 2147483647) (d1 : 0 ≤ t) (d2 : t ≤ 100000) {rl : List zRl} (hr : ∀ q ∈ rl, zrs (lE L i v t) q) : zsat (lE L i v t) (lwFs, rl, []) := by
  refine ⟨fun s => ?_, fun q hq => ?_, hr, fun q hq => (by cases hq)⟩
  · unfold lE
    split
    · exact zbd_of (by omega) (by omega)
    split
    · exact zbd_of (by omega) (by omega)
    split
    · exact zbd_of (by omega) (by omega)
    split
    · exact zbd_of (by omega) (by omega)
    exact ⟨by decide, by decide⟩
  · rcases List.mem_cons.mp hq with h | h
    · rw [h]; exact ⟨a1, a2, fun _ z => by cases z⟩
    rcases List.mem_cons.mp h with h | h
    · rw [h]; exact ⟨b1, b2, fun _ z => by cases z⟩
    rcases List.mem_cons.mp h with h | h
    · rw [h]; exact ⟨c1, c2, fun _ z => by cases z⟩
    rcases List.mem_singleton.mp h with rfl
    exact ⟨d1, d2, fun _ z => by cases z⟩
theorem lE_co {T : List zSm} {ρ : Nat → Nat} {γ : Nat → ClassId} {es : va_W} (hC : zCo zD0 ρ γ (fun _ => 0) [] es) {L i v t : Int} (h1 : zfv es 0 15 = some (.int (Int32.ofInt t))) (h2 : zfv es 56 58 = some (.int (Int32.ofInt t))) : zCo (T, zdec, zprs) ρ γ (lE L i v t) lwCa es := by
  have h0 : zCo (T, zdec, zprs) ρ γ (lE L i v t) [] es := zCo.env (show zCo (T, zdec, zprs) ρ γ (fun _ => 0) [] es from hC)
  exact zCo.add (zCo.add h0 ⟨fvi h2 rfl, fun ix z => by cases z⟩) ⟨fvi h1 rfl, fun ix z => by cases z⟩
theorem lE_lo {ρ : Nat → Nat} {L i v t : Int} : zdL ρ (lE L i v t) lwLo = [(3, .int (Int32.ofInt i)), (2, .ref (ρ 56)), (1, .ref (ρ 0)), (0, .ref (ρ xz_SC))] := by
  show [(3, Value.int (Int32.ofInt (1 * i + 0))), (2, Value.ref (ρ 56)), (1, Value.ref (ρ 0)), (0, Value.ref (ρ xz_SC))] = _
  rw [Int.one_mul, Int.add_zero]
theorem lwL_ok {ρ : Nat → Nat} {η : zE} {i : zI} {lo : zL} {ls : Array Slot} (hl : lv_has ls 4 (zdL ρ η lo)) (h : lwL i lo = true) {z : Int} (hz : zd η i = z) : lv_has ls 4 [(3, .int (Int32.ofInt z)), (2, .ref (ρ 56)), (1, .ref (ρ 0)), (0, .ref (ρ xz_SC))] := by
  unfold lwL at h
  simp only [Bool.and_eq_true] at h
  obtain ⟨q0, q1, q2, q3⟩ := h
  obtain ⟨x1, l1, v1⟩ := hI_ok q3
  rw [← lE_lo (ρ := ρ) (L := 0) (i := z) (v := 0) (t := 0)]
  refine lvh hl (fun q hq => ?_)
  rcases List.mem_cons.mp hq with e9 | hq
  · rw [e9]
    refine ⟨_, l1, zv_int ?_⟩
    rw [v1, hz]; show z = 1 * z + 0; omega
  rcases List.mem_cons.mp hq with e9 | hq
  · rw [e9]; exact ⟨_, hRf_ok q2, rfl⟩
  rcases List.mem_cons.mp hq with e9 | hq
  · rw [e9]; exact ⟨_, hRf_ok q1, rfl⟩
  rcases List.mem_singleton.mp hq with rfl
  exact ⟨_, hRf_ok q0, rfl⟩
theorem lwRd_ok {us : List zSm} {cm : List (Nat × List Nat)} {pl : List (Nat × Instr × Nat)} {pc pc2 : Nat} {hk : zCk} {lo : zL} {sk : List zV} {ca : zCa} {fa : zFa} {nf : Nat} (h : lwRd us cm pl pc hk pc2 lo sk ca fa nf = true) : pc2 = pc ∧ ∃ (ix : zI) (rest : List zV), sk = .inl ix :: .inr (.inl (some xz_SC)) :: rest ∧ zeB ix (.inr (3, 1, 1)) = true ∧ zlB fa (.inr (3, 1, 1)) (zsym 0) = true ∧ lwGo us cm pl [18, 1321, 1330] hk (pc + 1) lo (.inl (zsym 4) :: rest) ca fa nf = true := by
  unfold lwRd at h
  rw [Bool.and_eq_true] at h
  obtain ⟨h0, h⟩ := h
  refine ⟨Nat.eq_of_beq_eq_true h0, ?_⟩
  split at h
  · rename_i ix o rest
    simp only [Bool.and_eq_true] at h
    obtain ⟨h1, h2, h3, h4⟩ := h
    have h1 := Nat.eq_of_beq_eq_true h1
    subst h1
    exact ⟨ix, rest, rfl, h2, h3, h4⟩
  · cases h
theorem dec_1321 : decode code 1321 = .ok (.iaload, 1) := by decide +kernel
theorem dec_1330 : decode code 1330 = .ok (.iaload, 1) := by decide +kernel
set_option maxHeartbeats 4000000 in
theorem lw_loop {D : va_G} {p : Program} {l : Launch} {e : Env} {s : State} {m : MethodId} {below : List Frame} {meth : Method} {c : Code} {b L : Nat} {xs : Nat → Int32} {ρ : Nat → Nat} {γ : Nat → ClassId} (B : lwB D p s m meth c b L xs ρ γ) : ∀ (N i : Nat) (v : Int32) (H : Heap) (locs : List Loc) (ls : Array Slot) (es : va_W), L - i < N → i ≤ L → zfv es 0 15 = some (.int v) → zfv es 56 58 = some (.int v) → va_P D vwCl es H → va_D (lwA s) es → va_S (lwA s) s.heap H locs → zCo zD0 ρ γ (fun _ => 0) [] es → pN es → lv_has ls 4 [(3, .int (Int32.ofInt (i : Int))), (2, .ref (ρ 56)), (1, .ref (ρ 0)), (0, .ref (ρ xz_SC))] → W p l e room_1 s m #[Value.ref b] below meth c H locs 95 10804 (lw_Z below #[Value.ref b] s) (F0 m 18 ls []) := by
  obtain ⟨⟨hx, hb, hr, hml, hown, hts, hX, hbl, hlocks, hgv⟩, hL, hK, hS, hT, hZ⟩ := id B
  intro N
  induction N with
  | zero => intro i v H locs ls es h; exact absurd h (Nat.not_lt_zero _)
  | succ N ih =>
  intro i v H locs ls es hN hi hv1 hv2 hP hD hSS hC hp hl
  obtain ⟨t0, ht0, t1, t2⟩ := zrgF_val hC (i := 0) (k := 15) (a := 0) (b := 100000) (by decide +kernel) rfl
  rw [hv1] at ht0
  cases ht0
  have hvv : v = Int32.ofInt v.toInt := (i32_of v).symm
  rw [hvv] at hv1 hv2
  have b4 := i32_bd (xs (i + 1))
  -- the head
  refine lw_go (us := []) (cm := []) (pl := plH) (pcs := lwTg) (hk := lwHd) (η := lE L i (xs (i + 1)).toInt v.toInt) (es := es) plH_ok zHn hp (lw_CC B plH_ok rfl ?_) lw_head (η3 := lE L i (xs (i + 1)).toInt v.toInt) (sk := []) (lo := lwLo) (ca := lwCa) (fa := (lwFs, [], [])) (nf := 100) ⟨hP, hD, hSS, by rw [lE_lo]; exact hl, lE_sat (by omega) (by omega) (by omega) (by omega) b4.1 b4.2 t1 t2 (fun q hq => by cases hq), Nat.le_refl _, fun _ _ => rfl, lE_co hC hv1 hv2, zfrm.refl _ _⟩
  intro pc lo sk ca fa nf η3 H3 locs3 ls3 es3 hpc hhk V3
  have hs3 := V3.2.2.2.2.1
  have hh3 := V3.2.2.2.2.2.2.2.1.2.2.2.2
  have hf3 : zfrm lwWr es es3 := V3.2.2.2.2.2.2.2.2
  have g0 : η3 0 = (L : Int) := V3.2.2.2.2.2.2.1 0 (by decide)
  have g3 : η3 3 = (i : Int) := V3.2.2.2.2.2.2.1 3 (by decide)
  have g5 : η3 5 = v.toInt := V3.2.2.2.2.2.2.1 5 (by decide)
  unfold lwHd at hhk
  simp only [Bool.and_eq_true] at hhk
  obtain ⟨k1, k2, k3, k4, k5, k6, k7⟩ := hhk
  have k3 := skN_ok k3
  subst k3
  have hC3 : zCo zD0 ρ γ (fun _ => 0) [] es3 := zCo.flush hs3 V3.2.2.2.2.2.2.2.1 k1 (fun _ => 0)
  have hp3 : pN es3 := hf3.2 (by decide +kernel) hp
  have hi6 : i + 6 ≤ L := by
    have h : 1 * η3 3 + 6 ≤ 1 * η3 0 + 0 := zleB_ok hs3 k5
    omega
  have tm : ∀ (j k : Nat), hI (zcF j k ca) (zsym 5) = true → zfv es3 j k = some (.int (Int32.ofInt v.toInt)) := by
    intro j k h
    obtain ⟨z, z0, z1⟩ := hI_ok h
    have h1 : zfv es3 j k = some (.int (zi η3 z)) := (hh3 _ (zcF_some z0)).1
    rw [h1]
    unfold zi
    rw [z1]
    show some (Value.int (Int32.ofInt (1 * η3 5 + 0))) = _
    rw [Int.one_mul, Int.add_zero, g5]
  have hw1 := tm 0 15 k6
  have hw2 := tm 56 58 k7
  have hl3 := lwL_ok V3.2.2.2.1 k4 (z := (i : Int)) (by show 1 * η3 3 + 0 = _; omega)
  obtain ⟨us, cm, pl, hus, hpl, hgo⟩ := lw_cases pc (xmN_ok.mp k2)
  -- at 18 again
  have again : ∀ (hk : zCk) (lo : zL) (sk : List zV) (ca : zCa) (fa : zFa) (nf pc : Nat) (η5 : zE) (H5 : Heap) (locs5 : List Loc) (ls5 : Array Slot) (es5 : va_W), lwH3 pc lo sk ca fa nf = true → zIv (us, zdec, zprs) (lwU cm us.length hk) D ρ γ es3 s (lwA s) (lwR pl, [18, 1321, 1330]) (lE L i (xs (i + 1)).toInt v.toInt) 100 η5 H5 locs5 ls5 lo ca fa nf es5 → W p l e room_1 s m #[Value.ref b] below meth c H5 locs5 95 10804 (lw_Z below #[Value.ref b] s) (F0 m pc ls5 (sk.map (zv ρ η5))) := by
    intro hk lo sk ca fa nf pc η5 H5 locs5 ls5 es5 hhk V5
    have hs5 := V5.2.2.2.2.1
    have hh5 := V5.2.2.2.2.2.2.2.1.2.2.2.2
    have hf5 : zfrm lwWr es3 es5 := V5.2.2.2.2.2.2.2.2
    have d0 : η5 0 = (L : Int) := V5.2.2.2.2.2.2.1 0 (by decide)
    have d3 : η5 3 = (i : Int) := V5.2.2.2.2.2.2.1 3 (by decide)
    unfold lwH3 at hhk
    simp only [Bool.and_eq_true] at hhk
    obtain ⟨q1, q2, q3, q4, q5, q6⟩ := hhk
    have q1 := Nat.eq_of_beq_eq_true q1
    subst q1
    have q3 := skN_ok q3
    subst q3
    obtain ⟨x1, y1, e1, e2, e3⟩ := hSm_ok q6
    have f1 : zfv es5 0 15 = some (.int (zi η5 x1)) := (hh5 _ (zcF_some e1)).1
    have f2 : zfv es5 56 58 = some (.int (zi η5 y1)) := (hh5 _ (zcF_some e2)).1
    have e4 : zi η5 y1 = zi η5 x1 := by
      unfold zi
      rw [e3]
    rw [e4] at f2
    have o1 : L - (i + 6) < N := by omega
    exact ih (i + 6) (zi η5 x1) H5 locs5 ls5 es5 o1 hi6 f1 f2 V5.1 V5.2.1 V5.2.2.1 (zCo.flush hs5 V5.2.2.2.2.2.2.2.1 q2 (fun _ => 0)) (hf5.2 (by decide +kernel) hp3) (lwL_ok V5.2.2.2.1 q4 (z := ((i + 6 : Nat) : Int)) (by show 1 * η5 3 + 6 = _; omega))
  -- a number of the script, read by hand
  have rd : ∀ (hk : zCk) (lo : zL) (ca : zCa) (fa : zFa) (nf pc : Nat) (ix : zI) (rest : List zV) (η5 : zE) (H5 : Heap) (locs5 : List Loc) (ls5 : Array Slot) (es5 : va_W), decode code pc = .ok (.iaload, 1) → zeB ix (.inr (3, 1, 1)) = true → zIv (us, zdec, zprs) (lwU cm us.length hk) D ρ γ es3 s (lwA s) (lwR pl, [18, 1321, 1330]) (lE L i (xs (i + 1)).toInt v.toInt) 100 η5 H5 locs5 ls5 lo ca fa nf es5 → W p l e room_1 s m #[Value.ref b] below meth c H5 locs5 95 10804 (lw_Z below #[Value.ref b] s) (F0 m (pc + 1) ls5 ((.inl (zsym 4) :: rest).map (zv ρ η5))) → W p l e room_1 s m #[Value.ref b] below meth c H5 locs5 95 10804 (lw_Z below #[Value.ref b] s) (F0 m pc ls5 ((.inl ix :: .inr (.inl (some xz_SC)) :: rest).map (zv ρ η5))) := by
    intro hk lo ca fa nf pc ix rest η5 H5 locs5 ls5 es5 hd hix V5 kk
    have d3 : η5 3 = (i : Int) := V5.2.2.2.2.2.2.1 3 (by decide)
    have d4 : η5 4 = (xs (i + 1)).toInt := V5.2.2.2.2.2.2.1 4 (by decide)
    have e1 : zi η5 ix = Int32.ofInt ((i + 1 : Nat) : Int) := by
      unfold zi
      rw [zeB_ok hix]
      show Int32.ofInt (1 * η5 3 + 1) = _
      rw [Int.one_mul, d3]
      rfl
    have e4 : zv ρ η5 (.inl (zsym 4)) = .int (xs (i + 1)) := by
      show Value.int (Int32.ofInt (1 * η5 4 + 0)) = _
      rw [Int.one_mul, Int.add_zero, d4, i32_of]
    have kk : W p l e room_1 s m #[Value.ref b] below meth c H5 locs5 95 10804 (lw_Z below #[Value.ref b] s) (F0 m (pc + 1) ls5 (zv ρ η5 (.inl (zsym 4)) :: rest.map (zv ρ η5))) := kk
    rw [e4] at kk
    show W p l e room_1 s m #[Value.ref b] below meth c H5 locs5 95 10804 (lw_Z below #[Value.ref b] s) (F0 m pc ls5 (.int (zi η5 ix) :: .ref (ρ xz_SC) :: rest.map (zv ρ η5)))
    rw [e1, hS]
    have eI : (Int32.ofInt ((i + 1 : Nat) : Int)).toInt = ((i + 1 : Nat) : Int) := i32_big (by omega) (by omega)
    have eN : (Int32.ofInt ((i + 1 : Nat) : Int)).toNatClampNeg = i + 1 := by
      show (Int32.ofInt ((i + 1 : Nat) : Int)).toInt.toNat = i + 1
      rw [eI, Int.toNat_natCast]
    refine va_sld hx hb hX hbl (A := lwA s) (Nat.not_le.mpr hbl) V5.2.2.1 (fun z => ?_) hd (by rw [eN]; exact kk)
    rcases z with z | z
    · rw [Int32.lt_iff_toInt_lt, eI] at z
      have z : ((i + 1 : Nat) : Int) < 0 := z
      omega
    · rw [eN] at z
      omega
  refine lw_go (us := us) (cm := cm) (pl := pl) (pcs := [18, 1321, 1330]) (hk := lwH1 us cm pl) (η := lE L i (xs (i + 1)).toInt v.toInt) (es := es3) hpl (hus D l) hp3 (lw_CC B hpl rfl ?_) hgo (η3 := lE L i (xs (i + 1)).toInt v.toInt) (sk := []) (lo := lwLo) (ca := lwCa) (fa := (lwFs, [(false, 3, 0, -6)], [])) (nf := 100) ⟨V3.1, V3.2.1, V3.2.2.1, by rw [lE_lo]; exact hl3, lE_sat (by omega) (by omega) (by omega) (by omega) b4.1 b4.2 t1 t2 (fun q hq => by
    rcases List.mem_singleton.mp hq with rfl
    show (i : Int) - (L : Int) ≤ -6
    omega), Nat.le_refl _, fun _ _ => rfl, lE_co hC3 hw1 hw2, zfrm.refl _ _⟩
  intro pc lo sk ca fa nf η5 H5 locs5 ls5 es5 hpc hhk V5
  unfold lwH1 at hhk
  rw [Bool.or_eq_true] at hhk
  rcases hhk with hhk | hhk
  · exact again _ lo sk ca fa nf pc η5 H5 locs5 ls5 es5 hhk V5
  obtain ⟨rfl, ix, rest, rfl, z1, z2, z3⟩ := lwRd_ok hhk
  refine rd (lwH1 us cm pl) lo ca fa nf 1321 ix rest η5 H5 locs5 ls5 es5 dec_1321 z1 V5 ?_
  refine lw_go (us := us) (cm := cm) (pl := pl) (pcs := [18, 1321, 1330]) (hk := lwH2 us cm pl) (η := lE L i (xs (i + 1)).toInt v.toInt) (es := es3) hpl (hus D l) hp3 (lw_CC B hpl rfl ?_) z3 V5
  intro pc lo sk ca fa nf η6 H6 locs6 ls6 es6 hpc hhk V6
  unfold lwH2 at hhk
  obtain ⟨rfl, ix, rest, rfl, z1, z2, z3⟩ := lwRd_ok hhk
  refine rd (lwH2 us cm pl) lo ca fa nf 1330 ix rest η6 H6 locs6 ls6 es6 dec_1330 z1 V6 ?_
  refine lw_go (us := us) (cm := cm) (pl := pl) (pcs := [18, 1321, 1330]) (hk := lwH3) (η := lE L i (xs (i + 1)).toInt v.toInt) (es := es3) hpl (hus D l) hp3 (lw_CC B hpl rfl ?_) z3 V6
  intro pc lo sk ca fa nf η7 H7 locs7 ls7 es7 hpc hhk V7
  exact again _ lo sk ca fa nf pc η7 H7 locs7 ls7 es7 hhk V7
