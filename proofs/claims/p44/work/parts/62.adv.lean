/-! advance(): its runs, the words and the signs by hand. -/
def adWr : List Nat := [65, 66, 67, 68, 70]
def sm_adv : zSm := (280, (6, 400), [.inr (.inl (some 1))], none, adWr, [], (([], []), [([], [], [])]))
def tA : zTb := ([sm_tw, sm_tn], zdec, zprs)
def adRun (hk : zCk) (fin : zK) (wr pcs : List Nat) (pc : Nat) (lo : zL) (sk : List zV) (ca : zCa) (fs : List (Nat × zG)) : Bool := match ((gt xmt 280).bind xrow).map (fun r => zhR r (6, 400)) with
  | some r => zgo1 tA (hk, [(288, [0]), (287, [1])], 2, wr) 20000 (r, pcs) pc lo sk ca (fs, [], []) fin
  | none => false
def adS113 (sk : List zV) : Bool := match sk with
  | [.inr (.inr _), .inr (.inl (some o))] => Nat.beq o 1
  | _ => false
def adS193 (sk : List zV) : Bool := match sk with
  | [.inr (.inl (some o))] => Nat.beq o 1
  | _ => false
def adH0 : zCk := fun pc lo sk ca fa _ => zfl tA fa ca && (hRf (zll lo 0) 1 && ((Nat.beq pc 0 && (skN sk && (hI (zcF 1 6 ca) (.inr (1, 1, 1)) && hIn fa (some (.inl (.inr (1, 1, 1)))) 0 1600))) || ((Nat.beq pc 113 && adS113 sk) || (Nat.beq pc 193 && (adS193 sk && hIn fa (zll lo 1) 0 255)))))
def adF : zK := fun fa _ v ca => zfl tA fa ca && (match v with | none => true | some _ => false)
def adL : zL := [(0, .inr (.inl (some 1)))]
theorem ad_0 : adRun adH0 adF adWr [0, 113, 193] 0 adL [] [((1, .inl 6), .inl (zsym 1))] [(1, (0, 1600, []))] = true := by decide +kernel
theorem ad_116 : adRun (fun _ _ _ _ _ _ => false) adF adWr [] 116 adL [.inl (zsym 1), .inr (.inl (some 1))] [] [(1, (-2147483648, 2147483647, []))] = true := by decide +kernel
theorem ad_200 : adRun (fun _ _ _ _ _ _ => false) adF adWr [] 200 [(0, .inr (.inl (some 1))), (1, .inl (zsym 2))] [.inl (zsym 1), .inr (.inl (some 1))] [] [(1, (-2147483648, 2147483647, [])), (2, (0, 255, []))] = true := by decide +kernel
theorem adS113_ok {sk : List zV} (h : adS113 sk = true) : ∃ z, sk = [.inr (.inr z), .inr (.inl (some 1))] := by
  unfold adS113 at h
  split at h
  · rename_i z o
    have h := Nat.eq_of_beq_eq_true h
    subst h
    exact ⟨z, rfl⟩
  · cases h
theorem adS193_ok {sk : List zV} (h : adS193 sk = true) : sk = [.inr (.inl (some 1))] := by
  unfold adS193 at h
  split at h
  · rw [Nat.eq_of_beq_eq_true h]
  · cases h
theorem hsA {D : va_G} {l : Launch} {wr : List Nat} (es1 : va_W) : ∀ (es2 : va_W), zfrm wr es1 es2 → ∀ (j : Nat) (sm : zSm), j < 2 → tA.1[j]? = some sm → zSOe tA D l sm es2 := by
  intro es2 _ j sm hj he
  match j, he with
  | 0, he => cases he; exact (zSO_T (a := []) (b := [sm_tw, sm_tn]) so_tw) es2 trivial
  | 1, he => cases he; exact (zSO_T (a := []) (b := [sm_tw, sm_tn]) so_tn) es2 trivial
  | j + 2, he => cases he
def vE (x y : Int) : zE := fun s => if s = 1 then x else if s = 2 then y else 0
theorem vE_bd {x y : Int} (x1 : -2147483648 ≤ x) (x2 : x ≤ 2147483647) (y1 : -2147483648 ≤ y) (y2 : y ≤ 2147483647) : ∀ s, zbd (vE x y s) := by
  intro s
  unfold vE
  split
  · exact zbd_of (by omega) (by omega)
  split
  · exact zbd_of (by omega) (by omega)
  exact ⟨by decide, by decide⟩
theorem own8 {mi : Nat} (h : ((gt xmt mi).bind xrow).map (fun r => Nat.beq r.2.2.2.2.1 8) = some true) {r : xR} (hr : (gt xmt mi).bind xrow = some r) : r.2.2.2.2.1 = 8 := by
  rw [hr] at h
  exact Nat.eq_of_beq_eq_true (Option.some.inj h)
theorem xpc_280_113 : ∀ r : xR, (gt xmt 280).bind xrow = some r → xfi r.2.2.2.2.2.2.2 113 = some (.invokestatic 44, 3) := xpcE (by decide +kernel)
theorem xpc_280_193 : ∀ r : xR, (gt xmt 280).bind xrow = some r → xfi r.2.2.2.2.2.2.2 193 = some (.ldc 54, 2) := xpcE (by decide +kernel)
theorem xpc_280_195 : ∀ r : xR, (gt xmt 280).bind xrow = some r → xfi r.2.2.2.2.2.2.2 195 = some (.iload_n 1, 1) := xpcE (by decide +kernel)
theorem xpc_280_196 : ∀ r : xR, (gt xmt 280).bind xrow = some r → xfi r.2.2.2.2.2.2.2 196 = some (.i2c, 1) := xpcE (by decide +kernel)
theorem xpc_280_197 : ∀ r : xR, (gt xmt 280).bind xrow = some r → xfi r.2.2.2.2.2.2.2 197 = some (.invokevirtual 56, 3) := xpcE (by decide +kernel)
set_option maxHeartbeats 16000000 in
theorem so_advT {D : va_G} {l : Launch} : zSO tA D l pT sm_adv := by
  intro es _ r hr ρ γ vs sz g hgb hco hao hpre hen her
  have hvs : vs = [.ref (ρ 1)] := by
    match vs, hao with
    | [v1], h =>
      obtain ⟨h1, -⟩ := h
      rw [h1]; rfl
  subst hvs
  have hr : (gt xmt 280).bind xrow = some r := hr
  have ho : r.2.2.2.2.1 = 8 := own8 (mi := 280) (by decide +kernel) hr
  refine zent (T := tA) (ρ := ρ) hr (by
    show 1 ≤ r.2.2.1
    exact zfl1_cat (sm := sm_adv) (by decide +kernel) r hr) ?_
  intro p e s m below meth c ls hsz B1 hP hD hl hret
  have hrw : ((gt xmt 280).bind xrow).map (fun r => zhR r (6, 400)) = some (zhR r (6, 400)) := by rw [hr]; rfl
  obtain ⟨c1, c2, c3, c4, c5, c6, c7, c8, c9, c10, c11⟩ := id B1
  obtain ⟨⟨adK, adV, s1, s2, s3⟩, s4, s5⟩ := c11
  have c4' : s.vm.findClass "NightLights$Tape" = some m.cls := by
    have h : s.vm.findClass (xnm r.2.2.2.2.1) = some m.cls := c4
    rw [ho] at h
    exact h
  have F : jF "NightLights$Tape" r.2.1 r.2.2.1 adK adV p s m [Value.ref (ρ 1)].toArray c (va_A es sz) := ⟨c1, c2, c3, c4', c5, ⟨s1, ⟨s2, s3⟩, s4, s5⟩, c7⟩
  have dec : ∀ (pc : Nat) (i : Instr × Nat), xfi r.2.2.2.2.2.2.2 pc = some i → decode r.2.1 pc = .ok i := fun pc i h => c8 (pc, i) (xfi_ok h)
  have hl0 : ∀ (lo : zL) (η : zE) (ls3 : Array Slot), lv_has ls3 r.2.2.1 (zdL ρ η lo) → hRf (zll lo 0) 1 = true → lv_has ls3 r.2.2.1 [(0, .ref (ρ 1))] := by
    intro lo η ls3 h1 h2
    refine lvh h1 (tm := [(0, .inr (.inl (some 1)))]) (η := fun _ => 0) (fun q hq => ?_)
    rcases List.mem_singleton.mp hq with rfl
    exact ⟨_, hRf_ok h2, rfl⟩
  have fin : ∀ (U : zRn) (η0 : zE) (pcs : List Nat) (pc : Nat) (v : Option zV) (lo : zL) (ca : zCa) (fa : zFa) (nf : Nat) (η5 : zE) (H : Heap) (locs : List Loc) (ls5 : Array Slot) (es2 es5 : va_W), zIv tA U D ρ γ es2 s (va_A es sz) (zhR r (6, 400), pcs) η0 100 η5 H locs ls5 lo ca fa nf es5 → adF fa nf v ca = true → zrd η5 (zhR r (6, 400), pcs) pc v → zfrm adWr es es5 → W p l e (zrmS (6, 400)) s m [Value.ref (ρ 1)].toArray below meth c H locs 0 0 (MQ below (zQs tA D ρ γ sm_adv.2.2.2.1 sm_adv.2.2.2.2.1 sm_adv.2.2.2.2.2.2.2 g es sz) [Value.ref (ρ 1)].toArray s 0 0 (va_A es sz)) (F0 m pc ls5 (v.toList.map (zv ρ η5))) := by
    intro U η0 pcs pc v lo ca fa nf η5 H locs ls5 es2 es5 V5 hfin hx5 hf5
    unfold adF at hfin
    rw [Bool.and_eq_true] at hfin
    obtain ⟨q1, q2⟩ := hfin
    cases v with
    | some v => cases q2
    | none => exact hret pcs pc none η5 H locs ls5 hx5 V5.2.2.1 (fun t ht hK hF => ⟨⟨_, es5, rfl, rfl, by rw [ht]; exact V5.1, hK, V5.2.1, zCo.flush V5.2.2.2.2.1 V5.2.2.2.2.2.2.2.1 q1 _, hf5, _, List.mem_cons_self, g, fun _ _ _ => rfl, ⟨fun q hq => (by cases hq), fun q hq => (by cases hq), fun q hq => (by cases hq)⟩⟩, hF⟩)
  have key : ∀ (N x : Nat) (H : Heap) (locs : List Loc) (ls2 : Array Slot) (es2 : va_W), 1600 - x < N → x ≤ 1600 → zfv es2 1 6 = some (.int (Int32.ofInt (x : Int))) → va_P D vwCl es2 H → va_D (va_A es sz) es2 → va_S (va_A es sz) s.heap H locs → zCo zD0 ρ γ (fun _ => 0) [] es2 → zfrm adWr es es2 → lv_has ls2 r.2.2.1 [(0, .ref (ρ 1))] → W p l e (zrmS (6, 400)) s m [Value.ref (ρ 1)].toArray below meth c H locs 0 0 (MQ below (zQs tA D ρ γ sm_adv.2.2.2.1 sm_adv.2.2.2.2.1 sm_adv.2.2.2.2.2.2.2 g es sz) [Value.ref (ρ 1)].toArray s 0 0 (va_A es sz)) (F0 m 0 ls2 []) := by
    intro N
    induction N with
    | zero => intro x H locs ls2 es2 h; exact absurd h (Nat.not_lt_zero _)
    | succ N ih =>
    intro x H locs ls2 es2 hN hx hv hP2 hD2 hS2 hC2 hf2 hll2
    have hc := ad_0
    unfold adRun at hc
    rw [hrw] at hc
    have h0 : zCo tA ρ γ (vE x 0) [] es2 := zCo.env (show zCo tA ρ γ (fun _ => 0) [] es2 from hC2)
    refine zseg (ρ := ρ) (γ := γ) (η := vE x 0) (sk := []) B1 (hsA es2) hc hP2 hD2 hS2 hll2 ⟨vE_bd (by omega) (by omega) (by decide) (by decide), fun q hq => ?_, fun q hq => (by cases hq), fun q hq => (by cases hq)⟩ (zCo.add h0 ⟨fvi hv rfl, fun ix z => by cases z⟩) ?_ ?_
    · rcases List.mem_singleton.mp hq with rfl
      exact ⟨by show (0 : Int) ≤ x; omega, by show (x : Int) ≤ 1600; omega, fun _ z => by cases z⟩
    · intro pc lo sk ca fa nf η3 H3 locs3 ls3 es3 hpc hhk V3
      have hf3 : zfrm adWr es2 es3 := V3.2.2.2.2.2.2.2.2
      have hs3 := V3.2.2.2.2.1
      have hh3 := V3.2.2.2.2.2.2.2.1.2.2.2.2
      have g1 : η3 1 = (x : Int) := V3.2.2.2.2.2.2.1 1 (by decide)
      have hf3' : zfrm adWr es es3 := zfrm.trans (w1 := adWr) hf2 hf3 (by decide)
      unfold adH0 at hhk
      simp only [Bool.and_eq_true, Bool.or_eq_true] at hhk
      obtain ⟨k1, k2, k4⟩ := hhk
      have hC3 : zCo zD0 ρ γ (fun _ => 0) [] es3 := zCo.flush hs3 V3.2.2.2.2.2.2.2.1 k1 (fun _ => 0)
      have hls0 := hl0 lo η3 ls3 V3.2.2.2.1 k2
      rcases k4 with ⟨k4, k5, k6, k7⟩ | ⟨k4, k5⟩ | ⟨k4, k5, k6⟩
      · have k4 := Nat.eq_of_beq_eq_true k4
        subst k4
        have k5 := skN_ok k5
        subst k5
        obtain ⟨y, y0, y1, y2, y3⟩ := hIn_ok hs3 k7
        cases y0
        have y2 : 1 * η3 1 + 1 ≤ 1600 := y2
        obtain ⟨z, z0, z1⟩ := hI_ok k6
        have hv3 : zfv es3 1 6 = some (.int (zi η3 z)) := (hh3 _ (zcF_some z0)).1
        have hz : zi η3 z = Int32.ofInt ((x + 1 : Nat) : Int) := by
          unfold zi
          rw [z1]
          show Int32.ofInt (1 * η3 1 + 1) = _
          rw [Int.one_mul, g1]
          rfl
        rw [hz] at hv3
        have o1 : 1600 - (x + 1) < N := by omega
        exact ih (x + 1) H3 locs3 ls3 es3 o1 (by omega) hv3 V3.1 V3.2.1 V3.2.2.1 hC3 hf3' hls0
      · have k4 := Nat.eq_of_beq_eq_true k4
        subst k4
        obtain ⟨z, rfl⟩ := adS113_ok k5
        show W p l e (zrmS (6, 400)) s m _ below meth c H3 locs3 0 0 _ (F0 m 113 ls3 ([Value.long (Int64.ofInt (zd η3 z))].reverse ++ [.ref (ρ 1)]))
        refine jstat (As := [.long (Int64.ofInt (zd η3 z))]) (rs := [.ref (ρ 1)]) F V3.2.2.1 V3.2.2.2.1.1 jm_kind (dec 113 _ (xpc_280_113 r hr)) jt_kind js_kind rfl (Nat.le_of_ble_eq_true rfl) (rm := (5, 149)) ⟨by show 5 + 1 ≤ 6; decide, by show 8 + (7 + 11) + 149 ≤ 400; decide⟩ j_kind ?_
        intro v locs4 hv4 hS4
        obtain ⟨b, rfl⟩ := hv4
        have hc := ad_116
        unfold adRun at hc
        rw [hrw] at hc
        have hb := i32_bd b
        have hsk : (some (Value.int b)).toList ++ [.ref (ρ 1)] = [Sum.inl (zsym 1), .inr (.inl (some 1))].map (zv ρ (vE b.toInt 0)) := by
          show [Value.int b, .ref (ρ 1)] = [Value.int (Int32.ofInt (1 * b.toInt + 0)), .ref (ρ 1)]
          rw [Int.one_mul, Int.add_zero, i32_of]
        rw [hsk]
        refine zseg (ρ := ρ) (γ := γ) (η := vE b.toInt 0) (sk := [Sum.inl (zsym 1), .inr (.inl (some 1))]) B1 (hsA es3) hc V3.1 V3.2.1 hS4 hls0 ⟨vE_bd hb.1 hb.2 (by decide) (by decide), fun q hq => ?_, fun q hq => (by cases hq), fun q hq => (by cases hq)⟩ (zCo.env (show zCo tA ρ γ (fun _ => 0) [] es3 from hC3)) (fun _ _ _ _ _ _ _ _ _ _ _ h => by cases h) ?_
        · rcases List.mem_singleton.mp hq with rfl
          exact ⟨hb.1, hb.2, fun _ z => by cases z⟩
        · intro pc v lo ca fa nf η5 H5 locs5 ls5 es5 V5 hfin hx5
          exact fin _ _ _ pc v lo ca fa nf η5 H5 locs5 ls5 es3 es5 V5 hfin hx5 (zfrm.trans (w1 := adWr) hf3' V5.2.2.2.2.2.2.2.2 (by decide))
      · have k4 := Nat.eq_of_beq_eq_true k4
        subst k4
        have k5 := adS193_ok k5
        subst k5
        obtain ⟨y, y0, y1, y2, y3⟩ := hIn_ok hs3 k6
        have hl1 : ls3[1]? = some (.val (.int (zi η3 y))) := V3.2.2.2.1.2.2 _ (zll_ok (ρ := ρ) (η := η3) y0)
        have hls1 : lv_has ls3 r.2.2.1 [(0, .ref (ρ 1)), (1, .int (zi η3 y))] := ⟨hls0.1, hls0.2.1, fun q hq => by
          rcases List.mem_cons.mp hq with h | h
          · rw [h]; exact hls0.2.2 _ List.mem_cons_self
          · rcases List.mem_singleton.mp h with rfl
            exact hl1⟩
        show W p l e (zrmS (6, 400)) s m _ below meth c H3 locs3 0 0 _ (F0 m 193 ls3 [.ref (ρ 1)])
        refine va_ldcS c1 c2 c4' s3 (dec 193 _ (xpc_280_193 r hr)) ?_
        refine lv_iload_n c1 c2 (k := 1) (dec 195 _ (xpc_280_195 r hr)) rfl hl1 ?_
        refine lv_i2c c1 c2 (dec 196 _ (xpc_280_196 r hr)) rfl ?_
        refine jvirt (As := [.int _]) (rs := [.ref (ρ 1)]) F V3.2.2.1 V3.2.2.2.1.1 jm_indexOf1 rfl (dec 197 _ (xpc_280_197 r hr)) jt_ix ji_indexOf1 je_indexOf1 (show 1 < 2 by decide) rfl (Nat.le_of_ble_eq_true rfl) (rm := (4, 134)) ⟨by show 4 + 1 ≤ 6; decide, by show 8 + (2 + 11) + 134 ≤ 400; decide⟩ (j_indexOf1 (by decide)) ?_
        intro v locs4 hv4 hS4
        obtain ⟨b, rfl⟩ := hv4
        have hc := ad_200
        unfold adRun at hc
        rw [hrw] at hc
        have hb := i32_bd b
        have hsk : (some (Value.int b)).toList ++ [.ref (ρ 1)] = [Sum.inl (zsym 1), .inr (.inl (some 1))].map (zv ρ (vE b.toInt (zi η3 y).toInt)) := by
          show [Value.int b, .ref (ρ 1)] = [Value.int (Int32.ofInt (1 * b.toInt + 0)), .ref (ρ 1)]
          rw [Int.one_mul, Int.add_zero, i32_of]
        rw [hsk]
        refine zseg (ρ := ρ) (γ := γ) (η := vE b.toInt (zi η3 y).toInt) (sk := [Sum.inl (zsym 1), .inr (.inl (some 1))]) B1 (hsA es3) hc V3.1 V3.2.1 hS4 (by
          show lv_has ls3 r.2.2.1 [(0, Value.ref (ρ 1)), (1, Value.int (Int32.ofInt (1 * (zi η3 y).toInt + 0)))]
          rw [Int.one_mul, Int.add_zero, i32_of]
          exact hls1) ⟨vE_bd hb.1 hb.2 (by omega) (by omega), fun q hq => ?_, fun q hq => (by cases hq), fun q hq => (by cases hq)⟩ (zCo.env (show zCo tA ρ γ (fun _ => 0) [] es3 from hC3)) (fun _ _ _ _ _ _ _ _ _ _ _ h => by cases h) ?_
        · rcases List.mem_cons.mp hq with h | h
          · rw [h]; exact ⟨hb.1, hb.2, fun _ z => by cases z⟩
          · rcases List.mem_singleton.mp h with rfl
            exact ⟨by show 0 ≤ (zi η3 y).toInt; omega, by show (zi η3 y).toInt ≤ 255; omega, fun _ z => by cases z⟩
        · intro pc v lo ca fa nf η5 H5 locs5 ls5 es5 V5 hfin hx5
          exact fin _ _ _ pc v lo ca fa nf η5 H5 locs5 ls5 es3 es5 V5 hfin hx5 (zfrm.trans (w1 := adWr) hf3' V5.2.2.2.2.2.2.2.2 (by decide))
    · intro pc v lo ca fa nf η5 H5 locs5 ls5 es5 V5 hfin hx5
      exact fin _ _ _ pc v lo ca fa nf η5 H5 locs5 ls5 es2 es5 V5 hfin hx5 (zfrm.trans (w1 := adWr) hf2 V5.2.2.2.2.2.2.2.2 (by decide))
  obtain ⟨x, hx, x1, x2⟩ := zrgF_val (show zCo zD0 ρ γ (fun _ => 0) [] es from hco) (i := 1) (k := 6) (a := 0) (b := 1600) (by decide +kernel) rfl
  have hxn : x = Int32.ofInt ((x.toInt.toNat : Nat) : Int) := by
    rw [Int.toNat_of_nonneg x1, i32_of]
  exact key 1601 x.toInt.toNat s.heap [] ls es (by omega) (by omega) (by rw [← hxn]; exact hx) hP hD va_S.rf hco (zfrm.refl _ _) hl
theorem so_adv {D : va_G} {l : Launch} : zSO zD0 D l pT sm_adv := so_advT
