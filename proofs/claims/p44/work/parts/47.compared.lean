/-! isCompared(): it stops at the pile's bottom. -/
def icHk : zCk := fun _ lo sk ca fa _ => (match sk with
  | [] => true
  | _ => false) && (zfl zD0 fa ca && (hRf (zll lo 0) 56 && (hI (zll lo 1) (.inr (60, 1, -1)))))
def icH7 : zCk := fun _ lo sk ca fa _ => (match sk with
  | [] => true
  | _ => false) && (zfl zD0 fa ca && (hRf (zll lo 0) 56 && (hI (zll lo 1) (.inr (1, 1, -1)) && hIn fa (zcA 79 (zsym 1) ca) 5 6)))
def icFin : zK := fun fa _ v ca => zfl zD0 fa ca && zretB fa (some (.inl (0, 1))) v
def icRun (hk : zCk) (pc : Nat) (lo : zL) (ca : zCa) (fs : List (Nat × zG)) : Bool := match ((gt xmt 127).bind xrow).map (fun r => zhR r (1, 64)) with
  | some r => zgo1 zD0 (hk, [], 0, [4677]) 2000 (r, [7]) pc lo [] ca (fs, [], []) icFin
  | none => false
theorem ic_0 : icRun icHk 0 [(0, .inr (.inl (some 56)))] [((56, .inl 38), .inl (zsym 60))] [(60, (1, 89, []))] = true := by decide +kernel
theorem ic_7 : icRun icH7 7 [(0, .inr (.inl (some 56))), (1, .inl (zsym 1))] [] [(1, (0, 88, []))] = true := by decide +kernel
def iE (a k : Int) : zE := fun i => if i = 1 then a else if i = 60 then k else 0
theorem iE_bd {a k : Int} (h1 : zbd a) (h3 : zbd k) : ∀ i, zbd (iE a k i) := by
  intro i
  unfold iE
  split
  · exact h1
  · split
    · exact h3
    · exact ⟨by decide, by decide⟩
theorem fvx {es : va_W} {ρ : Nat → Nat} {γ : Nat → ClassId} (hco : zCo zD0 ρ γ (fun _ => 0) [] es) {k : Nat} {a b : Int} (h : zrgF zdec 56 k = some (a, b)) {n : Int} (hn : zfd es 56 k = n) : zfv es 56 k = some (.int (Int32.ofInt n)) ∧ a ≤ n ∧ n ≤ b := by
  obtain ⟨x, h1, h2, h3⟩ := zrgF_val (T := zD0) hco h rfl
  have h4 : x.toInt = n := by rw [← zfd_of h1]; exact hn
  rw [← h4, i32_of]
  exact ⟨h1, h2, h3⟩
set_option maxHeartbeats 4000000 in
theorem c_isCompared {D : va_G} {l : Launch} {ρ : Nat → Nat} {γ : Nat → ClassId} {es : va_W} (hco : zCo zD0 ρ γ (fun _ => 0) [] es) {p0 nb B : Nat} (hp0 : zfd es 56 38 = ((p0 + 1 : Nat) : Int)) (hpl : kPl (zar es 79) (zar es 80) (p0 + 1) = some (nb, B)) (hnb : nb ≤ 7) : zHM zD0 D l 127 (1, 64) ρ γ es [.ref (ρ 56)] (fun v es2 => (∃ x : Int32, v = some (.int x) ∧ 0 ≤ x.toInt ∧ x.toInt ≤ 1) ∧ zfrm [4677] es es2) := by
  intro r hr sz
  refine zent (ρ := ρ) hr (by
    show 1 ≤ r.2.2.1
    exact zfl1_cat (sm := (127, (1, 64), [.inr (.inl (some 56))], none, [], [], (([], []), []))) (by decide +kernel) r hr) ?_
  intro p e s m below meth c ls hsz B0 hP hD hl hret
  have hple := kPl_le hpl hnb
  have h0 : (zar es 79 0).toInt = 8 := by
    have : ∀ (q nb B : Nat), kPl (zar es 79) (zar es 80) (q + 1) = some (nb, B) → (zar es 79 0).toInt = 8 := by
      intro q
      induction q with
      | zero => intro nb B h; exact (kPl_bd 0 nb B h).2.2.2.2.2.2 rfl
      | succ q ih =>
        intro nb B h
        obtain ⟨nb2, B2, h1, -⟩ := kPl_pop h
        exact ih nb2 B2 h1
    exact this p0 nb B hpl
  obtain ⟨hv38, -, -⟩ := fvx hco (k := 38) (a := 0) (b := 89) (by decide +kernel) hp0
  have hfin : ∀ (U : zRn) (η0 : zE) (pc : Nat) (v : Option zV) (lo : zL) (ca : zCa) (fa : zFa) (nf : Nat) (η3 : zE) (H : Heap) (locs : List Loc) (ls3 : Array Slot) (es1 es3 : va_W), U.2.2.2 = [4677] → zfrm [4677] es es1 → zIv zD0 U D ρ γ es1 s (va_A es sz) (zhR r (1, 64), [7]) η0 100 η3 H locs ls3 lo ca fa nf es3 → icFin fa nf v ca = true → zrd η3 (zhR r (1, 64), [7]) pc v → W p l e (zrmS (1, 64)) s m [Value.ref (ρ 56)].toArray below meth c H locs 0 0 (MQ below (zQh zD0 D ρ γ es sz (fun v es2 => (∃ x : Int32, v = some (.int x) ∧ 0 ≤ x.toInt ∧ x.toInt ≤ 1) ∧ zfrm [4677] es es2)) [Value.ref (ρ 56)].toArray s 0 0 (va_A es sz)) (F0 m pc ls3 (v.toList.map (zv ρ η3))) := by
    intro U η0 pc v lo ca fa nf η3 H locs ls3 es1 es3 hU hf1 V hk hx
    unfold icFin at hk
    rw [Bool.and_eq_true] at hk
    have hro := zretB_ok (ρ := ρ) V.2.2.2.2.1 hk.2
    refine hret [7] pc v η3 H locs ls3 hx V.2.2.1 (fun t ht hK hF => ⟨⟨_, es3, rfl, by rw [ht]; exact V.1, hK, V.2.1, zCo.flush V.2.2.2.2.1 V.2.2.2.2.2.2.2.1 hk.1 _, hro, zfrm.trans (w1 := [4677]) (w2 := [4677]) hf1 (hU ▸ V.2.2.2.2.2.2.2.2) (by decide)⟩, hF⟩)
  have key : ∀ (k : Nat) (H : Heap) (locs : List Loc) (ls2 : Array Slot) (es2 : va_W), k ≤ 56 → va_P D vwCl es2 H → va_D (va_A es sz) es2 → va_S (va_A es sz) s.heap H locs → zCo zD0 ρ γ (fun _ => 0) [] es2 → zfrm [4677] es es2 → lv_has ls2 r.2.2.1 (zdL ρ (iE k 0) [(0, .inr (.inl (some 56))), (1, .inl (zsym 1))]) → W p l e (zrmS (1, 64)) s m [Value.ref (ρ 56)].toArray below meth c H locs 0 0 (MQ below (zQh zD0 D ρ γ es sz (fun v es2 => (∃ x : Int32, v = some (.int x) ∧ 0 ≤ x.toInt ∧ x.toInt ≤ 1) ∧ zfrm [4677] es es2)) [Value.ref (ρ 56)].toArray s 0 0 (va_A es sz)) (F0 m 7 ls2 []) := by
    intro k
    induction k with
    | zero =>
      intro H locs ls2 es2 hk hP2 hD2 hS2 hC2 hf2 hl2
      have hc := ic_7
      unfold icRun at hc
      rw [emRow hr] at hc
      refine zseg (ρ := ρ) (γ := γ) (η := iE 0 0) (sk := []) B0 (noHS0 es2) hc hP2 hD2 hS2 hl2 ⟨iE_bd ⟨by decide, by decide⟩ ⟨by decide, by decide⟩, fun q hq => by
        rcases List.mem_singleton.mp hq with rfl
        exact ⟨by decide, by decide, fun _ z => by cases z⟩, fun q hq => (by cases hq), fun q hq => (by cases hq)⟩ (zCo.env hC2) ?_ (fun pc v lo ca fa nf η3 H locs ls es3 V q1 q2 => hfin _ _ pc v lo ca fa nf η3 H locs ls es2 es3 rfl hf2 V q1 q2)
      intro pc lo sk ca fa nf η3 H3 locs3 ls3 es3 hpc hhk V3
      exfalso
      unfold icH7 at hhk
      simp only [Bool.and_eq_true] at hhk
      obtain ⟨k1, k2, k3, k4, k5⟩ := hhk
      obtain ⟨x, x0, x1, x2, x3⟩ := hIn_ok V3.2.2.2.2.1 k5
      obtain ⟨w, w1, w2⟩ := zcA_some (η := η3) x0
      have h8 : zav es3 79 (zd η3 w).toNat = some (.int (zi η3 x)) := (V3.2.2.2.2.2.2.2.1.2.2.2.2 _ w1).1
      have e1 : η3 1 = 0 := V3.2.2.2.2.2.2.1 1 (by decide)
      have e2 : zd η3 (zsym 1) = 0 := by show 1 * η3 1 + 0 = 0; omega
      rw [w2, e2] at h8
      have h9 := zav_zar (i := 79) (j := 0) h8
      rw [zar_kept V3.2.2.2.2.2.2.2.2 (by decide), zar_kept hf2 (by decide)] at h9
      rw [← h9, h0] at x3
      omega
    | succ k ih =>
      intro H locs ls2 es2 hk hP2 hD2 hS2 hC2 hf2 hl2
      have hc := ic_7
      unfold icRun at hc
      rw [emRow hr] at hc
      refine zseg (ρ := ρ) (γ := γ) (η := iE ((k + 1 : Nat) : Int) 0) (sk := []) B0 (noHS0 es2) hc hP2 hD2 hS2 hl2 ⟨iE_bd (zbd_of (by omega) (by omega)) ⟨by decide, by decide⟩, fun q hq => by
        rcases List.mem_singleton.mp hq with rfl
        exact ⟨by show (0 : Int) ≤ ((k + 1 : Nat) : Int); omega, by show ((k + 1 : Nat) : Int) ≤ 88; omega, fun _ z => by cases z⟩, fun q hq => (by cases hq), fun q hq => (by cases hq)⟩ (zCo.env hC2) ?_ (fun pc v lo ca fa nf η3 H locs ls es3 V q1 q2 => hfin _ _ pc v lo ca fa nf η3 H locs ls es2 es3 rfl hf2 V q1 q2)
      intro pc lo sk ca fa nf η3 H3 locs3 ls3 es3 hpc hhk V3
      have hpc := xmN1 hpc
      subst hpc
      unfold icH7 at hhk
      simp only [Bool.and_eq_true] at hhk
      obtain ⟨k1, k2, k3, k4, k5⟩ := hhk
      have hsk : sk = [] := by
        cases sk with
        | nil => rfl
        | cons a t => cases k1
      subst hsk
      have l0 := hRf_ok k3
      obtain ⟨x1, l1, v1⟩ := hI_ok k4
      refine ih H3 locs3 ls3 es3 (by omega) V3.1 V3.2.1 V3.2.2.1 (zCo.flush V3.2.2.2.2.1 V3.2.2.2.2.2.2.2.1 k2 _) (zfrm.trans (w1 := [4677]) (w2 := [4677]) hf2 V3.2.2.2.2.2.2.2.2 (by decide)) ?_
      refine lvh V3.2.2.2.1 (fun q hq => ?_)
      rcases List.mem_cons.mp hq with e | e
      · rw [e]; exact ⟨_, l0, rfl⟩
      · rcases List.mem_singleton.mp e with rfl
        refine ⟨_, l1, zv_int ?_⟩
        rw [v1]
        have e1 : η3 1 = ((k + 1 : Nat) : Int) := V3.2.2.2.2.2.2.1 1 (by decide)
        show 1 * η3 1 + -1 = 1 * (k : Int) + 0
        omega
  have hc := ic_0
  unfold icRun at hc
  rw [emRow hr] at hc
  refine zseg (ρ := ρ) (γ := γ) (η := iE 0 ((p0 + 1 : Nat) : Int)) (sk := []) B0 (noHS0 es) hc hP hD va_S.rf hl ⟨iE_bd ⟨by decide, by decide⟩ (zbd_of (by omega) (by omega)), fun q hq => by
    rcases List.mem_singleton.mp hq with rfl
    exact ⟨by show (1 : Int) ≤ ((p0 + 1 : Nat) : Int); omega, by show ((p0 + 1 : Nat) : Int) ≤ 89; omega, fun _ z => by cases z⟩, fun q hq => (by cases hq), fun q hq => (by cases hq)⟩ (by
    refine zCo.add (zCo.env hco) ⟨?_, fun ix z => by cases z⟩
    show zfv es 56 38 = some (.int (Int32.ofInt (1 * ((p0 + 1 : Nat) : Int) + 0)))
    rw [hv38, Int.one_mul, Int.add_zero]) ?_ (fun pc v lo ca fa nf η3 H locs ls es3 V q1 q2 => hfin _ _ pc v lo ca fa nf η3 H locs ls es es3 rfl (zfrm.refl _ _) V q1 q2)
  intro pc lo sk ca fa nf η3 H3 locs3 ls3 es3 hpc hhk V3
  have hpc := xmN1 hpc
  subst hpc
  unfold icHk at hhk
  simp only [Bool.and_eq_true] at hhk
  obtain ⟨k1, k2, k3, k4⟩ := hhk
  have hsk : sk = [] := by
    cases sk with
    | nil => rfl
    | cons a t => cases k1
  subst hsk
  have l0 := hRf_ok k3
  obtain ⟨x1, l1, v1⟩ := hI_ok k4
  refine key p0 H3 locs3 ls3 es3 (by omega) V3.1 V3.2.1 V3.2.2.1 (zCo.flush V3.2.2.2.2.1 V3.2.2.2.2.2.2.2.1 k2 _) V3.2.2.2.2.2.2.2.2 ?_
  refine lvh V3.2.2.2.1 (fun q hq => ?_)
  rcases List.mem_cons.mp hq with e | e
  · rw [e]; exact ⟨_, l0, rfl⟩
  · rcases List.mem_singleton.mp e with rfl
    refine ⟨_, l1, zv_int ?_⟩
    rw [v1]
    have e1 : η3 60 = ((p0 + 1 : Nat) : Int) := V3.2.2.2.2.2.2.1 60 (by decide)
    show 1 * η3 60 + -1 = 1 * (p0 : Int) + 0
    omega
