/-! comes(): the rule's code is run; it never takes from an empty pile. -/
def cmHk : zCk := fun pc lo sk ca fa _ => (match sk with
  | [] => true
  | _ => false) && (zfl zD0 fa ca && (hRf (zll lo 0) 56 && (match pc with
  | 12 => match zcF 56 34 ca with
    | some (.inl b) => z32 fa b && (hI (zll lo 1) (.inl 0) && (hSm (zll lo 2) (zcA 73 b ca) && hIn fa (zll lo 2) 0 1119))
    | _ => false
  | _ => false)))
/-- at the loop's head, from within: n + dn, k + 1 -/
def cmHd (dn : Int) : zCk := fun _ lo sk ca fa _ => (match sk with
  | [] => true
  | _ => false) && (zfl zD0 fa ca && (hRf (zll lo 0) 56 && (hI (zll lo 1) (.inr (1, 1, dn)) && hI (zll lo 2) (.inr (2, 1, 1)))))
/-- from the head on -/
def cmHb : zCk := fun pc lo sk ca fa _ => (match sk with
  | [] => true
  | _ => false) && (zfl zD0 fa ca && (hRf (zll lo 0) 56 && (hI (zll lo 1) (zsym 1) && (hI (zll lo 2) (zsym 2) && (hSm (zll lo 3) (zcA 77 (zsym 2) ca) && ((match zcF 56 34 ca with
  | some (.inl b) => match zcA 74 b ca with
    | some (.inl t) => zlB fa (zsym 2) t && (z32 fa t && z32 fa b)
    | _ => false
  | _ => false) && (match pc with
  | 38 => hIn fa (zll lo 3) 126 126
  | 72 => hIn fa (zll lo 3) 97 122
  | 95 => hIn fa (zll lo 3) (-2147483648) 96 || (hIn fa (zll lo 3) 123 2147483647 && hNe fa (zll lo 3) 126)
  | _ => false)))))))
def cmFin : zK := zfin zD0 sm_comes
def cmRow : Option xR := ((gt xmt 91).bind xrow).map (fun r => zhR r (3, 107))
def cmRun (hk : zCk) (pcs : List Nat) (pc : Nat) (lo : zL) (fs : List (Nat × zG)) : Bool := match cmRow with
  | some r => zgo1 zD0 (hk, [], 0, [5184]) 20000 (r, pcs) pc lo [] [] (fs, [], []) cmFin
  | none => false
theorem cm_0 : cmRun cmHk [12] 0 [(0, .inr (.inl (some 56)))] [] = true := by decide +kernel
theorem cm_12 : cmRun cmHb [38, 72, 95] 12 [(0, .inr (.inl (some 56))), (1, .inl (zsym 1)), (2, .inl (zsym 2))] [(1, (0, 60, [])), (2, (0, 1119, []))] = true := by decide +kernel
theorem cm_38 : cmRun (cmHd 0) [12] 38 [(0, .inr (.inl (some 56))), (1, .inl (zsym 1)), (2, .inl (zsym 2)), (3, .inl (zsym 3))] [(1, (1, 60, [])), (2, (0, 1118, [])), (3, (-2147483648, 2147483647, []))] = true := by decide +kernel
theorem cm_72 : cmRun (cmHd 1) [12] 72 [(0, .inr (.inl (some 56))), (1, .inl (zsym 1)), (2, .inl (zsym 2)), (3, .inl (zsym 3))] [(1, (0, 59, [])), (2, (0, 1118, [])), (3, (-2147483648, 2147483647, []))] = true := by decide +kernel
theorem cm_95 : cmRun (cmHd (-1)) [12] 95 [(0, .inr (.inl (some 56))), (1, .inl (zsym 1)), (2, .inl (zsym 2)), (3, .inl (zsym 3))] [(1, (2, 60, [])), (2, (0, 1118, [])), (3, (-2147483648, 2147483647, []))] = true := by decide +kernel
theorem kRun_one {f : Nat → Int32} {n k d e : Nat} (h : kRun f (n + 1) k d = some e) : ∃ d2, kOne (f k) d = some d2 ∧ kRun f n (k + 1) d2 = some e := by
  unfold kRun at h
  split at h
  · rename_i d2 e2
    exact ⟨d2, e2, h⟩
  · cases h
def cmE (n k c : Int) : zE := fun i => if i = 1 then n else if i = 2 then k else if i = 3 then c else 0
theorem cmE_bd {n k c : Int} (h1 : zbd n) (h2 : zbd k) (h3 : zbd c) : ∀ i, zbd (cmE n k c i) := by
  intro i
  unfold cmE
  split
  · exact h1
  · split
    · exact h2
    · split
      · exact h3
      · exact ⟨by decide, by decide⟩
theorem zbd_of {x : Int} (h1 : -2147483648 ≤ x) (h2 : x ≤ 2147483647) : zbd x := by
  unfold zbd
  constructor <;> omega
theorem xrow91 {r : xR} (hr : (gt xmt 91).bind xrow = some r) : cmRow = some (zhR r (3, 107)) := by
  unfold cmRow
  rw [hr]
  rfl
set_option maxHeartbeats 4000000 in
theorem so_comes {D : va_G} {l : Launch} : zSO zD0 D l pN sm_comes := by
  intro es hpM r hr ρ γ vs sz g hgb hco hao hpre hen her
  have hrow := xrow91 hr
  have hvs : vs = [.ref (ρ 56)] := by
    match vs, hao with
    | [v], h => exact congrArg (fun x => [x]) h.1
  subst hvs
  refine zent (ρ := ρ) hr (by
    show 1 ≤ r.2.2.1
    have h1 := zfl1_cat (sm := sm_comes) (by decide +kernel) r hr
    exact h1) ?_
  intro p e s m below meth c ls hsz B hP hD hl hret
  -- what doesn't change
  obtain ⟨xb, hb0, hb1, hb2⟩ := zrgF_val (i := 56) (k := 34) (a := 0) (b := 1) hco (by decide +kernel) rfl
  obtain ⟨bN, hbN⟩ : ∃ bN : Nat, xb.toInt = (bN : Int) := ⟨xb.toInt.toNat, by omega⟩
  have hseg : kSeg es bN := by
    rcases (show bN = 0 ∨ bN = 1 by omega) with h | h
    · rw [h]; exact hpM.1.1
    · rw [h]; exact hpM.1.2
  obtain ⟨s1, s2, s3, ⟨dE, s4⟩, -⟩ := hseg
  have noHS : ∀ (es1 es2 : va_W), zfrm [5184] es1 es2 → ∀ (j : Nat) (sm : zSm), j < 0 → zD0.1[j]? = some sm → zSOe zD0 D l sm es2 := fun _ _ _ j _ h => absurd h (Nat.not_lt_zero _)
  -- the end
  have hfin : ∀ (U : zRn) (η0 : zE) (pcs : List Nat) (pc : Nat) (v : Option zV) (lo : zL) (ca : zCa) (fa : zFa) (nf : Nat) (η3 : zE) (H : Heap) (locs : List Loc) (ls3 : Array Slot) (es1 es3 : va_W), U.2.2.2 = [5184] → zfrm [5184] es es1 → zIv zD0 U D ρ γ es1 s (va_A es sz) (zhR r (3, 107), pcs) η0 100 η3 H locs ls3 lo ca fa nf es3 → cmFin fa nf v ca = true → zrd η3 (zhR r (3, 107), pcs) pc v → W p l e (zrmS (3, 107)) s m [Value.ref (ρ 56)].toArray below meth c H locs 0 0 (MQ below (zQs zD0 D ρ γ sm_comes.2.2.2.1 sm_comes.2.2.2.2.1 sm_comes.2.2.2.2.2.2.2 g es sz) [Value.ref (ρ 56)].toArray s 0 0 (va_A es sz)) (F0 m pc ls3 (v.toList.map (zv ρ η3))) := by
    intro U η0 pcs pc v lo ca fa nf η3 H locs ls3 es1 es3 hU hf1 V hk hx
    unfold cmFin zfin at hk
    rw [Bool.and_eq_true, Bool.and_eq_true] at hk
    refine hret pcs pc v η3 H locs ls3 hx V.2.2.1 (fun t ht hK hF => ⟨⟨_, es3, rfl, zretB_ok V.2.2.2.2.1 hk.2.1, by rw [ht]; exact V.1, hK, V.2.1, zCo.flush V.2.2.2.2.1 V.2.2.2.2.2.2.2.1 hk.1 _, zfrm.trans (w1 := [5184]) (w2 := [5184]) hf1 (hU ▸ V.2.2.2.2.2.2.2.2) (by decide), ([], [], []), List.mem_singleton.mpr rfl, g, fun _ _ _ => rfl, fun q hq => (by cases hq), fun q hq => (by cases hq), fun q hq => (by cases hq)⟩, hF⟩)
  -- the bank, read again
  have hbank : ∀ (es3 : va_W) (η3 : zE) (fa : zFa) (ca : zCa) (u : zI), zfrm [5184] es es3 → zsat η3 fa → zcH ρ η3 ca es3 → zcF 56 34 ca = some (.inl u) → z32 fa u = true → zd η3 u = (bN : Int) := by
    intro es3 η3 fa ca u hf3 hs3 hh3 e4 h32
    have q3 : zfv es3 56 34 = some (.int (zi η3 u)) := (hh3 _ (zcF_some e4)).1
    have q4 : zfv es3 56 34 = some (.int xb) := zfv_kept hf3 (by decide) (by decide) hb0
    rw [q3] at q4
    have q5 : zi η3 u = xb := Value.int.inj (Option.some.inj q4)
    rw [← z32_ok hs3 h32, q5, hbN]
  have hone : ∀ x : Int, 1 * x + 0 = x := fun x => by omega
  have hlocs : ∀ (n k : Nat) (c : Int), zdL ρ (cmE n k c) [(0, .inr (.inl (some 56))), (1, .inl (zsym 1)), (2, .inl (zsym 2))] = [(0, .ref (ρ 56)), (1, .int (Int32.ofInt n)), (2, .int (Int32.ofInt k))] := fun n k c => by
    show [(0, Value.ref (ρ 56)), (1, Value.int (Int32.ofInt (1 * (n : Int) + 0))), (2, Value.int (Int32.ofInt (1 * (k : Int) + 0)))] = _
    rw [hone, hone]
  have hsat : ∀ (n k : Nat) (c lo1 hi1 hi2 : Int), zbd c → -2147483648 ≤ c → c ≤ 2147483647 → lo1 ≤ n → (n : Int) ≤ hi1 → hi1 ≤ 60 → (k : Int) ≤ hi2 → hi2 ≤ 1119 → zsat (cmE n k c) ([(1, (lo1, hi1, [])), (2, (0, hi2, [])), (3, (-2147483648, 2147483647, []))], [], []) := fun n k c lo1 hi1 hi2 hc0 hc1 hc2 h1 h2 h3 h4 h5 => by
    refine ⟨cmE_bd (zbd_of (by omega) (by omega)) (zbd_of (by omega) (by omega)) hc0, fun q hq => ?_, fun q hq => (by cases hq), fun q hq => (by cases hq)⟩
    rcases List.mem_cons.mp hq with e | e
    · rw [e]; exact ⟨h1, h2, fun _ z => by cases z⟩
    · rcases List.mem_cons.mp e with e | e
      · rw [e]; exact ⟨by show (0 : Int) ≤ k; omega, h4, fun _ z => by cases z⟩
      · rcases List.mem_singleton.mp e with rfl
        exact ⟨hc1, hc2, fun _ z => by cases z⟩
  -- at the head
  have key : ∀ (N : Nat) (n k : Nat) (H : Heap) (locs : List Loc) (ls2 : Array Slot) (es2 : va_W), ((zar es 74 bN).toInt - (k : Int)).toNat < N → n ≤ 60 → (k : Int) ≤ (zar es 74 bN).toInt → kRun (zar es 77) ((zar es 74 bN).toInt - (k : Int)).toNat k n = some dE → va_P D vwCl es2 H → va_D (va_A es sz) es2 → va_S (va_A es sz) s.heap H locs → zCo zD0 ρ γ (fun _ => 0) [] es2 → zfrm [5184] es es2 → lv_has ls2 r.2.2.1 [(0, .ref (ρ 56)), (1, .int (Int32.ofInt n)), (2, .int (Int32.ofInt k))] → W p l e (zrmS (3, 107)) s m [Value.ref (ρ 56)].toArray below meth c H locs 0 0 (MQ below (zQs zD0 D ρ γ sm_comes.2.2.2.1 sm_comes.2.2.2.2.1 sm_comes.2.2.2.2.2.2.2 g es sz) [Value.ref (ρ 56)].toArray s 0 0 (va_A es sz)) (F0 m 12 ls2 []) := by
    intro N
    induction N with
    | zero => intro n k H locs ls2 es2 h; exact absurd h (Nat.not_lt_zero _)
    | succ N ih =>
      intro n k H locs ls2 es2 hN hn hk hrun hP2 hD2 hS2 hC2 hf2 hl2
      -- from a branch back to the head
      have step : ∀ (pc0 : Nat) (dn lo1 hi1 cw : Int) (n2 : Nat) (H : Heap) (locs : List Loc) (ls2 : Array Slot) (es2 : va_W), cmRun (cmHd dn) [12] pc0 [(0, .inr (.inl (some 56))), (1, .inl (zsym 1)), (2, .inl (zsym 2)), (3, .inl (zsym 3))] [(1, (lo1, hi1, [])), (2, (0, 1118, [])), (3, (-2147483648, 2147483647, []))] = true → (n2 : Int) = n + dn → lo1 ≤ n → (n : Int) ≤ hi1 → hi1 ≤ 60 → n2 ≤ 60 → -2147483648 ≤ cw → cw ≤ 2147483647 → (k : Int) < (zar es 74 bN).toInt → kRun (zar es 77) ((zar es 74 bN).toInt - ((k + 1 : Nat) : Int)).toNat (k + 1) n2 = some dE → va_P D vwCl es2 H → va_D (va_A es sz) es2 → va_S (va_A es sz) s.heap H locs → zCo zD0 ρ γ (fun _ => 0) [] es2 → zfrm [5184] es es2 → lv_has ls2 r.2.2.1 (zdL ρ (cmE n k cw) [(0, .inr (.inl (some 56))), (1, .inl (zsym 1)), (2, .inl (zsym 2)), (3, .inl (zsym 3))]) → W p l e (zrmS (3, 107)) s m [Value.ref (ρ 56)].toArray below meth c H locs 0 0 (MQ below (zQs zD0 D ρ γ sm_comes.2.2.2.1 sm_comes.2.2.2.2.1 sm_comes.2.2.2.2.2.2.2 g es sz) [Value.ref (ρ 56)].toArray s 0 0 (va_A es sz)) (F0 m pc0 ls2 []) := by
        intro pc0 dn lo1 hi1 cw n2 H locs ls2 es2 hc e2 h1 h2 h3 h4 c1 c2 hlt hrun2 hP2 hD2 hS2 hC2 hf2 hl2
        unfold cmRun at hc
        rw [hrow] at hc
        refine zseg (ρ := ρ) (γ := γ) (η := cmE n k cw) (sk := []) B (noHS es2) hc hP2 hD2 hS2 hl2 (hsat n k cw lo1 hi1 1118 (zbd_of c1 c2) c1 c2 h1 h2 h3 (by omega) (by omega)) (zCo.env hC2) ?_ (fun pc v lo ca fa nf η3 H locs ls es3 V q1 q2 => hfin _ _ _ pc v lo ca fa nf η3 H locs ls es2 es3 rfl hf2 V q1 q2)
        intro pc lo sk ca fa nf η3 H3 locs3 ls3 es3 hpc hhk V3
        have hpc : pc = 12 := by
          unfold xmN at hpc
          cases e : Nat.beq 12 pc with
          | true => exact (Nat.eq_of_beq_eq_true e).symm
          | false => rw [e] at hpc; cases hpc
        subst hpc
        unfold cmHd at hhk
        simp only [Bool.and_eq_true] at hhk
        obtain ⟨k1, k2, k3, k4, k5⟩ := hhk
        have hsk : sk = [] := by
          cases sk with
          | nil => rfl
          | cons a t => cases k1
        subst hsk
        have l0 := hRf_ok k3
        obtain ⟨x1, l1, v1⟩ := hI_ok k4
        obtain ⟨x2, l2, v2⟩ := hI_ok k5
        have g1 : η3 1 = (n : Int) := V3.2.2.2.2.2.2.1 1 (by decide)
        have g2 : η3 2 = (k : Int) := V3.2.2.2.2.2.2.1 2 (by decide)
        refine ih n2 (k + 1) H3 locs3 ls3 es3 (by omega) h4 (by omega) hrun2 V3.1 V3.2.1 V3.2.2.1 (zCo.flush V3.2.2.2.2.1 V3.2.2.2.2.2.2.2.1 k2 _) (zfrm.trans (w1 := [5184]) (w2 := [5184]) hf2 V3.2.2.2.2.2.2.2.2 (by decide)) ?_
        rw [← hlocs n2 (k + 1) 0]
        refine lvh V3.2.2.2.1 (fun q hq => ?_)
        rcases List.mem_cons.mp hq with e | e
        · rw [e]; exact ⟨_, l0, rfl⟩
        · rcases List.mem_cons.mp e with e | e
          · rw [e]
            refine ⟨_, l1, zv_int ?_⟩
            rw [v1]
            show 1 * η3 1 + dn = 1 * (n2 : Int) + 0
            omega
          · rcases List.mem_singleton.mp e with rfl
            refine ⟨_, l2, zv_int ?_⟩
            rw [v2]
            show 1 * η3 2 + 1 = 1 * ((k + 1 : Nat) : Int) + 0
            omega
      have hc := cm_12
      unfold cmRun at hc
      rw [hrow] at hc
      refine zseg (ρ := ρ) (γ := γ) (η := cmE n k 0) (sk := []) B (noHS es2) hc hP2 hD2 hS2 (by rw [hlocs]; exact hl2) ?_ (zCo.env hC2) ?_ (fun pc v lo ca fa nf η3 H locs ls es3 V h1 h2 => hfin _ _ _ pc v lo ca fa nf η3 H locs ls es2 es3 rfl hf2 V h1 h2)
      · obtain ⟨a1, a2, a3, a4⟩ := hsat n k 0 0 60 1119 (zbd_of (by decide) (by decide)) (by decide) (by decide) (by omega) (by omega) (by decide) (by omega) (by decide)
        exact ⟨a1, fun q hq => a2 q (by
          rcases List.mem_cons.mp hq with e | e
          · rw [e]; exact List.mem_cons_self
          · rcases List.mem_singleton.mp e with rfl
            exact List.mem_cons_of_mem _ List.mem_cons_self), a3, a4⟩
      intro pc lo sk ca fa nf η3 H3 locs3 ls3 es3 hpc hhk V3
      unfold cmHb at hhk
      simp only [Bool.and_eq_true] at hhk
      obtain ⟨k1, k2, k3, k4, k5, k6, k7, k8⟩ := hhk
      have hsk : sk = [] := by
        cases sk with
        | nil => rfl
        | cons a t => cases k1
      subst hsk
      have hC3 := zCo.flush V3.2.2.2.2.1 V3.2.2.2.2.2.2.2.1 k2 (fun _ => 0)
      have hf3 : zfrm [5184] es es3 := zfrm.trans hf2 V3.2.2.2.2.2.2.2.2 (by decide)
      have l0 := hRf_ok k3
      obtain ⟨x1, l1, v1⟩ := hI_ok k4
      obtain ⟨x2, l2, v2⟩ := hI_ok k5
      obtain ⟨x3, y3, l3, c3, v3⟩ := hSm_ok k6
      have g1 : η3 1 = (n : Int) := V3.2.2.2.2.2.2.1 1 (by decide)
      have g2 : η3 2 = (k : Int) := V3.2.2.2.2.2.2.1 2 (by decide)
      have z2 : zd η3 (zsym 2) = (k : Int) := by show 1 * η3 2 + 0 = _; rw [g2]; omega
      have z1 : zd η3 (zsym 1) = (n : Int) := by show 1 * η3 1 + 0 = _; rw [g1]; omega
      -- the code's word
      obtain ⟨w, w1, w2⟩ := zcA_some (η := η3) c3
      have h8 : zav es3 77 (zd η3 w).toNat = some (.int (zi η3 y3)) := (V3.2.2.2.2.2.2.2.1.2.2.2.2 _ w1).1
      rw [w2, z2] at h8
      have hcode : zar es 77 k = zi η3 x3 := by
        rw [← zar_kept hf3 (by decide), zav_zar (i := 77) (j := k) h8]
        unfold zi
        rw [v3 η3]
      -- k is less than its end
      have hlt : (k : Int) < (zar es 74 bN).toInt := by
        cases e4 : zcF 56 34 ca with
        | none => rw [e4] at k7; cases k7
        | some u =>
          rw [e4] at k7
          rcases u with u | u
          · dsimp only at k7
            cases e5 : zcA 74 u ca with
            | none => rw [e5] at k7; cases k7
            | some t =>
              rw [e5] at k7
              rcases t with t | t
              · dsimp only at k7
                rw [Bool.and_eq_true, Bool.and_eq_true] at k7
                have q1 := zlB_ok V3.2.2.2.2.1 k7.1
                have q2 := z32_ok V3.2.2.2.2.1 k7.2.1
                obtain ⟨w9, u1, u2⟩ := zcA_some (η := η3) e5
                have q7 : zav es3 74 (zd η3 w9).toNat = some (.int (zi η3 t)) := (V3.2.2.2.2.2.2.2.1.2.2.2.2 _ u1).1
                rw [u2, hbank es3 η3 fa ca u hf3 V3.2.2.2.2.1 V3.2.2.2.2.2.2.2.1.2.2.2.2 e4 k7.2.2, Int.toNat_natCast] at q7
                have q10 := zav_zar q7
                rw [zar_kept hf3 (by decide)] at q10
                rw [q10, q2]
                rw [z2] at q1
                exact q1
              · cases k7
          · cases k7
      obtain ⟨M, hM⟩ : ∃ M : Nat, ((zar es 74 bN).toInt - (k : Int)).toNat = M + 1 := ⟨((zar es 74 bN).toInt - (k : Int)).toNat - 1, by omega⟩
      rw [hM] at hrun
      obtain ⟨d2, o1, o2⟩ := kRun_one hrun
      have hM2 : ((zar es 74 bN).toInt - ((k + 1 : Nat) : Int)).toNat = M := by omega
      have hx3 : lv_has ls3 r.2.2.1 (zdL ρ (cmE n k (zd η3 x3)) [(0, .inr (.inl (some 56))), (1, .inl (zsym 1)), (2, .inl (zsym 2)), (3, .inl (zsym 3))]) := by
        refine lvh V3.2.2.2.1 (fun q hq => ?_)
        rcases List.mem_cons.mp hq with e | e
        · rw [e]; exact ⟨_, l0, rfl⟩
        · rcases List.mem_cons.mp e with e | e
          · rw [e]
            refine ⟨_, l1, zv_int ?_⟩
            rw [v1, z1]
            show (n : Int) = 1 * (n : Int) + 0
            omega
          · rcases List.mem_cons.mp e with e | e
            · rw [e]
              refine ⟨_, l2, zv_int ?_⟩
              rw [v2, z2]
              show (k : Int) = 1 * (k : Int) + 0
              omega
            · rcases List.mem_singleton.mp e with rfl
              refine ⟨_, l3, zv_int ?_⟩
              show zd η3 x3 = 1 * zd η3 x3 + 0
              omega
      rw [hcode] at o1
      have go : ∀ (pc0 : Nat) (dn lo1 hi1 : Int), cmRun (cmHd dn) [12] pc0 [(0, .inr (.inl (some 56))), (1, .inl (zsym 1)), (2, .inl (zsym 2)), (3, .inl (zsym 3))] [(1, (lo1, hi1, [])), (2, (0, 1118, [])), (3, (-2147483648, 2147483647, []))] = true → (d2 : Int) = n + dn → lo1 ≤ n → (n : Int) ≤ hi1 → hi1 ≤ 60 → d2 ≤ 60 → -2147483648 ≤ zd η3 x3 → zd η3 x3 ≤ 2147483647 → W p l e (zrmS (3, 107)) s m [Value.ref (ρ 56)].toArray below meth c H3 locs3 0 0 (MQ below (zQs zD0 D ρ γ sm_comes.2.2.2.1 sm_comes.2.2.2.2.1 sm_comes.2.2.2.2.2.2.2 g es sz) [Value.ref (ρ 56)].toArray s 0 0 (va_A es sz)) (F0 m pc0 ls3 []) := fun pc0 dn lo1 hi1 hc e2 h1 h2 h3 h4 c1 c2 => step pc0 dn lo1 hi1 (zd η3 x3) d2 H3 locs3 ls3 es3 hc e2 h1 h2 h3 h4 c1 c2 hlt (by rw [hM2]; exact o2) V3.1 V3.2.1 V3.2.2.1 hC3 hf3 hx3
      have hin : ∀ (a b : Int), hIn fa (zll lo 3) a b = true → a ≤ zd η3 x3 ∧ zd η3 x3 ≤ b ∧ (zi η3 x3).toInt = zd η3 x3 := fun a b h => by
        obtain ⟨x, q0, q1, q2, q3⟩ := hIn_ok V3.2.2.2.2.1 h
        rw [l3] at q0
        cases q0
        exact ⟨q1, q2, q3⟩
      have notL : ∀ y : Int, (zi η3 x3).toInt = y → y ≠ 126 → (y ≤ 96 ∨ 123 ≤ y) → ∃ d0, n = d0 + 2 ∧ d2 = d0 + 1 := fun y hy h1 h2 => by
        unfold kOne kLet at o1
        rw [hy, decide_eq_false h1] at o1
        dsimp only at o1
        have h3 : (decide (97 ≤ y) && decide (y ≤ 122)) = false := by
          rcases h2 with h | h
          · rw [decide_eq_false (by omega)]; rfl
          · rw [Bool.and_eq_false_iff]
            exact Or.inr (decide_eq_false (by omega))
        rw [h3] at o1
        dsimp only at o1
        match n, o1 with
        | d0 + 2, h => exact ⟨d0, rfl, (Option.some.inj h).symm⟩
      match pc, k8 with
      | 38, k8 =>
        obtain ⟨q1, q2, q3⟩ := hin _ _ k8
        have hn1 : ∃ d0, n = d0 + 1 ∧ d2 = d0 + 1 := by
          unfold kOne at o1
          rw [q3, decide_eq_true (show zd η3 x3 = 126 by omega)] at o1
          dsimp only at o1
          match n, o1 with
          | d0 + 1, h => exact ⟨d0, rfl, (Option.some.inj h).symm⟩
        obtain ⟨d0, e1, e2⟩ := hn1
        exact go 38 0 1 60 cm_38 (by omega) (by omega) (by omega) (by decide) (by omega) (by omega) (by omega)
      | 72, k8 =>
        obtain ⟨q1, q2, q3⟩ := hin _ _ k8
        have hn1 : n < 60 ∧ d2 = n + 1 := by
          unfold kOne kLet at o1
          rw [q3, decide_eq_false (show ¬ zd η3 x3 = 126 by omega), decide_eq_true q1, decide_eq_true q2] at o1
          dsimp only [Bool.and_self] at o1
          by_cases h : n < 60
          · rw [decide_eq_true h] at o1
            exact ⟨h, (Option.some.inj o1).symm⟩
          · rw [decide_eq_false h] at o1
            cases o1
        exact go 72 1 0 59 cm_72 (by omega) (by omega) (by omega) (by decide) (by omega) (by omega) (by omega)
      | 95, k8 =>
        have k8 : (hIn fa (zll lo 3) (-2147483648) 96 || (hIn fa (zll lo 3) 123 2147483647 && hNe fa (zll lo 3) 126)) = true := k8
        rw [Bool.or_eq_true, Bool.and_eq_true] at k8
        have hb3 := i32_bd (zi η3 x3)
        have fin95 : ∀ y : Int, (zi η3 x3).toInt = y → zd η3 x3 = y → y ≠ 126 → (y ≤ 96 ∨ 123 ≤ y) → W p l e (zrmS (3, 107)) s m [Value.ref (ρ 56)].toArray below meth c H3 locs3 0 0 (MQ below (zQs zD0 D ρ γ sm_comes.2.2.2.1 sm_comes.2.2.2.2.1 sm_comes.2.2.2.2.2.2.2 g es sz) [Value.ref (ρ 56)].toArray s 0 0 (va_A es sz)) (F0 m 95 ls3 []) := fun y hy hz h1 h2 => by
          obtain ⟨d0, e1, e2⟩ := notL y hy h1 h2
          exact go 95 (-1) 2 60 cm_95 (by omega) (by omega) (by omega) (by decide) (by omega) (by omega) (by omega)
        rcases k8 with k8 | k8
        · obtain ⟨q1, q2, q3⟩ := hin _ _ k8
          exact fin95 _ q3 rfl (by omega) (Or.inl (by omega))
        · obtain ⟨q1, q2, q3⟩ := hin _ _ k8.1
          obtain ⟨x, q4, q5⟩ := hNe_ok V3.2.2.2.2.1 k8.2
          rw [l3] at q4
          cases q4
          exact fin95 _ q3 rfl q5 (Or.inr (by omega))
  -- the entry
  have hc := cm_0
  unfold cmRun at hc
  rw [hrow] at hc
  refine zseg (ρ := ρ) (γ := γ) (η := fun _ => 0) (sk := []) B (noHS es) hc hP hD va_S.rf hl ⟨fun _ => (show zbd 0 from ⟨by decide, by decide⟩), fun q hq => (by cases hq), fun q hq => (by cases hq), fun q hq => (by cases hq)⟩ hco ?_ (fun pc v lo ca fa nf η3 H locs ls es3 V h1 h2 => hfin _ _ _ pc v lo ca fa nf η3 H locs ls es es3 rfl (zfrm.refl _ _) V h1 h2)
  intro pc lo sk ca fa nf η3 H3 locs3 ls3 es3 hpc hhk V3
  have hpc : pc = 12 := by
    unfold xmN at hpc
    cases e : Nat.beq 12 pc with
    | true => exact (Nat.eq_of_beq_eq_true e).symm
    | false => rw [e] at hpc; cases hpc
  subst hpc
  unfold cmHk at hhk
  simp only [Bool.and_eq_true] at hhk
  obtain ⟨k1, k2, k3, k4⟩ := hhk
  have hsk : sk = [] := by
    cases sk with
    | nil => rfl
    | cons a t => cases k1
  subst hsk
  have hC3 := zCo.flush V3.2.2.2.2.1 V3.2.2.2.2.2.2.2.1 k2 (fun _ => 0)
  have hf3 := V3.2.2.2.2.2.2.2.2
  have l0 := hRf_ok k3
  cases e4 : zcF 56 34 ca with
  | none => rw [e4] at k4; cases k4
  | some u =>
    rw [e4] at k4
    rcases u with u | u
    · dsimp only at k4
      rw [Bool.and_eq_true, Bool.and_eq_true, Bool.and_eq_true] at k4
      obtain ⟨k4, k5, k6, k7⟩ := k4
      obtain ⟨x1, l1, v1⟩ := hI_ok k5
      obtain ⟨x2, y2, l2, c2, v2⟩ := hSm_ok k6
      obtain ⟨x9, l9, b1, b2, b3⟩ := hIn_ok V3.2.2.2.2.1 k7
      rw [l2] at l9
      cases l9
      obtain ⟨w9, u1, u2⟩ := zcA_some (η := η3) c2
      have q7 : zav es3 73 (zd η3 w9).toNat = some (.int (zi η3 y2)) := (V3.2.2.2.2.2.2.2.1.2.2.2.2 _ u1).1
      rw [u2, hbank es3 η3 fa ca u hf3 V3.2.2.2.2.1 V3.2.2.2.2.2.2.2.1.2.2.2.2 e4 k4, Int.toNat_natCast] at q7
      have q10 := zav_zar q7
      rw [zar_kept hf3 (by decide)] at q10
      have q11 : zi η3 y2 = zi η3 x2 := by unfold zi; rw [v2 η3]
      have q12 : (zar es 73 bN).toInt = zd η3 x2 := by rw [q10, q11, b3]
      obtain ⟨kN, hkN⟩ : ∃ kN : Nat, (zar es 73 bN).toInt = (kN : Int) := ⟨(zar es 73 bN).toInt.toNat, by omega⟩
      rw [hkN, Int.toNat_natCast] at s4
      refine key (((zar es 74 bN).toInt - (kN : Int)).toNat + 1) 0 kN H3 locs3 ls3 es3 (Nat.lt_succ_self _) (Nat.zero_le _) (by omega) s4 V3.1 V3.2.1 V3.2.2.1 hC3 hf3 ?_
      rw [← hlocs 0 kN 0]
      refine lvh V3.2.2.2.1 (fun q hq => ?_)
      rcases List.mem_cons.mp hq with e | e
      · rw [e]; exact ⟨_, l0, rfl⟩
      · rcases List.mem_cons.mp e with e | e
        · rw [e]
          refine ⟨_, l1, zv_int ?_⟩
          rw [v1]
          show (0 : Int) = 1 * ((0 : Nat) : Int) + 0
          omega
        · rcases List.mem_singleton.mp e with rfl
          refine ⟨_, l2, zv_int ?_⟩
          show zd η3 x2 = 1 * (kN : Int) + 0
          omega
    · cases k4
