/-! By hand: a contract, a call of it, an int array's store. -/
def zQh (T : zTb) (D : va_G) (ρ : Nat → Nat) (γ : Nat → ClassId) (es : va_W) (sz : Nat) (R : Option Value → va_W → Prop) : Array Value → State → Outcome → State → Prop := fun _ st oc t => (∃ (v2 : Option Value) (es2 : va_W), oc = .returned v2 ∧ va_P D vwCl es2 t.heap ∧ va_K D vwCl [] t ∧ va_D (va_A es sz) es2 ∧ zCo T ρ γ (fun _ => 0) [] es2 ∧ R v2 es2) ∧ va_F (va_A es sz) st t
def zHM (T : zTb) (D : va_G) (l : Launch) (i : Nat) (rm : Nat × Nat) (ρ : Nat → Nat) (γ : Nat → ClassId) (es : va_W) (vs : List Value) (R : Option Value → va_W → Prop) : Prop := ∀ (r : xR), (gt xmt i).bind xrow = some r → ∀ (sz : Nat), Met l r.1 (Jvm.Cond.code r.1 r.2.1 r.2.2.1 r.2.2.2.1 :: xGd) (zrmS rm) (zPs T D γ es vs sz) (zQh T D ρ γ es sz R) 0 0 (va_A es sz)
set_option maxHeartbeats 1000000 in
theorem zcallQ {T : zTb} {D : va_G} {l : Launch} {ρ : Nat → Nat} {γ : Nat → ClassId} {r : xR} {p : Program} {e : Env} {s : State} {m : MethodId} {args : Array Value} {below : List Frame} {meth : Method} {c : Code} {A : Nat → Prop} {Q : State → Prop} (B : zBs T D l γ r p s m args c A) {pc : Nat} {H : Heap} {locs : List Loc} {ls : Array Slot} {es : va_W} (hP : va_P D vwCl es H) (hD : va_D A es) (hS : va_S A s.heap H locs) (hls : ls.size = r.2.2.1) (hC : zCo T ρ γ (fun _ => 0) [] es) {x mi g1 g2 g3 : Nat} (hx : xfi r.2.2.2.2.2.2.2 pc = some (.invokevirtual x, 3)) (hl : xfi (xml r.2.2.2.2.1) x = some (0, mi, g1, g2, g3)) {r2 : xR} (hr : (gt xmt mi).bind xrow = some r2) {i0 : Nat} {fs : List zF} (hi : T.2.1[i0]? = some (.inr (r2.2.2.2.2.1, fs))) {As rs : List Value} (hAs : As.length = r2.2.2.2.2.2.2.1) (hrs : (rs.map fun v => v.category).sum ≤ 8) {rm : Nat × Nat} (hR : rm.1 + 1 ≤ (xrm r).frames ∧ 8 + (r2.2.2.1 + 11) + rm.2 ≤ (xrm r).locals) {Qc : Array Value → State → Outcome → State → Prop}
    (hM : Met l r2.1 (Jvm.Cond.code r2.1 r2.2.1 r2.2.2.1 r2.2.2.2.1 :: xGd) (zrmS rm) (zPs T D γ es (.ref (ρ i0) :: As) H.size) Qc 0 0 (va_A es H.size)) (hF : ∀ st oc t, Qc (.ref (ρ i0) :: As).toArray st oc t → va_F (va_A es H.size) st t)
    (kk : ∀ (v : Option Value) (st t : State) (H1 : Heap) (locs1 : List Loc), t.heap = H1 → Qc (.ref (ρ i0) :: As).toArray st (.returned v) t → va_S A s.heap H1 locs1 → W p l e (xrm r) s m args below meth c H1 locs1 0 0 Q (F0 m (pc + 3) ls (v.toList ++ rs))) :
    W p l e (xrm r) s m args below meth c H locs 0 0 Q (F0 m pc ls (As.reverse ++ .ref (ρ i0) :: rs)) := by
  obtain ⟨c1, c2, c3, c4, c5, c6, c7, c8, c9, c10, c11⟩ := B
  have hd : decode r.2.1 pc = .ok (.invokevirtual x, 3) := c8 (pc, _) (xfi_ok hx)
  have hw := xlk_0 (xml_ok (xfi_ok hl)) hr
  rw [Bool.and_eq_true, Bool.and_eq_true] at hw
  obtain ⟨b1, b2, b3, b4, b5, b6, b7⟩ := xrow_ok hr
  have hFc : ∀ q, va_A es H.size q → A q := by
    intro q hq
    rcases hq with ⟨k, e9, hk⟩ | hq
    · exact hD.2 k (q, e9) hk
    · exact c7 q (Nat.le_trans hS.1 hq)
  have hp : PreS s H (zPs T D γ es (.ref (ρ i0) :: As) H.size) (.ref (ρ i0) :: As) := ⟨fun a U g mk q => ⟨q.1, q.2.1, q.2.2.1, va_K.moved (u := U) (U := U.calling g mk a) (Vm.Alike.refl U.vm) q.2.2.2.1, q.2.2.2.2.1, hTz.moved (s := U) (t := U.calling g mk a) (Vm.Alike.refl U.vm) q.2.2.2.2.2.1, zStr.call (U := U) (V := U.calling g mk a) rfl rfl q.2.2.2.2.2.2⟩, fun U hU hW => ⟨rfl, by rw [hU], by rw [hU]; exact hP, va_K.moved hW.alike c6, hD.weaken (fun _ _ _ _ => trivial), hTz.moved hW.alike c9, zStr.at hW hU hS hFc c11⟩⟩
  obtain ⟨vs0, hes, -⟩ := hC.2.2.1 i0 _ fs hi
  obtain ⟨c91, c92, c93⟩ := hP i0 _ hes
  have hrun : va_Run p l e (xrm r) s m args below meth c H locs 0 0 0 0 (F0 m pc ls (As.reverse ++ .ref (ρ i0) :: rs)) rs (Qc (.ref (ρ i0) :: As).toArray) (va_A es H.size) := by
    refine va_runV (C := r2.1.cls) (As := As) (rest := rs) ⟨c1, c2, c3, c4, c5⟩ hM ⟨callB_of _ c5 (goodG b1) rfl rfl rfl (c5 _ b2) (c5 _ (inG _ (of_decide_eq_true hw.1) rfl)) ⟨b6.1, b6.2, b4⟩ hR, c5 _ (inG _ (of_decide_eq_true hw.2.1) rfl), c5 _ (inG _ (of_decide_eq_true hw.2.2) rfl)⟩ ⟨hp.1, ?_, hp.2⟩ rfl hAs hls rfl (lv_room hrs) hd ⟨Nat.zero_le _, Nat.zero_le _⟩
    obtain ⟨cell, d1, d2, d3⟩ := va_recv c6 hP c92 hes
    exact ⟨cell, d1, d2, by rw [b3, ← nm_ok c92]; exact d3⟩
  exact va_callg (A0 := A) (A1 := va_A es H.size) hrun hS (fun q _ h => hFc q h) hFc hF (fun v st t H1 locs1 ht _ hq hS1 => kk v st t H1 locs1 ht hq hS1)
set_option maxHeartbeats 1000000 in
theorem zcallH {T : zTb} {D : va_G} {l : Launch} {ρ : Nat → Nat} {γ : Nat → ClassId} {r : xR} {p : Program} {e : Env} {s : State} {m : MethodId} {args : Array Value} {below : List Frame} {meth : Method} {c : Code} {A : Nat → Prop} {Q : State → Prop} (B : zBs T D l γ r p s m args c A) {pc : Nat} {H : Heap} {locs : List Loc} {ls : Array Slot} {es : va_W} (hP : va_P D vwCl es H) (hD : va_D A es) (hS : va_S A s.heap H locs) (hls : ls.size = r.2.2.1) (hC : zCo T ρ γ (fun _ => 0) [] es) {x mi g1 g2 g3 : Nat} (hx : xfi r.2.2.2.2.2.2.2 pc = some (.invokevirtual x, 3)) (hl : xfi (xml r.2.2.2.2.1) x = some (0, mi, g1, g2, g3)) {r2 : xR} (hr : (gt xmt mi).bind xrow = some r2) {i0 : Nat} {fs : List zF} (hi : T.2.1[i0]? = some (.inr (r2.2.2.2.2.1, fs))) {As rs : List Value} (hAs : As.length = r2.2.2.2.2.2.2.1) (hrs : (rs.map fun v => v.category).sum ≤ 8) {rm : Nat × Nat} (hR : rm.1 + 1 ≤ (xrm r).frames ∧ 8 + (r2.2.2.1 + 11) + rm.2 ≤ (xrm r).locals) {R : Option Value → va_W → Prop} (hM : zHM T D l mi rm ρ γ es (.ref (ρ i0) :: As) R)
    (kk : ∀ (v : Option Value) (es2 : va_W) (H1 : Heap) (locs1 : List Loc), va_P D vwCl es2 H1 → va_D A es2 → va_S A s.heap H1 locs1 → zCo T ρ γ (fun _ => 0) [] es2 → R v es2 → W p l e (xrm r) s m args below meth c H1 locs1 0 0 Q (F0 m (pc + 3) ls (v.toList ++ rs))) :
    W p l e (xrm r) s m args below meth c H locs 0 0 Q (F0 m pc ls (As.reverse ++ .ref (ρ i0) :: rs)) := by
  have hFc : ∀ q, va_A es H.size q → A q := by
    intro q hq
    rcases hq with ⟨k, e9, hk⟩ | hq
    · exact hD.2 k (q, e9) hk
    · exact B.2.2.2.2.2.2.1 q (Nat.le_trans hS.1 hq)
  refine zcallQ B hP hD hS hls hC hx hl hr hi hAs hrs hR (hM r2 hr H.size) (fun _ _ _ z => z.2) (fun v st t H1 locs1 ht hq hS1 => ?_)
  obtain ⟨⟨v2, es2, ev, h1, h2, h3, h4, h5⟩, -⟩ := hq
  cases ev
  rw [ht] at h1
  exact kk v es2 H1 locs1 h1 (h3.weaken (fun _ _ _ z => hFc _ z)) hS1 h4 h5
set_option maxHeartbeats 1000000 in
/-- an int's store, exactly -/
theorem zstoreH {T : zTb} {D : va_G} {l : Launch} {ρ : Nat → Nat} {γ : Nat → ClassId} {r : xR} {p : Program} {e : Env} {s : State} {m : MethodId} {args : Array Value} {below : List Frame} {meth : Method} {c : Code} {A : Nat → Prop} {Q : State → Prop} (B : zBs T D l γ r p s m args c A) {pc : Nat} {H : Heap} {locs : List Loc} {ls : Array Slot} {es : va_W} (hP : va_P D vwCl es H) (hD : va_D A es) (hS : va_S A s.heap H locs) (hC : zCo T ρ γ (fun _ => 0) [] es) (hx : xfi r.2.2.2.2.2.2.2 pc = some (.iastore, 1)) {i n : Nat} {q : Int × Int} (hi : T.2.1[i]? = some (.inl (.int, n, [q]))) {ix v : Int32} {rs : List Value} (h0 : 0 ≤ ix.toInt) (h1 : ix.toInt < n) (hv : inR q v)
    (kk : ∀ (es2 : va_W) (H1 : Heap) (locs1 : List Loc), es2 = es.set i (ρ i, .inl (γ i, n, .inl (upd (zar es i) ix.toInt.toNat v))) → va_P D vwCl es2 H1 → va_D A es2 → va_S A s.heap H1 locs1 → zCo T ρ γ (fun _ => 0) [] es2 → zar es2 i = upd (zar es i) ix.toInt.toNat v → (∀ j, j ≠ i → es2[j]? = es[j]?) → W p l e (xrm r) s m args below meth c H1 locs1 0 0 Q (F0 m (pc + 1) ls rs)) :
    W p l e (xrm r) s m args below meth c H locs 0 0 Q (F0 m pc ls (.int v :: .int ix :: .ref (ρ i) :: rs)) := by
  obtain ⟨c1, c2, c3, c4, c5, c6, c7, c8, c9, c10, c11⟩ := B
  have hd : decode r.2.1 pc = .ok (.iastore, 1) := c8 (pc, _) (xfi_ok hx)
  obtain ⟨f, h6, hR⟩ := hC.1 i .int n [q] hi (by decide)
  have hf : zar es i = f := by unfold zar; rw [h6]
  have hl : i < es.length := (List.getElem?_eq_some_iff.mp h6).1
  have hk := kArr c6 (c9 i .int n [q] hi)
  have hin : vp_in ix n := fun z => by
    rcases z with z | z
    · rw [Int32.lt_iff_toInt_lt] at z
      have z : ix.toInt < 0 := z
      omega
    · have z : n ≤ ix.toInt.toNat := z
      omega
  refine va_iast (D := D) (cl := vwCl) c1 c2 hk hP hD hS i 0 h6 rfl hin hd ?_
  intro H1 locs1 hP1 hD1 hS1
  have hz : ∀ j, zrj [q] j = q := fun j => by
    unfold zrj
    rw [gt_eq]
    have e7 : j % [q].length = 0 := Nat.mod_one _
    rw [e7]
    rfl
  have hc := zCo.setA (cx := []) (f := upd f ix.toInt.toNat v) hC hi (by decide) hl (fun _ z => by cases z) (fun j hj => Or.inr (by
    rw [hz]
    unfold upd
    split
    · exact hv
    · rcases hR j hj with ⟨a, b, z, -⟩ | z
      · cases z
      · rw [hz] at z; exact z))
  have e2 : es.set i (ρ i, .inl (γ i, n, .inl (upd f ix.toInt.toNat v))) = es.set i (ρ i, .inl (γ i, n, .inl (upd (zar es i) ix.toInt.toNat v))) := by rw [hf]
  refine kk _ H1 locs1 e2 hP1 hD1 hS1 hc ?_ (fun j hj => by rw [List.getElem?_set, if_neg (fun z => hj z.symm)])
  unfold zar
  rw [List.getElem?_set, if_pos rfl, if_pos hl, h6]
