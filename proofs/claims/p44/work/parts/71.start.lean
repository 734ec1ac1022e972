theorem inst_all : vwCl.all (fun c => decide (Jvm.Cond.instantiable c.1 c.2.2 ∈ lw_tbl)) = true := by decide +kernel
def yShp (mi : Nat) (cells slots : Nat) : Bool := match (gt xmt mi).bind xrow with
  | some r => Nat.ble 1 r.2.2.1 && (Nat.beq r.2.2.2.2.2.2.1 0 && (Nat.ble ((xrm r).frames + 1) 2048 && (Nat.ble (8 + (r.2.2.1 + 11) + (xrm r).locals) 84000 && (Nat.beq (xrm r).cells cells && Nat.beq (xrm r).slots slots))))
  | none => false
theorem yShp_ok {mi k n : Nat} (h : yShp mi k n = true) : ∃ r : xR, (gt xmt mi).bind xrow = some r ∧ 1 ≤ r.2.2.1 ∧ r.2.2.2.2.2.2.1 = 0 ∧ ((xrm r).frames + 1 ≤ 2048 ∧ 8 + (r.2.2.1 + 11) + (xrm r).locals ≤ 84000) ∧ (xrm r).cells = k ∧ (xrm r).slots = n := by
  unfold yShp at h
  split at h
  · rename_i r e
    simp only [Bool.and_eq_true] at h
    obtain ⟨h1, h2, h3, h4, h5, h6⟩ := h
    exact ⟨r, e, Nat.le_of_ble_eq_true h1, Nat.eq_of_beq_eq_true h2, ⟨Nat.le_of_ble_eq_true h3, Nat.le_of_ble_eq_true h4⟩, Nat.eq_of_beq_eq_true h5, Nat.eq_of_beq_eq_true h6⟩
  · cases h
theorem ys_X : yShp 32 55 3581 = true := by decide +kernel
theorem ys_M : yShp 124 38 7144 = true := by decide +kernel
theorem yl_X : ∃ g1 g2 g3, xfi (xml 12) 9 = some (2, 32, g1, g2, g3) := ⟨_, _, _, rfl⟩
theorem yl_M : ∃ g1 g2 g3, xfi (xml 12) 12 = some (2, 124, g1, g2, g3) := ⟨_, _, _, rfl⟩
theorem yw_X : xwW xWX.length xWX = true := by decide +kernel
set_option maxHeartbeats 4000000 in
theorem y_start {p : Program} {e : Env} {s : State} {m : MethodId} {below : List Frame} {meth : Method} {c : Code} (l : Launch) {b L : Nat} {xs : Nat → Int32} (C0 : lw_At p s m meth c b L xs)
    (k18 : ∀ (D : va_G) (ρ : Nat → Nat) (γ : Nat → ClassId) (H : Heap) (locs : List Loc) (ls : Array Slot), va_K D vwCl [] s → ρ xz_SC = b → yV D s (fun q => s.heap.size ≤ q) H locs ρ γ xW1 → lv_has ls 4 [(3, .int 0), (2, .ref (ρ 56)), (1, .ref (ρ 0)), (0, .ref b)] → W p l e room_1 s m #[Value.ref b] below meth c H locs 95 10804 (lw_Z below #[Value.ref b] s) (F0 m 18 ls [])) :
    W p l e room_1 s m #[Value.ref b] below meth c s.heap [] 0 0 (lw_Z below #[Value.ref b] s) (entryFrame m ([Value.ref b] : List Value).toArray 4) := by
  obtain ⟨hx, hb, hr, hml, hown, hts, hX, hbl, hlocks, hgv⟩ := id C0
  have hch : ∀ ci : Nat, ∃ q : ClassId × (Nat → Nat), ∀ c : vw_C, vwCl[ci]? = some c → u_Kn s c.1 c.2.1 c.2.2 q.1 q.2 := by
    intro ci
    cases e1 : vwCl[ci]? with
    | none => exact ⟨(0, fun _ => 0), fun c h => by cases h⟩
    | some c =>
      obtain ⟨cC, iS, h⟩ := u_known (C := c.1) (T := c.2.1) (N := c.2.2) (n := c.2.2) hts (fun w hw => (List.mem_filter.mp (u_ok e1 w hw)).1) (hts _ (of_decide_eq_true (List.all_eq_true.mp inst_all c (List.mem_of_getElem? e1))))
      exact ⟨(cC, iS), fun c2 h2 => by cases h2; exact h⟩
  obtain ⟨f, hf⟩ := Classical.axiomOfChoice hch
  have hK : va_K ((fun ci => (f ci).1), (fun ci => (f ci).2)) vwCl [] s := ⟨fun ci q hq => hf ci q hq, fun k q h => by cases h⟩
  generalize (((fun ci => (f ci).1), (fun ci => (f ci).2)) : va_G) = D at hK
  have hl := lv_entry ([.ref b]) (n := 4) (Nat.le_of_ble_eq_true rfl)
  rw [lg_entry_eq]
  generalize (lg_sl ([.ref b]) ++ List.replicate (4 - (lg_sl ([.ref b])).length) Slot.unset).toArray = ls at hl ⊢
  have hP0 : va_P D vwCl (cw (xρ b) (fun _ => 0) s0 []) s.heap := fun k q h => by cases h
  have hD0 : va_D (fun q : Nat => s.heap.size ≤ q) (cw (xρ b) (fun _ => 0) s0 []) := ⟨fun i j p q h => (by cases h), fun k q h => (by cases h)⟩
  have C : yC D p s m #[Value.ref b] c (fun q => s.heap.size ≤ q) := by
    refine ⟨hx, hb, hml, hown, fun w hw => hts w (List.mem_filter.mp hw).1, hK, fun _ h => h, fun q hq => ?_⟩
    have h1 := List.all_eq_true.mp xne_all q hq
    exact va_Nw.of rfl (hts _ (List.mem_of_getElem? (of_decide_eq_true h1)))
  obtain ⟨rX, rX1, rX2, rX3, rX4, rX5, rX6⟩ := yShp_ok ys_X
  obtain ⟨rM, rM1, rM2, rM3, rM4, rM5, rM6⟩ := yShp_ok ys_M
  obtain ⟨x1, x2, x3, lX⟩ := yl_X
  obtain ⟨m1, m2, m3, lM⟩ := yl_M
  refine y_new (q := (10, 136, 137, 114)) (C1 := _) (T1 := _) (N1 := 18) C (ρ := xρ b) (γ := fun _ => 0) (w := []) ⟨fun _ _ _ _ h => (by cases h), hP0, hD0, va_S.rf⟩ (x := 7) (by decide +kernel) (by decide +kernel) rfl (by decide) (by decide) rfl (by decide) ?_
  intro ρ1 γ1 H1 ag1 V1
  refine lv_dup hx hb (by decide +kernel) rfl ?_
  refine y_init C V1 hl.1 (x := 9) (by decide +kernel) lX rX1 rX2 rX3 (Nat.le_of_ble_eq_true rfl) rX4 ⟨by rw [rX5]; decide, by rw [rX6]; decide⟩ yr_X ?_
  intro ρ2 γ2 H2 locs2 ag2 V2
  rw [rX5, rX6]
  refine lv_astore_n hx hb (k := 1) (by decide +kernel) rfl hl (by decide) rfl ?_
  intro ls2 hl2
  refine y_new (q := (11, 1278, 1279, 127)) (C1 := _) (T1 := _) (N1 := 61) C V2 (x := 10) (by decide +kernel) (by decide +kernel) rfl (by decide) (by decide) yw_X (by decide) ?_
  intro ρ3 γ3 H3 ag3 V3
  refine lv_dup hx hb (by decide +kernel) rfl ?_
  refine y_init C V3 hl2.1 (x := 12) (by decide +kernel) lM rM1 rM2 rM3 (Nat.le_of_ble_eq_true rfl) rM4 ⟨by rw [rM5]; decide, by rw [rM6]; decide⟩ yr_M ?_
  intro ρ4 γ4 H4 locs4 ag4 V4
  rw [rM5, rM6]
  refine lv_astore_n hx hb (k := 2) (by decide +kernel) rfl hl2 (by decide) rfl ?_
  intro ls3 hl3
  refine lv_iconst hx hb (n := 0) (by decide +kernel) rfl ?_
  refine lv_istore_n hx hb (k := 3) (by decide +kernel) rfl hl3 (by decide) rfl ?_
  intro ls4 hl4
  have e0 : ρ1 0 = ρ4 0 := by
    rw [ag4 0 (Or.inl (by decide)), ag3 0 (Or.inl (by decide)), ag2 0 (Or.inl (by decide))]
  have e56 : ρ3 56 = ρ4 56 := (ag4 56 (Or.inl (by decide))).symm
  have eS : ρ4 xz_SC = b := by
    rw [ag4 xz_SC (Or.inr rfl), ag3 xz_SC (Or.inr rfl), ag2 xz_SC (Or.inr rfl), ag1 xz_SC (Or.inr rfl), xρ_SC]
  refine k18 D ρ4 γ4 H4 locs4 ls4 hK eS V4 ?_
  rw [← e0, ← e56]
  exact hl4
