theorem zmin_ok {x a b : Int} (h1 : x ≤ a) (h2 : x ≤ b) : x ≤ zmin a b := by
  unfold zmin
  cases decide (a ≤ b) <;> assumption
theorem zmax_ok {x a b : Int} (h1 : a ≤ x) (h2 : b ≤ x) : zmax a b ≤ x := by
  unfold zmax
  cases decide (a ≤ b) <;> assumption
theorem zr0_ok {η : zE} (hb : ∀ k, zbd (η k)) (k : Nat) : ∀ (fs : List (Nat × zG)), (∀ q ∈ fs, zgs (η q.1) q.2) → zgs (η k) (zr0 fs k) := by
  intro fs
  induction fs with
  | nil =>
    intro _
    exact ⟨(hb k).1, (hb k).2, fun n h => by cases h⟩
  | cons q t ih =>
    intro h
    obtain ⟨j, g⟩ := q
    unfold zr0
    cases hj : Nat.beq j k with
    | true =>
      have e2 : j = k := Nat.eq_of_beq_eq_true hj
      rw [← e2]
      exact h _ List.mem_cons_self
    | false => exact ih (fun q hq => h q (List.mem_cons_of_mem _ hq))
theorem zrR_ok {η : zE} (hb : ∀ k, zbd (η k)) (k : Nat) {fs : List (Nat × zG)} (hfs : ∀ q ∈ fs, zgs (η q.1) q.2) : ∀ (rs : List zRl) (g : zG), (∀ q ∈ rs, zrs η q) → zgs (η k) g → zgs (η k) (zrR fs rs k g) := by
  intro rs
  induction rs with
  | nil => intro g _ hg; exact hg
  | cons q t ih =>
    intro g hr hg
    obtain ⟨sg, a, b, c⟩ := q
    have hab : zrs η (sg, a, b, c) := hr _ List.mem_cons_self
    have hA := zr0_ok hb a fs hfs
    have hB := zr0_ok hb b fs hfs
    have hr' : ∀ q ∈ t, zrs η q := fun q hq => hr q (List.mem_cons_of_mem _ hq)
    cases sg with
    | true =>
      have hab : η a + η b ≤ c := hab
      unfold zrR
      refine ih _ hr' ?_
      cases ha : Nat.beq a k with
      | true =>
        have e2 : a = k := Nat.eq_of_beq_eq_true ha
        subst e2
        exact ⟨hg.1, zmin_ok hg.2.1 (by have := hB.1; omega), hg.2.2⟩
      | false =>
        dsimp only
        cases hb2 : Nat.beq b k with
        | true =>
          have e2 : b = k := Nat.eq_of_beq_eq_true hb2
          subst e2
          exact ⟨hg.1, zmin_ok hg.2.1 (by have := hA.1; omega), hg.2.2⟩
        | false => exact hg
    | false =>
      have hab : η a - η b ≤ c := hab
      unfold zrR
      refine ih _ hr' ?_
      cases ha : Nat.beq a k with
      | true =>
        have e2 : a = k := Nat.eq_of_beq_eq_true ha
        subst e2
        exact ⟨hg.1, zmin_ok hg.2.1 (by have := hB.2.1; omega), hg.2.2⟩
      | false =>
        dsimp only
        cases hb2 : Nat.beq b k with
        | true =>
          have e2 : b = k := Nat.eq_of_beq_eq_true hb2
          subst e2
          exact ⟨zmax_ok hg.1 (by have := hA.1; omega), hg.2.1, hg.2.2⟩
        | false => exact hg
theorem zr_ok {η : zE} {fa : zFa} (h : zsat η fa) (k : Nat) : zgs (η k) (zr fa k) := zrR_ok h.1 k h.2.1 fa.2.1 _ h.2.2.1 (zr0_ok h.1 k fa.1 h.2.1)
theorem zrg_ok {η : zE} {fa : zFa} (h : zsat η fa) (v : zI) : (zrg fa v).1 ≤ zd η v ∧ zd η v ≤ (zrg fa v).2 := by
  rcases v with z | ⟨k, m, c⟩
  · exact ⟨Int.le_refl _, Int.le_refl _⟩
  · obtain ⟨g1, g2, -⟩ := zr_ok h k
    dsimp only [zrg]
    by_cases hm : 0 ≤ m
    · rw [decide_eq_true hm]
      have a := Int.mul_le_mul_of_nonneg_left g1 hm
      have b := Int.mul_le_mul_of_nonneg_left g2 hm
      dsimp only [zd]
      constructor <;> omega
    · rw [decide_eq_false hm]
      have a := Int.mul_le_mul_of_nonpos_left (a := m) (by omega) g1
      have b := Int.mul_le_mul_of_nonpos_left (a := m) (by omega) g2
      dsimp only [zd]
      constructor <;> omega
theorem zrk_eq (fa : zFa) (v : zI) (K : Int → Int → Bool) : zrk fa v K = K (zrg fa v).1 (zrg fa v).2 := by
  unfold zrk
  generalize zrg fa v = q
  obtain ⟨a, b⟩ := q
  simp [fZ_eq]
theorem zset_ok {η : zE} {fa : zFa} {k : Nat} {lo hi : Int} {nes : List Int} {K : zFa → Bool} (h : zset fa k lo hi nes K = true) (hs : zsat η fa) (h1 : lo ≤ η k) (h2 : η k ≤ hi) (h3 : ∀ n ∈ nes, η k ≠ n) : ∃ fa', zsat η fa' ∧ K fa' = true := by
  unfold zset at h
  rw [fZ_eq, fZ_eq] at h
  have a1 := xup_ok (xup_ok h1 h3) h3
  have a2 := xdn_ok (xdn_ok h2 h3) h3
  rw [decide_eq_false (by omega)] at h
  dsimp only at h
  refine ⟨((k, xup nes (xup nes lo), xdn nes (xdn nes hi), nes) :: fa.fst, fa.snd), ⟨hs.1, fun q hq => ?_, hs.2.2⟩, h⟩
  rcases List.mem_cons.mp hq with e | e
  · rw [e]; exact ⟨a1, a2, h3⟩
  · exact hs.2.1 q e
theorem zrel_ok {η : zE} {j k : Nat} {d : Int} : ∀ l : List zRl, (∀ q ∈ l, zrs η q) → zrel l j k d = true → η j - η k ≤ d := by
  intro l
  induction l with
  | nil => intro _ h; cases h
  | cons q t ih =>
    obtain ⟨sg, a, b, c⟩ := q
    intro hq h
    unfold zrel at h
    cases e : !sg && (Nat.beq a j && (Nat.beq b k && decide (c ≤ d))) with
    | true =>
      rw [Bool.and_eq_true, Bool.and_eq_true, Bool.and_eq_true, decide_eq_true_eq] at e
      obtain ⟨e1, e2, e3, e4⟩ := e
      cases sg with
      | true => cases e1
      | false =>
        have h9 : η a - η b ≤ c := hq _ List.mem_cons_self
        rw [← Nat.eq_of_beq_eq_true e2, ← Nat.eq_of_beq_eq_true e3]
        omega
    | false =>
      rw [e] at h
      exact ih (fun q h9 => hq q (List.mem_cons_of_mem _ h9)) h
theorem zd_ad (η : zE) (v : zI) (z : Int) : zd η (zad v z) = zd η v + z := by
  rcases v with x | ⟨k, m, c⟩
  · rfl
  · show m * η k + (c + z) = m * η k + c + z
    omega
theorem zlB_ok {η : zE} {fa : zFa} (hs : zsat η fa) {a b : zI} (h : zlB fa a b = true) : zd η a < zd η b := by
  have ha := zrg_ok hs a
  have hb := zrg_ok hs b
  unfold zlB at h
  by_cases e : (zrg fa a).2 < (zrg fa b).1
  · omega
  · rw [decide_eq_false e] at h
    dsimp only at h
    split at h
    · rename_i k m c j n d
      cases e2 : Nat.beq k j && decide (m = n) with
      | true =>
        rw [e2] at h
        rw [Bool.and_eq_true, decide_eq_true_eq] at e2
        have h := of_decide_eq_true h
        rw [Nat.eq_of_beq_eq_true e2.1, e2.2]
        show n * η j + c < n * η j + d
        omega
      | false =>
        rw [e2] at h
        dsimp only at h
        rw [Bool.or_eq_true] at h
        rcases h with h | h
        · rw [Bool.and_eq_true, Bool.and_eq_true, decide_eq_true_eq, decide_eq_true_eq] at h
          have h9 := zrel_ok (η := η) _ hs.2.2.1 h.2.2
          rw [h.1, h.2.1]
          show 1 * η k + c < 1 * η j + d
          omega
        · rw [Bool.and_eq_true, Bool.and_eq_true, decide_eq_true_eq, decide_eq_true_eq] at h
          have h9 := zrel_ok (η := η) _ hs.2.2.1 h.2.2
          rw [h.1, h.2.1]
          show -1 * η k + c < -1 * η j + d
          omega
    · cases h
theorem zleB_ok {η : zE} {fa : zFa} (hs : zsat η fa) {a b : zI} (h : zleB fa a b = true) : zd η a ≤ zd η b := by
  have := zlB_ok hs h
  rw [zd_ad] at this
  omega
def zpick (η : zE) (c : Prop) (KT KF : zFa → Bool) : Prop := (c → ∃ fa', zsat η fa' ∧ KT fa' = true) ∧ (¬ c → ∃ fa', zsat η fa' ∧ KF fa' = true)
theorem zpick_both {η : zE} {c : Prop} {fa : zFa} {KT KF : zFa → Bool} (hs : zsat η fa) (h : (KT fa && KF fa) = true) : zpick η c KT KF := by
  rw [Bool.and_eq_true] at h
  exact ⟨fun _ => ⟨fa, hs, h.1⟩, fun _ => ⟨fa, hs, h.2⟩⟩
theorem zsat_rel {η : zE} {fa : zFa} (hs : zsat η fa) {q : zRl} (h : zrs η q) : zsat η (fa.1, q :: fa.2.1, fa.2.2) := ⟨hs.1, hs.2.1, fun x hx => by
  rcases List.mem_cons.mp hx with e | e
  · rw [e]; exact h
  · exact hs.2.2.1 x e, hs.2.2.2⟩
theorem zltF_ok {η : zE} {a b : zI} {fa : zFa} {KT KF : zFa → Bool} (hs : zsat η fa) (h : zltF a b fa KT KF = true) : zpick η (zd η a < zd η b) KT KF := by
  rcases a with x | ⟨k, m, c⟩ <;> rcases b with y | ⟨j, n, d⟩ <;> dsimp only [zltF] at h
  · exact zpick_both hs h
  · by_cases e : n = 1
    · rw [decide_eq_true e, Bool.and_eq_true] at h
      obtain ⟨g1, g2, g3⟩ := zr_ok hs j
      subst e
      refine ⟨fun z => zset_ok h.1 hs ?_ g2 g3, fun z => zset_ok h.2 hs g1 ?_ g3⟩
      · have z : x < 1 * η j + d := z
        omega
      · have z : ¬ (x < 1 * η j + d) := z
        omega
    · rw [decide_eq_false e] at h
      exact zpick_both hs h
  · by_cases e : m = 1
    · rw [decide_eq_true e, Bool.and_eq_true] at h
      obtain ⟨g1, g2, g3⟩ := zr_ok hs k
      subst e
      refine ⟨fun z => zset_ok h.1 hs g1 ?_ g3, fun z => zset_ok h.2 hs ?_ g2 g3⟩
      · have z : 1 * η k + c < y := z
        omega
      · have z : ¬ (1 * η k + c < y) := z
        omega
    · rw [decide_eq_false e] at h
      exact zpick_both hs h
  · cases e : decide (m = 1) && decide (n = 1) with
    | false => rw [e] at h; exact zpick_both hs h
    | true =>
      rw [e] at h
      dsimp only at h
      rw [Bool.and_eq_true, fZ_eq, fZ_eq] at h
      rw [Bool.and_eq_true, decide_eq_true_eq, decide_eq_true_eq] at e
      obtain ⟨rfl, rfl⟩ := e
      refine ⟨fun z => ⟨_, zsat_rel hs (q := (false, k, j, d - c - 1)) ?_, h.1⟩, fun z => ⟨_, zsat_rel hs (q := (false, j, k, c - d)) ?_, h.2⟩⟩
      · have z : 1 * η k + c < 1 * η j + d := z
        show η k - η j ≤ d - c - 1
        omega
      · have z : ¬ (1 * η k + c < 1 * η j + d) := z
        show η j - η k ≤ c - d
        omega
theorem zlt_ok {η : zE} {a b : zI} {fa : zFa} {KT KF : zFa → Bool} (hs : zsat η fa) (h : zlt a b fa KT KF = true) : zpick η (zd η a < zd η b) KT KF := by
  unfold zlt at h
  cases e : zlB fa a b with
  | true =>
    rw [e] at h
    have := zlB_ok hs e
    exact ⟨fun _ => ⟨fa, hs, h⟩, fun z => absurd this z⟩
  | false =>
    rw [e] at h
    dsimp only at h
    cases e2 : zleB fa b a with
    | true =>
      rw [e2] at h
      have := zleB_ok hs e2
      exact ⟨fun z => absurd z (by omega), fun _ => ⟨fa, hs, h⟩⟩
    | false =>
      rw [e2] at h
      exact zltF_ok hs h
theorem zeB_ok {η : zE} {a b : zI} (h : zeB a b = true) : zd η a = zd η b := by
  rcases a with x | ⟨k, m, c⟩ <;> rcases b with y | ⟨j, n, d⟩ <;> dsimp only [zeB] at h
  · rw [of_decide_eq_true h]
  · cases h
  · cases h
  · rw [Bool.and_eq_true, Bool.and_eq_true, decide_eq_true_eq, decide_eq_true_eq] at h
    rw [Nat.eq_of_beq_eq_true h.1, h.2.1, h.2.2]
theorem zeqA_ok {η : zE} {fa : zFa} {k : Nat} {c : Int} {KT KF : zFa → Bool} (hs : zsat η fa) (h : zeqA fa k c KT KF = true) : zpick η (η k = c) KT KF := by
  obtain ⟨g1, g2, g3⟩ := zr_ok hs k
  unfold zeqA at h
  cases e : xmZ (zr fa k).2.2 c with
  | true =>
    rw [e] at h
    exact ⟨fun z => absurd z (g3 c (xmZ_ok c _ e)), fun _ => ⟨fa, hs, h⟩⟩
  | false =>
    rw [e] at h
    dsimp only at h
    rw [Bool.and_eq_true] at h
    refine ⟨fun z => zset_ok h.1 hs (by omega) (by omega) g3, fun z => zset_ok h.2 hs g1 g2 (fun n hn => ?_)⟩
    rcases List.mem_cons.mp hn with e5 | e5
    · rw [e5]; exact z
    · exact g3 n e5
theorem zeqF_ok {η : zE} {a b : zI} {fa : zFa} {KT KF : zFa → Bool} (hs : zsat η fa) (h : zeqF a b fa KT KF = true) : zpick η (zd η a = zd η b) KT KF := by
  rcases a with x | ⟨k, m, c⟩ <;> rcases b with y | ⟨j, n, d⟩ <;> dsimp only [zeqF] at h
  · exact zpick_both hs h
  · by_cases e : n = 1
    · rw [decide_eq_true e] at h
      dsimp only at h
      rw [fZ_eq] at h
      have q := zeqA_ok hs h
      subst e
      have e3 : zd η (.inl x) = zd η (.inr (j, 1, d)) ↔ η j = x - d := by
        show x = 1 * η j + d ↔ _
        omega
      exact ⟨fun z => q.1 (e3.mp z), fun z => q.2 (fun y => z (e3.mpr y))⟩
    · rw [decide_eq_false e] at h
      exact zpick_both hs h
  · by_cases e : m = 1
    · rw [decide_eq_true e] at h
      dsimp only at h
      rw [fZ_eq] at h
      have q := zeqA_ok hs h
      subst e
      have e3 : zd η (.inr (k, 1, c)) = zd η (.inl y) ↔ η k = y - c := by
        show 1 * η k + c = y ↔ _
        omega
      exact ⟨fun z => q.1 (e3.mp z), fun z => q.2 (fun y => z (e3.mpr y))⟩
    · rw [decide_eq_false e] at h
      exact zpick_both hs h
  · cases e : decide (m = 1) && decide (n = 1) with
    | false => rw [e] at h; exact zpick_both hs h
    | true =>
      rw [e] at h
      dsimp only at h
      rw [Bool.and_eq_true, fZ_eq, fZ_eq] at h
      rw [Bool.and_eq_true, decide_eq_true_eq, decide_eq_true_eq] at e
      obtain ⟨rfl, rfl⟩ := e
      refine ⟨fun z => ⟨_, ?_, h.1⟩, fun z => ?_⟩
      · have z : 1 * η k + c = 1 * η j + d := z
        have q1 := zsat_rel hs (q := (false, j, k, c - d)) (show η j - η k ≤ c - d by omega)
        exact zsat_rel q1 (q := (false, k, j, d - c)) (show η k - η j ≤ d - c by omega)
      · have z : ¬ (1 * η k + c = 1 * η j + d) := z
        have h2 := h.2
        cases e5 : zrel fa.2.1 k j (d - c) with
        | true =>
          rw [e5] at h2
          dsimp only at h2
          rw [fZ_eq] at h2
          have := zrel_ok (η := η) _ hs.2.2.1 e5
          exact ⟨_, zsat_rel hs (q := (false, k, j, d - c - 1)) (show η k - η j ≤ d - c - 1 by omega), h2⟩
        | false =>
          rw [e5] at h2
          dsimp only at h2
          cases e6 : zrel fa.2.1 j k (c - d) with
          | true =>
            rw [e6] at h2
            dsimp only at h2
            rw [fZ_eq] at h2
            have := zrel_ok (η := η) _ hs.2.2.1 e6
            exact ⟨_, zsat_rel hs (q := (false, j, k, c - d - 1)) (show η j - η k ≤ c - d - 1 by omega), h2⟩
          | false =>
            rw [e6] at h2
            exact ⟨fa, hs, h2⟩
theorem zeq_ok {η : zE} {a b : zI} {fa : zFa} {KT KF : zFa → Bool} (hs : zsat η fa) (h : zeq a b fa KT KF = true) : zpick η (zd η a = zd η b) KT KF := by
  unfold zeq at h
  cases e : zeB a b with
  | true =>
    rw [e] at h
    exact ⟨fun _ => ⟨fa, hs, h⟩, fun z => absurd (zeB_ok e) z⟩
  | false =>
    rw [e] at h
    dsimp only at h
    cases e2 : zlB fa a b || zlB fa b a with
    | true =>
      rw [e2] at h
      rw [Bool.or_eq_true] at e2
      refine ⟨fun z => ?_, fun _ => ⟨fa, hs, h⟩⟩
      rcases e2 with e2 | e2
      · have := zlB_ok hs e2; omega
      · have := zlB_ok hs e2; omega
    | false =>
      rw [e2] at h
      exact zeqF_ok hs h
theorem i32_big {z : Int} (h1 : -2147483648 ≤ z) (h2 : z ≤ 2147483647) : (Int32.ofInt z).toInt = z := i32_in (by
  unfold xin
  rw [decide_eq_true h1, decide_eq_true h2]
  rfl)
theorem i64_big {z : Int} (h1 : -9223372036854775808 ≤ z) (h2 : z ≤ 9223372036854775807) : (Int64.ofInt z).toInt = z := by
  rw [Int64.toInt_ofInt]
  rw [Int.bmod_eq_iff (by decide)]
  refine ⟨?_, ?_, ?_⟩ <;> first | omega | (simp [Int64.size]; omega) | simp [Int64.size]
theorem z32_ok {η : zE} {fa : zFa} (hs : zsat η fa) {v : zI} (h : z32 fa v = true) : (zi η v).toInt = zd η v := by
  unfold z32 at h
  rw [zrk_eq, Bool.and_eq_true] at h
  have hr := zrg_ok hs v
  obtain ⟨h1, h2⟩ := h
  simp only [xin, Bool.and_eq_true, decide_eq_true_eq] at h1 h2
  exact i32_big (by omega) (by omega)
theorem z64_ok {η : zE} {fa : zFa} (hs : zsat η fa) {v : zI} (h : z64 fa v = true) : (Int64.ofInt (zd η v)).toInt = zd η v := by
  unfold z64 at h
  rw [zrk_eq, Bool.and_eq_true, decide_eq_true_eq, decide_eq_true_eq] at h
  have hr := zrg_ok hs v
  exact i64_big (by omega) (by omega)
theorem gI_eq (v : zI) (k : zI → Bool) : gI v k = k v := by
  rcases v with z | ⟨j, m, c⟩ <;> simp [gI, fZ_eq, fN_eq]
theorem gV_eq (v : zV) (k : zV → Bool) : gV v k = k v := by
  rcases v with i | (_ | i) | i <;> simp [gV, gI_eq, fN_eq]
-- another environment that agrees below n
abbrev zag (n : Nat) (η η' : zE) : Prop := ∀ k, k < n → η' k = η k
theorem blt_ok {k n : Nat} (h : Nat.blt k n = true) : k < n := Nat.le_of_ble_eq_true h
theorem zbI_ag {n : Nat} {η η' : zE} (h : zag n η η') {v : zI} (hv : zbI n v = true) : zd η' v = zd η v := by
  rcases v with z | ⟨k, m, c⟩
  · rfl
  · show m * η' k + c = m * η k + c
    rw [h k (blt_ok hv)]
theorem zbV_ag {n : Nat} {η η' : zE} (h : zag n η η') (ρ : Nat → Nat) {v : zV} (hv : zbV n v = true) : zv ρ η' v = zv ρ η v := by
  rcases v with i | (_ | i) | i
  · show Value.int (Int32.ofInt (zd η' i)) = Value.int (Int32.ofInt (zd η i))
    rw [zbI_ag h hv]
  · rfl
  · rfl
  · show Value.long (Int64.ofInt (zd η' i)) = Value.long (Int64.ofInt (zd η i))
    rw [zbI_ag h hv]
theorem zbS_ag {n : Nat} {η η' : zE} (h : zag n η η') (ρ : Nat → Nat) : ∀ {sk : List zV}, zbS n sk = true → sk.map (zv ρ η') = sk.map (zv ρ η) := by
  intro sk
  induction sk with
  | nil => intro _; rfl
  | cons v t ih =>
    intro hv
    unfold zbS at hv
    rw [Bool.and_eq_true] at hv
    rw [List.map_cons, List.map_cons, zbV_ag h ρ hv.1, ih hv.2]
def zdL (ρ : Nat → Nat) (η : zE) (lo : zL) : List (Nat × Value) := lo.map (fun q => (q.1, zv ρ η q.2))
theorem zbL_ag {n : Nat} {η η' : zE} (h : zag n η η') (ρ : Nat → Nat) : ∀ {lo : zL}, zbL n lo = true → zdL ρ η' lo = zdL ρ η lo := by
  intro lo
  induction lo with
  | nil => intro _; rfl
  | cons q t ih =>
    intro hv
    unfold zbL at hv
    rw [Bool.and_eq_true] at hv
    have ih := ih hv.2
    unfold zdL at ih ⊢
    rw [List.map_cons, List.map_cons, zbV_ag h ρ hv.1, ih]
theorem zbC_ok {n : Nat} : ∀ {ca : zCa}, zbC n ca = true → ∀ q ∈ ca, zbV n q.2 = true ∧ ∀ i, q.1.2 = .inr i → zbI n i = true := by
  intro ca
  induction ca with
  | nil => intro _ q hq; cases hq
  | cons x t ih =>
    intro h q hq
    obtain ⟨⟨i, k | j⟩, v⟩ := x
    · unfold zbC at h
      rw [Bool.and_eq_true] at h
      rcases List.mem_cons.mp hq with e | e
      · rw [e]
        exact ⟨h.1, fun i h9 => by cases h9⟩
      · exact ih h.2 q e
    · unfold zbC at h
      rw [Bool.and_eq_true, Bool.and_eq_true] at h
      rcases List.mem_cons.mp hq with e | e
      · rw [e]
        exact ⟨h.2.1, fun i h9 => by cases h9; exact h.1⟩
      · exact ih h.2.2 q e
theorem zbG_ok {n : Nat} : ∀ {l : List (Nat × zG)}, zbG n l = true → ∀ q ∈ l, q.1 < n := by
  intro l
  induction l with
  | nil => intro _ q hq; cases hq
  | cons x t ih =>
    intro h q hq
    unfold zbG at h
    rw [Bool.and_eq_true] at h
    rcases List.mem_cons.mp hq with e | e
    · rw [e]; exact blt_ok h.1
    · exact ih h.2 q e
theorem zbR_ok {n : Nat} : ∀ {l : List zRl}, zbR n l = true → ∀ q ∈ l, q.2.1 < n ∧ q.2.2.1 < n := by
  intro l
  induction l with
  | nil => intro _ q hq; cases hq
  | cons x t ih =>
    intro h q hq
    unfold zbR at h
    rw [Bool.and_eq_true, Bool.and_eq_true] at h
    rcases List.mem_cons.mp hq with e | e
    · rw [e]; exact ⟨blt_ok h.1, blt_ok h.2.1⟩
    · exact ih h.2.2 q e
theorem zbM_ok {n : Nat} : ∀ {l : List zMm}, zbM n l = true → ∀ q ∈ l, zbI n q.1 = true ∧ zbI n q.2.1 = true ∧ q.2.2.1 < n := by
  intro l
  induction l with
  | nil => intro _ q hq; cases hq
  | cons x t ih =>
    intro h q hq
    unfold zbM at h
    rw [Bool.and_eq_true, Bool.and_eq_true, Bool.and_eq_true] at h
    rcases List.mem_cons.mp hq with e | e
    · rw [e]; exact ⟨h.1, h.2.1, blt_ok h.2.2.1⟩
    · exact ih h.2.2.2 q e
theorem zmem_ok {η : zE} {o : Nat} {a b : zI} {k : Nat} : ∀ {l : List zMm}, (∀ q ∈ l, zms η q) → zmem l o a b = some k → Int32.ofInt (η k) = zop o (zi η a) (zi η b) := by
  intro l
  induction l with
  | nil => intro _ h; cases h
  | cons q t ih =>
    obtain ⟨x, y, j, o2⟩ := q
    intro hq h
    unfold zmem at h
    cases e : Nat.beq o2 o && (zeB x a && zeB y b) with
    | true =>
      rw [e] at h
      cases h
      rw [Bool.and_eq_true, Bool.and_eq_true] at e
      have h9 : Int32.ofInt (η k) = zop o2 (zi η x) (zi η y) := hq _ List.mem_cons_self
      rw [h9, Nat.eq_of_beq_eq_true e.1]
      unfold zi
      rw [zeB_ok e.2.1, zeB_ok e.2.2]
    | false =>
      rw [e] at h
      exact ih (fun q h9 => hq q (List.mem_cons_of_mem _ h9)) h
theorem zbF_ag {n : Nat} {η η' : zE} (h : zag n η η') (hb : ∀ k, zbd (η' k)) {fa : zFa} (hv : zbF n fa = true) (hs : zsat η fa) : zsat η' fa := by
  unfold zbF at hv
  rw [Bool.and_eq_true] at hv
  rw [Bool.and_eq_true] at hv
  refine ⟨hb, fun q hq => ?_, fun q hq => ?_, fun q hq => ?_⟩
  · rw [h _ (zbG_ok hv.1 q hq)]
    exact hs.2.1 q hq
  · obtain ⟨h1, h2⟩ := zbR_ok hv.2.1 q hq
    have := hs.2.2.1 q hq
    unfold zrs at this ⊢
    rw [h _ h1, h _ h2]
    exact this
  · obtain ⟨h1, h2, h3⟩ := zbM_ok hv.2.2 q hq
    have := hs.2.2.2 q hq
    unfold zms zi at this ⊢
    rw [h _ h3, zbI_ag h h1, zbI_ag h h2]
    exact this
/-- one symbol more -/
def zup (η : zE) (n : Nat) (x : Int) : zE := fun k => if k = n then x else η k
theorem zup_ag (η : zE) (n : Nat) (x : Int) : zag n η (zup η n x) := fun k hk => by
  unfold zup
  rw [if_neg (by omega)]
theorem zup_n (η : zE) (n : Nat) (x : Int) : zup η n x n = x := by
  unfold zup
  rw [if_pos rfl]
theorem zup_bd {η : zE} {n : Nat} {x : Int} (h : ∀ k, zbd (η k)) (hx : zbd x) : ∀ k, zbd (zup η n x k) := by
  intro k
  unfold zup
  by_cases e : k = n
  · rw [if_pos e]; exact hx
  · rw [if_neg e]; exact h k
theorem zup_sat {η : zE} {n : Nat} {x : Int} {g : zG} {rl : List zRl} {mm : List zMm} {fa : zFa} (hx : zbd x) (hv : zbF n fa = true) (hs : zsat η fa) (hg : zgs x g) (hr : ∀ q ∈ rl, zrs (zup η n x) q) (hm : ∀ q ∈ mm, zms (zup η n x) q) : zsat (zup η n x) ((n, g) :: fa.1, rl ++ fa.2.1, mm ++ fa.2.2) := by
  have h := zbF_ag (zup_ag η n x) (zup_bd hs.1 hx) hv hs
  refine ⟨h.1, fun q hq => ?_, fun q hq => ?_, fun q hq => ?_⟩
  · rcases List.mem_cons.mp hq with e | e
    · rw [e]
      show zgs (zup η n x n) _
      rw [zup_n]
      exact hg
    · exact h.2.1 q e
  · rcases List.mem_append.mp hq with e | e
    · exact hr q e
    · exact h.2.2.1 q e
  · rcases List.mem_append.mp hq with e | e
    · exact hm q e
    · exact h.2.2.2 q e
theorem zbd32 (x : Int32) : zbd x.toInt := by
  have := i32_bd x
  unfold zbd
  constructor <;> omega
theorem zbd64 (x : Int64) : zbd x.toInt := by
  have h1 := Int64.le_toInt x
  have h2 := Int64.toInt_lt x
  unfold zbd
  constructor <;> omega
