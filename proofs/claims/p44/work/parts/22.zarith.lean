theorem zsy_ok {η : zE} {o : Nat} {a b v : zI} (h : zsy o a b = some v) : zi η v = xop o (zi η a) (zi η b) := by
  rcases a with x | ⟨k, m, c⟩ <;> rcases b with y | ⟨j, n, d⟩ <;> dsimp only [zsy] at h
  · cases h
    exact i32_of _
  · match o, h with
    | 0, h =>
      cases h
      show Int32.ofInt (n * η j + (d + x)) = Int32.ofInt x + Int32.ofInt (n * η j + d)
      rw [← Int32.ofInt_add]
      congr 1
      omega
    | 1, h =>
      cases h
      show Int32.ofInt (-n * η j + (x - d)) = Int32.ofInt x - Int32.ofInt (n * η j + d)
      rw [← Int32.ofInt_sub]
      congr 1
      rw [Int.neg_mul]
      omega
    | 2, h =>
      cases h
      show Int32.ofInt (n * x * η j + d * x) = Int32.ofInt x * Int32.ofInt (n * η j + d)
      rw [← Int32.ofInt_mul]
      congr 1
      rw [Int.mul_add, Int.mul_comm d x, Int.mul_comm n x, Int.mul_assoc]
  · match o, h with
    | 0, h =>
      cases h
      show Int32.ofInt (m * η k + (c + y)) = Int32.ofInt (m * η k + c) + Int32.ofInt y
      rw [← Int32.ofInt_add]
      congr 1
      omega
    | 1, h =>
      cases h
      show Int32.ofInt (m * η k + (c - y)) = Int32.ofInt (m * η k + c) - Int32.ofInt y
      rw [← Int32.ofInt_sub]
      congr 1
      omega
    | 2, h =>
      cases h
      show Int32.ofInt (m * y * η k + c * y) = Int32.ofInt (m * η k + c) * Int32.ofInt y
      rw [← Int32.ofInt_mul]
      congr 1
      rw [Int.add_mul, Int.mul_assoc, Int.mul_assoc, Int.mul_comm y (η k)]
  · cases h
theorem zin2_ok {a b r : Int} {x : Int32} (hr : x = Int32.ofInt r) (h1 : a ≤ r) (h2 : r ≤ b) : (zin2 a b zfull).1 ≤ x.toInt ∧ x.toInt ≤ (zin2 a b zfull).2 := by
  unfold zin2
  cases e : xin a && xin b with
  | false => exact i32_bd x
  | true =>
    rw [Bool.and_eq_true] at e
    obtain ⟨e1, e2⟩ := e
    simp only [xin, Bool.and_eq_true, decide_eq_true_eq] at e1 e2
    rw [hr, i32_big (by omega) (by omega)]
    exact ⟨h1, h2⟩
theorem and_le (x y : Int32) (h : 0 ≤ y.toInt) : 0 ≤ (x &&& y).toInt ∧ (x &&& y).toInt ≤ y.toInt := by
  have h0 : (x &&& y).toInt = (x.toBitVec &&& y.toBitVec).toInt := rfl
  have h1 : y.toInt = y.toBitVec.toInt := rfl
  rw [h1] at h ⊢
  rw [h0]
  have hm : y.toBitVec.msb = false := by
    rw [BitVec.msb_eq_toInt]
    exact decide_eq_false (by omega)
  have hm2 : (x.toBitVec &&& y.toBitVec).msb = false := by
    rw [BitVec.msb_and, hm, Bool.and_false]
  rw [BitVec.toInt_eq_toNat_of_msb hm, BitVec.toInt_eq_toNat_of_msb hm2, BitVec.toNat_and]
  have := Nat.and_le_right (n := x.toBitVec.toNat) (m := y.toBitVec.toNat)
  constructor <;> omega
theorem or_bd {x y : Int32} {k : Nat} (hk : k ≤ 30) (x0 : 0 ≤ x.toInt) (x1 : x.toInt < 2 ^ k) (y0 : 0 ≤ y.toInt) (y1 : y.toInt < 2 ^ k) : 0 ≤ (x ||| y).toInt ∧ (x ||| y).toInt < 2 ^ k := by
  have h0 : (x ||| y).toInt = (x.toBitVec ||| y.toBitVec).toInt := rfl
  have hx : x.toInt = x.toBitVec.toInt := rfl
  have hy : y.toInt = y.toBitVec.toInt := rfl
  rw [hx] at x0 x1
  rw [hy] at y0 y1
  have mx : x.toBitVec.msb = false := by
    rw [BitVec.msb_eq_toInt]
    exact decide_eq_false (by omega)
  have my : y.toBitVec.msb = false := by
    rw [BitVec.msb_eq_toInt]
    exact decide_eq_false (by omega)
  have m2 : (x.toBitVec ||| y.toBitVec).msb = false := by
    rw [BitVec.msb_or, mx, my]
    rfl
  rw [BitVec.toInt_eq_toNat_of_msb mx] at x1
  rw [BitVec.toInt_eq_toNat_of_msb my] at y1
  have e : ((2 : Int) ^ k) = ((2 ^ k : Nat) : Int) := by rw [Int.natCast_pow]; rfl
  rw [e] at x1 y1
  have := Nat.or_lt_two_pow (x := x.toBitVec.toNat) (y := y.toBitVec.toNat) (n := k) (by omega) (by omega)
  rw [h0, BitVec.toInt_eq_toNat_of_msb m2, BitVec.toNat_or, e]
  constructor <;> omega
theorem zpow_ok {x y m : Int} (x0 : 0 ≤ x) (x1 : x ≤ m) (y0 : 0 ≤ y) (y1 : y ≤ m) : (zpow m).1 ≤ (Int32.ofInt x ||| Int32.ofInt y).toInt ∧ (Int32.ofInt x ||| Int32.ofInt y).toInt ≤ (zpow m).2 := by
  have go : ∀ k : Nat, k ≤ 30 → m < 2 ^ k → 0 ≤ (Int32.ofInt x ||| Int32.ofInt y).toInt ∧ (Int32.ofInt x ||| Int32.ofInt y).toInt < 2 ^ k := fun k hk hm => by
    have hp : (2 : Int) ^ k ≤ 2 ^ 30 := by
      have e : ∀ j : Nat, ((2 : Int) ^ j) = ((2 ^ j : Nat) : Int) := fun j => by rw [Int.natCast_pow]; rfl
      rw [e, e]
      exact Int.ofNat_le.mpr (Nat.pow_le_pow_right (by decide) hk)
    have hp2 : (2 : Int) ^ 30 = 1073741824 := by decide
    refine or_bd hk ?_ ?_ ?_ ?_ <;> rw [i32_big (by omega) (by omega)] <;> omega
  unfold zpow
  by_cases e1 : m ≤ 63
  · rw [decide_eq_true e1]
    have := go 6 (by decide) (by have : (2 : Int) ^ 6 = 64 := by decide
                                 omega)
    have e : (2 : Int) ^ 6 = 64 := by decide
    rw [e] at this
    dsimp only
    constructor <;> omega
  · rw [decide_eq_false e1]
    dsimp only
    by_cases e2 : m ≤ 1023
    · rw [decide_eq_true e2]
      have e : (2 : Int) ^ 10 = 1024 := by decide
      have := go 10 (by decide) (by omega)
      rw [e] at this
      dsimp only
      constructor <;> omega
    · rw [decide_eq_false e2]
      dsimp only
      by_cases e3 : m ≤ 65535
      · rw [decide_eq_true e3]
        have e : (2 : Int) ^ 16 = 65536 := by decide
        have := go 16 (by decide) (by omega)
        rw [e] at this
        dsimp only
        constructor <;> omega
      · rw [decide_eq_false e3]
        exact i32_bd _
theorem zs2_ok {y m : Int} (y0 : 0 ≤ y) (y1 : y ≤ m) : (zs2 m).1 ≤ (Int32.ofInt 1 <<< (Int32.ofInt y &&& 31)).toInt ∧ (Int32.ofInt 1 <<< (Int32.ofInt y &&& 31)).toInt ≤ (zs2 m).2 := by
  unfold zs2
  by_cases e1 : m ≤ 3
  · rw [decide_eq_true e1]
    dsimp only
    rcases (show y = 0 ∨ y = 1 ∨ y = 2 ∨ y = 3 by omega) with rfl | rfl | rfl | rfl <;> decide
  · rw [decide_eq_false e1]
    dsimp only
    by_cases e2 : m ≤ 5
    · rw [decide_eq_true e2]
      dsimp only
      rcases (show y = 0 ∨ y = 1 ∨ y = 2 ∨ y = 3 ∨ y = 4 ∨ y = 5 by omega) with rfl | rfl | rfl | rfl | rfl | rfl <;> decide
    · rw [decide_eq_false e2]
      dsimp only
      by_cases e3 : m ≤ 6
      · rw [decide_eq_true e3]
        dsimp only
        rcases (show y = 0 ∨ y = 1 ∨ y = 2 ∨ y = 3 ∨ y = 4 ∨ y = 5 ∨ y = 6 by omega) with rfl | rfl | rfl | rfl | rfl | rfl | rfl <;> decide
      · rw [decide_eq_false e3]
        dsimp only
        by_cases e4 : m ≤ 8
        · rw [decide_eq_true e4]
          dsimp only
          rcases (show y = 0 ∨ y = 1 ∨ y = 2 ∨ y = 3 ∨ y = 4 ∨ y = 5 ∨ y = 6 ∨ y = 7 ∨ y = 8 by omega) with rfl | rfl | rfl | rfl | rfl | rfl | rfl | rfl | rfl <;> decide
        · rw [decide_eq_false e4]
          exact i32_bd _
theorem zorg_ok (o : Nat) {x y la ha lb hb : Int} (a1 : la ≤ x) (a2 : x ≤ ha) (b1 : lb ≤ y) (b2 : y ≤ hb) : (zorg o la ha lb hb).1 ≤ (xop o (Int32.ofInt x) (Int32.ofInt y)).toInt ∧ (xop o (Int32.ofInt x) (Int32.ofInt y)).toInt ≤ (zorg o la ha lb hb).2 := by
  match o with
  | 0 => exact zin2_ok (Int32.ofInt_add x y).symm (by omega) (by omega)
  | 1 => exact zin2_ok (Int32.ofInt_sub x y).symm (by omega) (by omega)
  | 2 =>
    unfold zorg
    cases e : decide (0 ≤ la) && decide (0 ≤ lb) with
    | false => exact i32_bd _
    | true =>
      rw [Bool.and_eq_true, decide_eq_true_eq, decide_eq_true_eq] at e
      refine zin2_ok (Int32.ofInt_mul x y).symm ?_ ?_
      · exact Int.le_trans (Int.mul_le_mul_of_nonneg_left b1 e.1) (Int.mul_le_mul_of_nonneg_right a1 (by omega))
      · exact Int.le_trans (Int.mul_le_mul_of_nonneg_left b2 (by omega)) (Int.mul_le_mul_of_nonneg_right a2 (by omega))
  | 3 =>
    unfold zorg
    cases e : decide (0 ≤ lb) && xin hb with
    | true =>
      rw [Bool.and_eq_true, decide_eq_true_eq] at e
      have e2 := e.2
      simp only [xin, Bool.and_eq_true, decide_eq_true_eq] at e2
      have h9 : (Int32.ofInt y).toInt = y := i32_big (by omega) (by omega)
      have := and_le (Int32.ofInt x) (Int32.ofInt y) (by rw [h9]; omega)
      rw [h9] at this
      show 0 ≤ (Int32.ofInt x &&& Int32.ofInt y).toInt ∧ (Int32.ofInt x &&& Int32.ofInt y).toInt ≤ hb
      constructor <;> omega
    | false =>
      dsimp only
      cases e : decide (0 ≤ la) && xin ha with
      | true =>
        rw [Bool.and_eq_true, decide_eq_true_eq] at e
        have e2 := e.2
        simp only [xin, Bool.and_eq_true, decide_eq_true_eq] at e2
        have h9 : (Int32.ofInt x).toInt = x := i32_big (by omega) (by omega)
        have := and_le (Int32.ofInt y) (Int32.ofInt x) (by rw [h9]; omega)
        rw [h9] at this
        have h8 : Int32.ofInt x &&& Int32.ofInt y = Int32.ofInt y &&& Int32.ofInt x := Int32.and_comm _ _
        show 0 ≤ (Int32.ofInt x &&& Int32.ofInt y).toInt ∧ (Int32.ofInt x &&& Int32.ofInt y).toInt ≤ ha
        rw [h8]
        constructor <;> omega
      | false => exact i32_bd _
  | 4 =>
    unfold zorg
    cases e : decide (0 ≤ la) && decide (0 ≤ lb) with
    | false => exact i32_bd _
    | true =>
      rw [Bool.and_eq_true, decide_eq_true_eq, decide_eq_true_eq] at e
      have hm : ha ≤ zmax ha hb ∧ hb ≤ zmax ha hb := by
        unfold zmax
        by_cases q : ha ≤ hb
        · rw [decide_eq_true q]; exact ⟨q, Int.le_refl _⟩
        · rw [decide_eq_false q]; exact ⟨Int.le_refl _, by dsimp only; omega⟩
      exact zpow_ok (by omega) (by omega) (by omega) (by omega)
  | 6 =>
    unfold zorg
    cases e : decide (la = 1) && (decide (ha = 1) && decide (0 ≤ lb)) with
    | false => exact i32_bd _
    | true =>
      rw [Bool.and_eq_true, Bool.and_eq_true, decide_eq_true_eq, decide_eq_true_eq, decide_eq_true_eq] at e
      have e1 : x = 1 := by omega
      subst e1
      exact zs2_ok (by omega) b2
  | 5 => exact i32_bd _
  | n + 7 => exact i32_bd _
theorem znz_ok {η : zE} {fa : zFa} (hs : zsat η fa) {b : zI} (h : znz fa b = true) : zd η b ≠ 0 := by
  unfold znz at h
  rw [zrk_eq] at h
  have hr := zrg_ok hs b
  rw [Bool.or_eq_true, Bool.or_eq_true, decide_eq_true_eq, decide_eq_true_eq] at h
  rcases h with h | h | h
  · omega
  · omega
  · split at h
    · rename_i k m c
      rw [Bool.and_eq_true, decide_eq_true_eq] at h
      obtain ⟨-, -, g3⟩ := zr_ok hs k
      have := g3 _ (xmZ_ok _ _ h.2)
      rw [h.1]
      show 1 * η k + c ≠ 0
      omega
    · cases h
theorem dv_pos {x y : Int} (hx0 : 0 ≤ x) (hx : x ≤ 2147483647) (hy0 : 0 < y) (hy : y ≤ 2147483647) : Int32.ofInt x / Int32.ofInt y = Int32.ofInt (x / y) := by
  have h1 : 0 ≤ x / y := Int.ediv_nonneg hx0 (by omega)
  have h2 : x / y ≤ x := Int.ediv_le_self y hx0
  apply Int32.toInt_inj.mp
  rw [Int32.toInt_div, i32_big (by omega) hx, i32_big (by omega) hy, i32_big (z := x / y) (by omega) (by omega), Int.tdiv_eq_ediv_of_nonneg hx0]
  rw [Int.bmod_eq_iff (by decide)]
  refine ⟨?_, ?_, ?_⟩ <;> first | omega | simp
theorem zdvR_ok {x y la ha lb hb : Int} (a1 : la ≤ x) (a2 : x ≤ ha) (b1 : lb ≤ y) (b2 : y ≤ hb) : ((zdvR false la ha lb hb).1 ≤ (Int32.ofInt x / Int32.ofInt y).toInt ∧ (Int32.ofInt x / Int32.ofInt y).toInt ≤ (zdvR false la ha lb hb).2) ∧ ((zdvR true la ha lb hb).1 ≤ (Int32.ofInt x - Int32.ofInt x / Int32.ofInt y * Int32.ofInt y).toInt ∧ (Int32.ofInt x - Int32.ofInt x / Int32.ofInt y * Int32.ofInt y).toInt ≤ (zdvR true la ha lb hb).2) := by
  unfold zdvR
  cases e : decide (0 ≤ la) && (decide (0 < lb) && (xin ha && xin hb)) with
  | false => exact ⟨i32_bd _, i32_bd _⟩
  | true =>
    rw [Bool.and_eq_true, Bool.and_eq_true, Bool.and_eq_true, decide_eq_true_eq, decide_eq_true_eq] at e
    obtain ⟨e1, e2, e3, e4⟩ := e
    simp only [xin, Bool.and_eq_true, decide_eq_true_eq] at e3 e4
    have h1 : 0 ≤ x / y := Int.ediv_nonneg (by omega) (by omega)
    have h2 : x / y ≤ x := Int.ediv_le_self y (by omega)
    have h3 := Int.emod_nonneg x (b := y) (by omega)
    have h4 := Int.emod_lt_of_pos x (b := y) (by omega)
    have h5 : x / y * y + x % y = x := by rw [Int.mul_comm]; exact Int.mul_ediv_add_emod x y
    have h6 : 0 ≤ x / y * y := Int.mul_nonneg h1 (by omega)
    rw [dv_pos (by omega) (by omega) (by omega) (by omega)]
    constructor
    · dsimp only
      rw [i32_big (by omega) (by omega)]
      constructor <;> omega
    · dsimp only
      rw [← Int32.ofInt_mul, ← Int32.ofInt_sub, i32_big (by omega) (by omega)]
      refine ⟨by omega, zmin_ok (by omega) (by omega)⟩
/-- what is cut out by a number from 0 on is at most that number -/
theorem and_rel {x y : Int} (h0 : 0 ≤ y) (h1 : y ≤ 2147483647) : (Int32.ofInt x &&& Int32.ofInt y).toInt ≤ y := by
  have h9 : (Int32.ofInt y).toInt = y := i32_big (by omega) h1
  have := and_le (Int32.ofInt x) (Int32.ofInt y) (by rw [h9]; exact h0)
  rw [h9] at this
  exact this.2
/-- the rest of a division by what is more than 0 is less than it -/
theorem rem_lt {x y : Int} (hx0 : 0 ≤ x) (hx : x ≤ 2147483647) (hy0 : 0 < y) (hy : y ≤ 2147483647) : (Int32.ofInt x - Int32.ofInt x / Int32.ofInt y * Int32.ofInt y).toInt = x % y ∧ x % y < y := by
  have h1 : 0 ≤ x / y := Int.ediv_nonneg (by omega) (by omega)
  have h2 : x / y ≤ x := Int.ediv_le_self y (by omega)
  have h3 := Int.emod_nonneg x (b := y) (by omega)
  have h4 := Int.emod_lt_of_pos x (b := y) (by omega)
  have h5 : x / y * y + x % y = x := by rw [Int.mul_comm]; exact Int.mul_ediv_add_emod x y
  have h6 : 0 ≤ x / y * y := Int.mul_nonneg h1 (by omega)
  rw [dv_pos hx0 hx hy0 hy, ← Int32.ofInt_mul, ← Int32.ofInt_sub, i32_big (by omega) (by omega)]
  exact ⟨by omega, h4⟩
