/-! a mask's bits -/
theorem bv_low (x : BitVec 32) : x &&& 1#32 = if x.getLsbD 0 then 1#32 else 0#32 := by
  apply BitVec.eq_of_getLsbD_eq
  intro i hi
  rw [BitVec.getLsbD_and]
  by_cases h : i = 0
  · subst h
    cases x.getLsbD 0 <;> decide
  · have h1 : (1#32).getLsbD i = false := by
      rw [BitVec.getLsbD_one]
      simp [h]
    rw [h1, Bool.and_false]
    cases x.getLsbD 0
    · simp
    · rw [if_pos rfl, h1]
def gB (m : Int32) (b : Nat) : Bool := m.toBitVec.getLsbD b
theorem mb_of {m y : Int32} {n : Nat} (hn : (y &&& 31).toBitVec.smod 32#32 = BitVec.ofNat 32 n) (h32 : (BitVec.ofNat 32 n).toNat = n) (hlt : n < 31) : mBit m y = if gB m n then 1 else 0 := by
  have h1 : (mBit m y).toBitVec = (m.toBitVec.sshiftRight' ((y &&& 31).toBitVec.smod 32#32)) &&& 1#32 := by
    show ((m >>> (y &&& 31)) &&& 1).toBitVec = _
    rw [Int32.toBitVec_and, Int32.toBitVec_shiftRight]
    rfl
  rw [hn, bv_low] at h1
  have h2 : (m.toBitVec.sshiftRight' (BitVec.ofNat 32 n)).getLsbD 0 = gB m n := by
    show (m.toBitVec.sshiftRight (BitVec.ofNat 32 n).toNat).getLsbD 0 = _
    rw [h32, BitVec.getLsbD_sshiftRight]
    unfold gB
    simp [hlt]
    intro h
    omega
  rw [h2] at h1
  apply Int32.toBitVec_inj.mp
  rw [h1]
  cases gB m n <;> rfl
theorem mb_get (m : Int32) {b : Nat} (hb : b < 4) : mBit m (Int32.ofInt b) = if gB m b then 1 else 0 := by
  rcases (show b = 0 ∨ b = 1 ∨ b = 2 ∨ b = 3 by omega) with h | h | h | h <;> subst h
  · exact mb_of (n := 0) (by decide) (by decide) (by decide)
  · exact mb_of (n := 1) (by decide) (by decide) (by decide)
  · exact mb_of (n := 2) (by decide) (by decide) (by decide)
  · exact mb_of (n := 3) (by decide) (by decide) (by decide)
/-- a bit is set -/
def sB (m y : Int32) : Int32 := zop 4 m (zop 6 1 y)
theorem sb_get (m : Int32) {b c : Nat} (hb : b < 4) (hc : c < 4) : gB (sB m (Int32.ofInt b)) c = (gB m c || decide (c = b)) := by
  have h1 : (sB m (Int32.ofInt b)).toBitVec = m.toBitVec ||| (zop 6 1 (Int32.ofInt b)).toBitVec := by
    show (m ||| zop 6 1 (Int32.ofInt b)).toBitVec = _
    rw [Int32.toBitVec_or]
  unfold gB
  rw [h1, BitVec.getLsbD_or]
  congr 1
  rcases (show b = 0 ∨ b = 1 ∨ b = 2 ∨ b = 3 by omega) with h | h | h | h <;> subst h <;> rcases (show c = 0 ∨ c = 1 ∨ c = 2 ∨ c = 3 by omega) with h | h | h | h <;> subst h <;> decide
theorem mb_0 {m : Int32} {b : Nat} (hb : b < 4) : mBit m (Int32.ofInt b) = 0 ↔ gB m b = false := by
  rw [mb_get m hb]
  cases gB m b
  · exact ⟨fun _ => rfl, fun _ => rfl⟩
  · exact ⟨fun h => absurd h (by decide), fun h => by cases h⟩
/-- how many bits of a row are free -/
def fr1 (x : Bool) : Nat := match x with
  | true => 0
  | false => 1
def frow (m : Int32) : Nat := fr1 (gB m 0) + fr1 (gB m 1) + fr1 (gB m 2) + fr1 (gB m 3)
theorem frow_set {m : Int32} {b : Nat} (hb : b < 4) (h : gB m b = false) : frow (sB m (Int32.ofInt b)) + 1 = frow m := by
  unfold frow
  rw [sb_get m hb (by decide), sb_get m hb (by decide), sb_get m hb (by decide), sb_get m hb (by decide)]
  rcases (show b = 0 ∨ b = 1 ∨ b = 2 ∨ b = 3 by omega) with e | e | e | e <;> subst e <;> rw [h] <;> simp [fr1] <;> omega
def fsum (f : Nat → Int32) : Nat := frow (f 0) + frow (f 1) + frow (f 2) + frow (f 3) + frow (f 4) + frow (f 5)
theorem fsum_set {f : Nat → Int32} {m b : Nat} (hm : m < 6) (hb : b < 4) (h : gB (f m) b = false) : fsum (upd f m (sB (f m) (Int32.ofInt b))) + 1 = fsum f := by
  have h2 := frow_set hb h
  unfold fsum upd
  rcases (show m = 0 ∨ m = 1 ∨ m = 2 ∨ m = 3 ∨ m = 4 ∨ m = 5 by omega) with e | e | e | e | e | e <;> subst e <;> simp <;> omega
def un1 (x : Int32) : Nat := match decide (x.toInt < 0) with
  | true => 1
  | false => 0
def usum (f : Nat → Int32) : Nat := un1 (f 0) + un1 (f 1) + un1 (f 2) + un1 (f 3)
theorem usum_set {f : Nat → Int32} {b : Nat} (hb : b < 4) {x : Int32} (hx : 0 ≤ x.toInt) : usum (upd f b x) + un1 (f b) = usum f := by
  have h1 : un1 x = 0 := by
    unfold un1
    rw [decide_eq_false (by omega)]
  unfold usum upd
  rcases (show b = 0 ∨ b = 1 ∨ b = 2 ∨ b = 3 by omega) with e | e | e | e <;> subst e <;> simp [h1] <;> omega
