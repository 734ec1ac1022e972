/-! The second machine's data: unknown values are symbols with ranges (m * symbol + c), the heap is known by declared ranges and a cache. -/
abbrev zE : Type := Nat → Int
abbrev zI : Type := Int ⊕ (Nat × Int × Int)
abbrev zV : Type := zI ⊕ (Option Nat ⊕ zI)
abbrev zG : Type := Int × Int × List Int
abbrev zRl : Type := Bool × Nat × Nat × Int
abbrev zMm : Type := zI × zI × Nat × Nat
abbrev zFa : Type := List (Nat × zG) × (List zRl × List zMm)
abbrev zKy : Type := Nat ⊕ zI
abbrev zCa : Type := List ((Nat × zKy) × zV)
abbrev zL : Type := List (Nat × zV)
abbrev zK : Type := zFa → Nat → Option zV → zCa → Bool
def zd (η : zE) : zI → Int
  | .inl z => z
  | .inr (k, m, c) => m * η k + c
def zi (η : zE) (v : zI) : Int32 := Int32.ofInt (zd η v)
def zv (ρ : Nat → Nat) (η : zE) : zV → Value
  | .inl i => .int (zi η i)
  | .inr (.inl none) => .null
  | .inr (.inl (some i)) => .ref (ρ i)
  | .inr (.inr i) => .long (Int64.ofInt (zd η i))
def zrs (η : zE) (q : zRl) : Prop := match q.1 with
  | true => η q.2.1 + η q.2.2.1 ≤ q.2.2.2
  | false => η q.2.1 - η q.2.2.1 ≤ q.2.2.2
def zop (o : Nat) (x y : Int32) : Int32 := match o with
  | 9 => x / y
  | 10 => x - x / y * y
  | o => xop o x y
/-- what was worked out: sums, differences, products, quotients, rests -/
def zms (η : zE) (q : zMm) : Prop := Int32.ofInt (η q.2.2.1) = zop q.2.2.2 (zi η q.1) (zi η q.2.1)
def zbd (x : Int) : Prop := -9223372036854775808 ≤ x ∧ x ≤ 9223372036854775807
def zgs (x : Int) (g : zG) : Prop := g.1 ≤ x ∧ x ≤ g.2.1 ∧ ∀ n ∈ g.2.2, x ≠ n
def zsat (η : zE) (fa : zFa) : Prop := (∀ k, zbd (η k)) ∧ (∀ q ∈ fa.1, zgs (η q.1) q.2) ∧ (∀ q ∈ fa.2.1, zrs η q) ∧ ∀ q ∈ fa.2.2, zms η q
def zr0 : List (Nat × zG) → Nat → zG
  | [], _ => (-9223372036854775808, 9223372036854775807, [])
  | (j, g) :: t, k => match Nat.beq j k with
    | true => g
    | false => zr0 t k
def zmin (a b : Int) : Int := match decide (a ≤ b) with
  | true => a
  | false => b
def zmax (a b : Int) : Int := match decide (a ≤ b) with
  | true => b
  | false => a
def zrR (fs : List (Nat × zG)) : List zRl → Nat → zG → zG
  | [], _, g => g
  | (true, a, b, c) :: t, k, g => zrR fs t k (match Nat.beq a k with
    | true => (g.1, zmin g.2.1 (c - (zr0 fs b).1), g.2.2)
    | false => match Nat.beq b k with
      | true => (g.1, zmin g.2.1 (c - (zr0 fs a).1), g.2.2)
      | false => g)
  | (false, a, b, c) :: t, k, g => zrR fs t k (match Nat.beq a k with
    | true => (g.1, zmin g.2.1 ((zr0 fs b).2.1 + c), g.2.2)
    | false => match Nat.beq b k with
      | true => (zmax g.1 ((zr0 fs a).1 - c), g.2.1, g.2.2)
      | false => g)
def zr (fa : zFa) (k : Nat) : zG := zrR fa.1 fa.2.1 k (zr0 fa.1 k)
def zrg (fa : zFa) : zI → Int × Int
  | .inl z => (z, z)
  | .inr (k, m, c) => match decide (0 ≤ m) with
    | true => (m * (zr fa k).1 + c, m * (zr fa k).2.1 + c)
    | false => (m * (zr fa k).2.1 + c, m * (zr fa k).1 + c)
/-- the range, worked out -/
def zrk (fa : zFa) (v : zI) (K : Int → Int → Bool) : Bool := match zrg fa v with
  | (a, b) => fZ a fun a => fZ b fun b => K a b
def zset (fa : zFa) (k : Nat) (lo hi : Int) (nes : List Int) (K : zFa → Bool) : Bool :=
  fZ (xup nes (xup nes lo)) fun lo => fZ (xdn nes (xdn nes hi)) fun hi => match decide (hi < lo) with
    | true => true
    | false => K ((k, (lo, hi, nes)) :: fa.1, fa.2)
/-- known: a - b at most d -/
def zrel : List zRl → Nat → Nat → Int → Bool
  | [], _, _, _ => false
  | (sg, a, b, c) :: t, j, k, d => match !sg && (Nat.beq a j && (Nat.beq b k && decide (c ≤ d))) with
    | true => true
    | false => zrel t j k d
def zad (v : zI) (z : Int) : zI := match v with
  | .inl x => .inl (x + z)
  | .inr (k, m, c) => .inr (k, m, c + z)
/-- a is less than b, for sure -/
def zlB (fa : zFa) (a b : zI) : Bool := match decide ((zrg fa a).2 < (zrg fa b).1) with
  | true => true
  | false => match a, b with
    | .inr (k, m, c), .inr (j, n, d) => match Nat.beq k j && decide (m = n) with
      | true => decide (c < d)
      | false => (decide (m = 1) && (decide (n = 1) && zrel fa.2.1 k j (d - c - 1))) || (decide (m = -1) && (decide (n = -1) && zrel fa.2.1 j k (d - c - 1)))
    | _, _ => false
def zleB (fa : zFa) (a b : zI) : Bool := zlB fa a (zad b 1)
def zltF (a b : zI) (fa : zFa) (KT KF : zFa → Bool) : Bool := match a, b with
  | .inr (k, m, c), .inl z => match decide (m = 1) with
    | true => zset fa k (zr fa k).1 (z - c - 1) (zr fa k).2.2 KT && zset fa k (z - c) (zr fa k).2.1 (zr fa k).2.2 KF
    | false => KT fa && KF fa
  | .inl z, .inr (k, m, c) => match decide (m = 1) with
    | true => zset fa k (z - c + 1) (zr fa k).2.1 (zr fa k).2.2 KT && zset fa k (zr fa k).1 (z - c) (zr fa k).2.2 KF
    | false => KT fa && KF fa
  | .inr (k, m, c), .inr (j, n, d) => match decide (m = 1) && decide (n = 1) with
    | true => fZ (d - c - 1) (fun x => KT (fa.1, (false, k, j, x) :: fa.2.1, fa.2.2)) && fZ (c - d) (fun x => KF (fa.1, (false, j, k, x) :: fa.2.1, fa.2.2))
    | false => KT fa && KF fa
  | .inl _, .inl _ => KT fa && KF fa
def zlt (a b : zI) (fa : zFa) (KT KF : zFa → Bool) : Bool := match zlB fa a b with
  | true => KT fa
  | false => match zleB fa b a with
    | true => KF fa
    | false => zltF a b fa KT KF
def zeB (a b : zI) : Bool := match a, b with
  | .inl x, .inl y => decide (x = y)
  | .inr (k, m, c), .inr (j, n, d) => Nat.beq k j && (decide (m = n) && decide (c = d))
  | _, _ => false
def zeqA (fa : zFa) (k : Nat) (c : Int) (KT KF : zFa → Bool) : Bool := match xmZ (zr fa k).2.2 c with
  | true => KF fa
  | false => zset fa k c c (zr fa k).2.2 KT && zset fa k (zr fa k).1 (zr fa k).2.1 (c :: (zr fa k).2.2) KF
def zeqF (a b : zI) (fa : zFa) (KT KF : zFa → Bool) : Bool := match a, b with
  | .inr (k, m, c), .inl z => match decide (m = 1) with
    | true => fZ (z - c) fun x => zeqA fa k x KT KF
    | false => KT fa && KF fa
  | .inl z, .inr (k, m, c) => match decide (m = 1) with
    | true => fZ (z - c) fun x => zeqA fa k x KT KF
    | false => KT fa && KF fa
  | .inr (k, m, c), .inr (j, n, d) => match decide (m = 1) && decide (n = 1) with
    | true => fZ (d - c) (fun x => fZ (c - d) fun y => KT (fa.1, (false, k, j, x) :: (false, j, k, y) :: fa.2.1, fa.2.2)) && (match zrel fa.2.1 k j (d - c) with
      | true => fZ (d - c - 1) fun x => KF (fa.1, (false, k, j, x) :: fa.2.1, fa.2.2)
      | false => match zrel fa.2.1 j k (c - d) with
        | true => fZ (c - d - 1) fun x => KF (fa.1, (false, j, k, x) :: fa.2.1, fa.2.2)
        | false => KF fa)
    | false => KT fa && KF fa
  | .inl _, .inl _ => KT fa && KF fa
def zeq (a b : zI) (fa : zFa) (KT KF : zFa → Bool) : Bool := match zeB a b with
  | true => KT fa
  | false => match zlB fa a b || zlB fa b a with
    | true => KF fa
    | false => zeqF a b fa KT KF
/-- its range lies in an int; in a long -/
def z32 (fa : zFa) (v : zI) : Bool := zrk fa v fun a b => xin a && xin b
def z64 (fa : zFa) (v : zI) : Bool := zrk fa v fun a b => decide (-9223372036854775808 ≤ a) && decide (b ≤ 9223372036854775807)
-- forcing
def gI (v : zI) (k : zI → Bool) : Bool := match v with
  | .inl z => fZ z fun z => k (.inl z)
  | .inr (j, m, c) => fN j fun j => fZ m fun m => fZ c fun c => k (.inr (j, m, c))
def gV (v : zV) (k : zV → Bool) : Bool := match v with
  | .inl i => gI i fun i => k (.inl i)
  | .inr (.inl none) => k (.inr (.inl none))
  | .inr (.inl (some i)) => fN i fun i => k (.inr (.inl (some i)))
  | .inr (.inr i) => gI i fun i => k (.inr (.inr i))
-- all symbols are less than n
def zbI (n : Nat) : zI → Bool
  | .inl _ => true
  | .inr (k, _, _) => Nat.blt k n
def zbV (n : Nat) : zV → Bool
  | .inl i => zbI n i
  | .inr (.inl _) => true
  | .inr (.inr i) => zbI n i
def zbS (n : Nat) : List zV → Bool
  | [] => true
  | v :: t => zbV n v && zbS n t
def zbL (n : Nat) : zL → Bool
  | [] => true
  | q :: t => zbV n q.2 && zbL n t
def zbC (n : Nat) : zCa → Bool
  | [] => true
  | ((_, .inl _), v) :: t => zbV n v && zbC n t
  | ((_, .inr i), v) :: t => zbI n i && (zbV n v && zbC n t)
def zbG (n : Nat) : List (Nat × zG) → Bool
  | [] => true
  | q :: t => Nat.blt q.1 n && zbG n t
def zbR (n : Nat) : List zRl → Bool
  | [] => true
  | q :: t => Nat.blt q.2.1 n && (Nat.blt q.2.2.1 n && zbR n t)
def zbM (n : Nat) : List zMm → Bool
  | [] => true
  | q :: t => zbI n q.1 && (zbI n q.2.1 && (Nat.blt q.2.2.1 n && zbM n t))
def zbF (n : Nat) (fa : zFa) : Bool := zbG n fa.1 && (zbR n fa.2.1 && zbM n fa.2.2)
/-- was this worked out -/
def zmem : List zMm → Nat → zI → zI → Option Nat
  | [], _, _, _ => none
  | (x, y, k, o2) :: t, o, a, b => match Nat.beq o2 o && (zeB x a && zeB y b) with
    | true => some k
    | false => zmem t o a b
-- arithmetic: exact; by ranges
def zsy (o : Nat) (a b : zI) : Option zI := match a, b with
  | .inl x, .inl y => some (.inl (xop o (Int32.ofInt x) (Int32.ofInt y)).toInt)
  | .inl x, .inr (k, m, c) => match o with
    | 0 => some (.inr (k, m, c + x))
    | 1 => some (.inr (k, -m, x - c))
    | 2 => some (.inr (k, m * x, c * x))
    | _ => none
  | .inr (k, m, c), .inl y => match o with
    | 0 => some (.inr (k, m, c + y))
    | 1 => some (.inr (k, m, c - y))
    | 2 => some (.inr (k, m * y, c * y))
    | _ => none
  | .inr _, .inr _ => none
def zin2 (a b : Int) (t : Int × Int) : Int × Int := match xin a && xin b with
  | true => (a, b)
  | false => t
def zfull : Int × Int := (-2147483648, 2147483647)
def zpow (m : Int) : Int × Int := match decide (m ≤ 63) with
  | true => (0, 63)
  | false => match decide (m ≤ 1023) with
    | true => (0, 1023)
    | false => match decide (m ≤ 65535) with
      | true => (0, 65535)
      | false => zfull
def zs2 (m : Int) : Int × Int := match decide (m ≤ 3) with
  | true => (1, 8)
  | false => match decide (m ≤ 5) with
    | true => (1, 32)
    | false => match decide (m ≤ 6) with
      | true => (1, 64)
      | false => match decide (m ≤ 8) with
        | true => (1, 256)
        | false => zfull
def zorg (o : Nat) (la ha lb hb : Int) : Int × Int := match o with
  | 0 => zin2 (la + lb) (ha + hb) zfull
  | 1 => zin2 (la - hb) (ha - lb) zfull
  | 2 => match decide (0 ≤ la) && decide (0 ≤ lb) with
    | true => zin2 (la * lb) (ha * hb) zfull
    | false => zfull
  | 3 => match decide (0 ≤ lb) && xin hb with
    | true => (0, hb)
    | false => match decide (0 ≤ la) && xin ha with
      | true => (0, ha)
      | false => zfull
  | 4 => match decide (0 ≤ la) && decide (0 ≤ lb) with
    | true => zpow (zmax ha hb)
    | false => zfull
  | 6 => match decide (la = 1) && (decide (ha = 1) && decide (0 ≤ lb)) with
    | true => zs2 hb
    | false => zfull
  | _ => zfull
/-- may it be divided by -/
def znz (fa : zFa) (b : zI) : Bool := zrk fa b fun lb hb => decide (0 < lb) || (decide (hb < 0) || (match b with
  | .inr (k, m, c) => decide (m = 1) && xmZ (zr fa k).2.2 (-c)
  | .inl _ => false))
def zdvR (rem : Bool) (la ha lb hb : Int) : Int × Int := match decide (0 ≤ la) && (decide (0 < lb) && (xin ha && xin hb)) with
  | true => match rem with
    | true => (0, zmin ha (hb - 1))
    | false => (0, ha)
  | false => zfull
