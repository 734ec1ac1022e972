/-! A small machine that runs the bytecode over a concrete picture of the heap, with script ints as symbols; every path must end well. Its answers are Bools, so the kernel runs it. -/
abbrev xF : Type := (Nat → Int32) → Int32
abbrev xI : Type := Int ⊕ (Nat × xF)
abbrev xV : Type := xI ⊕ (Option Nat ⊕ Int)
abbrev xA : Type := FieldType × Nat × (List (Nat × xI) ⊕ List (Nat × Int))
abbrev xC : Type := xA ⊕ (Nat × List xV)
abbrev xL : Type := List (Nat × xV)
abbrev xG : Type := Int × Int × List Int
abbrev xFa : Type := List (Nat × xG) × List (Nat × Nat)
/-- y, bytes, locals, answer, own, (frames, words, cells, slots), number of arguments -/
abbrev xR : Type := MethodName × ByteArray × Nat × Option FieldType × Nat × (Nat × Nat × Nat × Nat) × Nat × List (Nat × Instr × Nat)
abbrev xK : Type := xFa → Option xV → List xC → Bool
abbrev xS : Type := xR → Nat → xL → List xV → List xC → Nat → Nat → xFa → xK → Bool
def xz_SC : Nat := 1000000
def xrm (r : xR) : Room := { frames := r.2.2.2.2.2.1.1, cells := r.2.2.2.2.2.1.2.2.1, slots := r.2.2.2.2.2.1.2.2.2, locals := r.2.2.2.2.2.1.2.1 }
-- forcing: the same number, worked out
def fN (n : Nat) (k : Nat → Bool) : Bool := match n with
  | 0 => k 0
  | m + 1 => k (m + 1)
theorem fN_eq (n : Nat) (k : Nat → Bool) : fN n k = k n := by cases n <;> rfl
def fZ (z : Int) (k : Int → Bool) : Bool := match z with
  | .ofNat n => fN n (fun n => k (.ofNat n))
  | .negSucc n => fN n (fun n => k (.negSucc n))
theorem fZ_eq (z : Int) (k : Int → Bool) : fZ z k = k z := by cases z <;> simp [fZ, fN_eq]
def fI (v : xI) (k : xI → Bool) : Bool := match v with
  | .inl z => fZ z (fun z => k (.inl z))
  | .inr (j, f) => fN j (fun j => k (.inr (j, f)))
theorem fI_eq (v : xI) (k : xI → Bool) : fI v k = k v := by
  rcases v with z | ⟨j, f⟩ <;> simp [fI, fZ_eq, fN_eq]
def fV (v : xV) (k : xV → Bool) : Bool := match v with
  | .inl i => fI i (fun i => k (.inl i))
  | .inr (.inl none) => k (.inr (.inl none))
  | .inr (.inl (some i)) => fN i (fun i => k (.inr (.inl (some i))))
  | .inr (.inr z) => fZ z (fun z => k (.inr (.inr z)))
theorem fV_eq (v : xV) (k : xV → Bool) : fV v k = k v := by
  rcases v with i | (_ | i) | z <;> simp [fV, fI_eq, fZ_eq, fN_eq]
def fSet {α : Type} : List α → Nat → α → (List α → Bool) → Bool
  | [], _, _, k => k []
  | _ :: t, 0, v, k => k (v :: t)
  | a :: t, n + 1, v, k => fSet t n v (fun t' => k (a :: t'))
theorem fSet_eq {α : Type} (l : List α) : ∀ (i : Nat) (v : α) (k : List α → Bool), fSet l i v k = k (l.set i v) := by
  induction l with
  | nil => intro i v k; rfl
  | cons a t ih =>
    intro i v k
    cases i with
    | zero => rfl
    | succ n => exact ih n v _
def fApp {α : Type} : List α → α → (List α → Bool) → Bool
  | [], v, k => k [v]
  | a :: t, v, k => fApp t v (fun t' => k (a :: t'))
theorem fApp_eq {α : Type} (l : List α) : ∀ (v : α) (k : List α → Bool), fApp l v k = k (l ++ [v]) := by
  induction l with
  | nil => intro v k; rfl
  | cons a t ih => intro v k; exact ih v _
def fFil (p : Nat × xV → Bool) : xL → (xL → Bool) → Bool
  | [], k => k []
  | q :: t, k => match p q with
    | true => fFil p t (fun t' => k (q :: t'))
    | false => fFil p t k
theorem fFil_eq (p : Nat × xV → Bool) (l : xL) : ∀ (k : xL → Bool), fFil p l k = k (l.filter p) := by
  induction l with
  | nil => intro k; rfl
  | cons q t ih =>
    intro k
    cases h : p q <;> simp [fFil, h, ih]
def gt {α : Type} : List α → Nat → Option α
  | [], _ => none
  | a :: _, 0 => some a
  | _ :: t, n + 1 => gt t n
theorem gt_eq {α : Type} (l : List α) : ∀ i : Nat, gt l i = l[i]? := by
  induction l with
  | nil => intro i; rfl
  | cons a t ih =>
    intro i
    cases i with
    | zero => rfl
    | succ n =>
      show gt t n = _
      rw [ih n]
      rfl
-- what a picture means
def dI (σ : Nat → Int32) : xI → Int32
  | .inl z => Int32.ofInt z
  | .inr (k, f) => if k < 100 then σ k else f σ
def dV (ρ : Nat → Nat) (σ : Nat → Int32) : xV → Value
  | .inl i => .int (dI σ i)
  | .inr (.inl none) => .null
  | .inr (.inl (some i)) => .ref (ρ i)
  | .inr (.inr z) => .long (Int64.ofInt z)
def xlk : List (Nat × xI) → Nat → xI
  | [], _ => .inl 0
  | (k, v) :: t, j => match Nat.beq j k with
    | true => v
    | false => xlk t j
def xlkL : List (Nat × Int) → Nat → Int
  | [], _ => 0
  | (k, v) :: t, j => match Nat.beq j k with
    | true => v
    | false => xlkL t j
def dE (ρ : Nat → Nat) (γ : Nat → ClassId) (σ : Nat → Int32) (i : Nat) : xC → Nat × va_E
  | .inl (_, n, .inl us) => (ρ i, .inl (γ i, n, .inl (fun j => dI σ (xlk us j))))
  | .inl (_, n, .inr us) => (ρ i, .inl (γ i, n, .inr (.inl (fun j => Int64.ofInt (xlkL us j)))))
  | .inr (ci, fs) => (ρ i, .inr (ci, fs.map (dV ρ σ)))
def cw (ρ : Nat → Nat) (γ : Nat → ClassId) (σ : Nat → Int32) (w : List xC) : va_W := w.mapIdx (dE ρ γ σ)
-- facts on symbols
def sat (σ : Nat → Int32) (fa : xFa) : Prop := (∀ q ∈ fa.1, q.2.1 ≤ (σ q.1).toInt ∧ (σ q.1).toInt ≤ q.2.2.1 ∧ ∀ n ∈ q.2.2.2, (σ q.1).toInt ≠ n) ∧ ∀ q ∈ fa.2, (σ q.1).toInt ≤ (σ q.2).toInt
def xr0 : List (Nat × xG) → Nat → xG
  | [], _ => (-2147483648, 2147483647, [])
  | (j, g) :: t, k => match Nat.beq j k with
    | true => g
    | false => xr0 t k
def xrR (fs : List (Nat × xG)) : List (Nat × Nat) → Nat → xG → xG
  | [], _, g => g
  | (a, b) :: t, k, g => xrR fs t k (match Nat.beq a k with
    | true => (g.1, (if (xr0 fs b).2.1 < g.2.1 then (xr0 fs b).2.1 else g.2.1), g.2.2)
    | false => match Nat.beq b k with
      | true => ((if g.1 < (xr0 fs a).1 then (xr0 fs a).1 else g.1), g.2.1, g.2.2)
      | false => g)
def xr (fa : xFa) (k : Nat) : xG := xrR fa.1 fa.2 k (xr0 fa.1 k)
def xmZ : List Int → Int → Bool
  | [], _ => false
  | a :: t, z => match decide (a = z) with
    | true => true
    | false => xmZ t z
def xup (nes : List Int) (lo : Int) : Int := match xmZ nes lo with
  | true => lo + 1
  | false => lo
def xdn (nes : List Int) (hi : Int) : Int := match xmZ nes hi with
  | true => hi - 1
  | false => hi
def xset (fa : xFa) (k : Nat) (lo hi : Int) (nes : List Int) (K : xFa → Bool) : Bool :=
  fZ (xup nes (xup nes lo)) fun lo => fZ (xdn nes (xdn nes hi)) fun hi => match decide (hi < lo) with
    | true => true
    | false => K ((k, (lo, hi, nes)) :: fa.1, fa.2)
def xrel : List (Nat × Nat) → Nat → Nat → Bool
  | [], _, _ => false
  | (a, b) :: t, j, k => match Nat.beq a j && Nat.beq b k with
    | true => true
    | false => xrel t j k
def xin (z : Int) : Bool := decide (-2147483648 ≤ z) && decide (z ≤ 2147483647)
def xltA (fa : xFa) (k : Nat) (c : Int) (g : xG) (KT KF : xFa → Bool) : Bool := match decide (g.2.1 < c) with
  | true => KT fa
  | false => match decide (c ≤ g.1) with
    | true => KF fa
    | false => xset fa k g.1 (c - 1) g.2.2 KT && xset fa k c g.2.1 g.2.2 KF
def xltB (fa : xFa) (k : Nat) (c : Int) (g : xG) (KT KF : xFa → Bool) : Bool := match decide (c < g.1) with
  | true => KT fa
  | false => match decide (g.2.1 ≤ c) with
    | true => KF fa
    | false => xset fa k g.1 c g.2.2 KF && xset fa k (c + 1) g.2.1 g.2.2 KT
def xlt (a b : xI) (fa : xFa) (KT KF : xFa → Bool) : Bool := match a, b with
  | .inl x, .inl y => xin x && (xin y && (match decide (x < y) with | true => KT fa | false => KF fa))
  | .inr (k, _), .inl c => match Nat.blt k 100 with
    | true => xin c && xltA fa k c (xr fa k) KT KF
    | false => KF fa && KT fa
  | .inl c, .inr (k, _) => match Nat.blt k 100 with
    | true => xin c && xltB fa k c (xr fa k) KT KF
    | false => KF fa && KT fa
  | .inr (k, _), .inr (j, _) => match Nat.blt k 100 && Nat.blt j 100 with
    | true => match Nat.beq k j with
      | true => KF fa
      | false => match xrel fa.2 j k with
        | true => KF fa
        | false => KF (fa.1, (j, k) :: fa.2) && KT (fa.1, (k, j) :: fa.2)
    | false => KF fa && KT fa
def xeqA (fa : xFa) (k : Nat) (c : Int) (g : xG) (KT KF : xFa → Bool) : Bool := match decide (c < g.1) || (decide (g.2.1 < c) || xmZ g.2.2 c) with
  | true => KF fa
  | false => match decide (g.1 = c) && decide (g.2.1 = c) with
    | true => KT fa
    | false => xset fa k c c g.2.2 KT && xset fa k g.1 g.2.1 (c :: g.2.2) KF
def xeq (a b : xI) (fa : xFa) (KT KF : xFa → Bool) : Bool := match a, b with
  | .inl x, .inl y => xin x && (xin y && (match decide (x = y) with | true => KT fa | false => KF fa))
  | .inr (k, _), .inl c => match Nat.blt k 100 with
    | true => xin c && xeqA fa k c (xr fa k) KT KF
    | false => KF fa && KT fa
  | .inl c, .inr (k, _) => match Nat.blt k 100 with
    | true => xin c && xeqA fa k c (xr fa k) KT KF
    | false => KF fa && KT fa
  | .inr (k, _), .inr (j, _) => match Nat.blt k 100 && (Nat.blt j 100 && Nat.beq k j) with
    | true => KT fa
    | false => KF fa && KT fa
/-- a symbol of few values: each of them -/
def xcnL (fa : xFa) (j : Nat) (g : xG) (k : xFa → xI → Bool) : List Nat → Bool
  | [] => true
  | d :: t => (match decide (g.2.1 < g.1 + d) with
    | true => true
    | false => xset fa j (g.1 + d) (g.1 + d) g.2.2 (fun fa' => fZ (g.1 + d) fun c => k fa' (.inl c))) && xcnL fa j g k t
def xcn (a : xI) (fa : xFa) (dflt : Bool) (k : xFa → xI → Bool) : Bool := match a with
  | .inl _ => dflt
  | .inr (j, _) => match Nat.blt j 100 && decide ((xr fa j).2.1 - (xr fa j).1 ≤ 8) with
    | true => xcnL fa j (xr fa j) k [0, 1, 2, 3, 4, 5, 6, 7, 8]
    | false => dflt
-- arithmetic
def xop : Nat → Int32 → Int32 → Int32
  | 0, x, y => x + y
  | 1, x, y => x - y
  | 2, x, y => x * y
  | 3, x, y => x &&& y
  | 4, x, y => x ||| y
  | 5, x, y => x ^^^ y
  | 6, x, y => x <<< (y &&& 31)
  | 7, x, y => x >>> (y &&& 31)
  | _, x, y => (x.toUInt32 >>> (y.toUInt32 &&& Int32.toUInt32 31)).toInt32
def xopS (o : Nat) (a b : xI) : Option xI := match a, b with
  | .inl x, .inl y => some (.inl (xop o (Int32.ofInt x) (Int32.ofInt y)).toInt)
  | .inl x, .inr q => match decide (x = 0) with
    | true => match o with
      | 0 => some (.inr q)
      | 2 => some (.inl 0)
      | 3 => some (.inl 0)
      | 6 => some (.inl 0)
      | 7 => some (.inl 0)
      | _ => none
    | false => none
  | .inr q, .inl y => match o with
    | 0 => match decide (y = 0) with | true => some (.inr q) | false => none
    | 1 => match decide (y = 0) with | true => some (.inr q) | false => none
    | 2 => match decide (y = 0) with | true => some (.inl 0) | false => none
    | 3 => match Nat.beq q.1 0 && decide (y = 63) with | true => some (.inr (50, q.2)) | false => none
    | _ => none
  | .inr _, .inr _ => none
