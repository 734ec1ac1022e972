/-! The second machine's steps. Declared: zDc, a cell's: an array (type, length, ranges by index) or an object (class, its fields: a range, the allowed references, a long); zPr: two int fields whose sum (true) or difference (false) is at most a number; zSm: a summary (row of xmt, frames and words, arguments, answer, places that may be written, fields that must hold a cell). -/
abbrev zF : Type := (Int × Int) ⊕ (List (Option Nat) ⊕ Unit)
abbrev zDc : Type := (FieldType × Nat × List (Int × Int)) ⊕ (Nat × List zF)
abbrev zPr : Type := Bool × (Nat × Nat) × (Nat × Nat) × Int
abbrev zP : Type := (Int × Int) ⊕ (Option Nat ⊕ Unit)
abbrev zNm : Type := List (Nat × Nat × (Nat ⊕ Nat))
abbrev zRg : Type := List (Nat × Int × Int)
/-- what may hold behind a summary: names of fields, ranges, relations -/
abbrev zAl : Type := List (Nat × Nat × Nat) × zRg × List zRl
/-- names of int places at its start (symbol, cell, field or the symbol of an index), their ranges; what may hold behind it -/
abbrev zEx : Type := (zNm × zRg) × List zAl
abbrev zSm : Type := Nat × (Nat × Nat) × List zP × Option zP × List Nat × List (Nat × Nat × Nat) × zEx
abbrev zR : Type := xR × List Nat
abbrev zCk : Type := Nat → zL → List zV → zCa → zFa → Nat → Bool
abbrev zS : Type := zR → Nat → zL → List zV → zCa → zFa → Nat → zK → Bool
abbrev zTb : Type := List zSm × List zDc × List zPr
/-- arrays that no run writes itself unless it says so (4677): units, ruleFrom, ruleTo, code -/
def kSp : List Nat := [61, 73, 74, 77]
/-- of a run: the hook, which summaries a method has, how many stand, places that may be written -/
abbrev zRn : Type := zCk × List (Nat × List Nat) × Nat × List Nat
def gFil {α : Type} (p : α → Bool) : List α → (List α → Bool) → Bool
  | [], k => k []
  | q :: t, k => match p q with
    | true => gFil p t (fun t' => k (q :: t'))
    | false => gFil p t k
def zAll {α : Type} (p : α → Bool) : List α → Bool
  | [] => true
  | a :: t => p a && zAll p t
def xmN : List Nat → Nat → Bool
  | [], _ => false
  | a :: t, b => match Nat.beq a b with
    | true => true
    | false => xmN t b
def zll : zL → Nat → Option zV
  | [], _ => none
  | (k, v) :: t, j => match Nat.beq k j with
    | true => some v
    | false => zll t j
def zlg : zV → Bool
  | .inr (.inr _) => true
  | _ => false
def zcat (v : zV) : Nat := match zlg v with
  | true => 2
  | false => 1
def zcats : List zV → Nat
  | [] => 0
  | v :: t => zcat v + zcats t
def zp1 (i : Nat) (q : Nat × zV) : Bool := !(q.1 == i) && !(q.1 + 1 == i && zlg q.2)
def zp2 (i : Nat) (q : Nat × zV) : Bool := !(q.1 == i) && (!(q.1 == i + 1) && !(q.1 + 1 == i && zlg q.2))
def zargs : Nat → List zV → zL
  | _, [] => []
  | i, v :: t => (i, v) :: zargs (i + zcat v) t
def ztk : Nat → List zV → List zV → (List zV → List zV → Bool) → Bool
  | 0, l, acc, k => k acc l
  | n + 1, v :: l, acc, k => ztk n l (v :: acc) k
  | _ + 1, [], _, _ => false
-- the cache
def zcF (i k : Nat) : zCa → Option zV
  | [] => none
  | ((j, .inl f), v) :: t => match Nat.beq j i && Nat.beq f k with
    | true => some v
    | false => zcF i k t
  | ((_, .inr _), _) :: t => zcF i k t
def zcA (i : Nat) (ix : zI) : zCa → Option zV
  | [] => none
  | ((j, .inr x), v) :: t => match Nat.beq j i && zeB x ix with
    | true => some v
    | false => zcA i ix t
  | ((_, .inl _), _) :: t => zcA i ix t
def znF (i k : Nat) (q : (Nat × zKy) × zV) : Bool := match q.1.2 with
  | .inl f => !(Nat.beq q.1.1 i && Nat.beq f k)
  | .inr _ => true
def znA (i : Nat) (q : (Nat × zKy) × zV) : Bool := match q.1.2 with
  | .inl _ => true
  | .inr _ => !(Nat.beq q.1.1 i)
def znW (wr : List Nat) (q : (Nat × zKy) × zV) : Bool := match q.1.2 with
  | .inl f => Nat.blt f 64 && !(xmN wr (64 * q.1.1 + f))
  | .inr _ => !(xmN wr (64 * q.1.1))
-- ranges by index
def zrj (rs : List (Int × Int)) (j : Nat) : Int × Int := match gt rs (j % rs.length) with
  | some q => q
  | none => zfull
def zcvL (rs : List (Int × Int)) : Nat → Nat → List (Int × Int)
  | 0, _ => []
  | n + 1, j => zrj rs j :: zcvL rs n (j + 1)
def zcov (fa : zFa) (rs : List (Int × Int)) (ix : zI) : List (Int × Int) := match rs with
  | [] => [zfull]
  | [q] => [q]
  | rs => match ix with
    | .inl z => [zrj rs z.toNat]
    | .inr (k, m, c) => match decide (m % 25 = 0) && (Nat.beq rs.length 25 && decide (0 ≤ c)) with
      | true => [zrj rs c.toNat]
      | false => match decide ((zrg fa (.inr (k, m, c))).2 - (zrg fa (.inr (k, m, c))).1 ≤ 30) with
        | true => zcvL rs ((zrg fa (.inr (k, m, c))).2 - (zrg fa (.inr (k, m, c))).1 + 1).toNat (zrg fa (.inr (k, m, c))).1.toNat
        | false => rs
def zhl : List (Int × Int) → Int × Int
  | [] => zfull
  | [q] => q
  | q :: t => (zmin q.1 (zhl t).1, zmax q.2 (zhl t).2)
def zal (a b : Int) : List (Int × Int) → Bool
  | [] => true
  | q :: t => decide (q.1 ≤ a) && (decide (b ≤ q.2) && zal a b t)
def zmO : List (Option Nat) → Option Nat → Bool
  | [], _ => false
  | none :: t, c => match c with
    | none => true
    | some _ => zmO t c
  | some a :: t, c => match c with
    | none => zmO t c
    | some b => match Nat.beq a b with
      | true => true
      | false => zmO t c
/-- what the cache holds there is as declared -/
def zf1 (dec : List zDc) (fa : zFa) (q : (Nat × zKy) × zV) : Bool := match gt dec q.1.1 with
  | some (.inr (_, fs)) => match q.1.2 with
    | .inl k => match gt fs k with
      | some (.inl (a, b)) => match q.2 with
        | .inl x => zrk fa x fun lo hi => decide (a ≤ lo) && (decide (hi ≤ b) && (xin lo && xin hi))
        | _ => false
      | some (.inr (.inl cs)) => match q.2 with
        | .inr (.inl c) => zmO cs c
        | _ => false
      | some (.inr (.inr _)) => match q.2 with
        | .inr (.inr _) => true
        | _ => false
      | none => false
    | .inr _ => false
  | some (.inl (_, _, rs)) => match q.1.2 with
    | .inr ix => match q.2 with
      | .inl x => zrk fa x fun lo hi => xin lo && (xin hi && zal lo hi (zcov fa rs ix))
      | _ => false
    | .inl _ => false
  | none => false
def zrelS : List zRl → Nat → Nat → Int → Bool
  | [], _, _, _ => false
  | (sg, a, b, c) :: t, j, k, d => match sg && (Nat.beq a j && (Nat.beq b k && decide (c ≤ d))) with
    | true => true
    | false => zrelS t j k d
def zsmB (fa : zFa) (a b : zI) (c : Int) : Bool := match decide ((zrg fa a).2 + (zrg fa b).2 ≤ c) with
  | true => true
  | false => match a, b with
    | .inr (k, m, x), .inr (j, n, y) => decide (m = 1) && (decide (n = 1) && (zrelS fa.2.1 k j (c - x - y) || zrelS fa.2.1 j k (c - x - y)))
    | _, _ => false
def zfr1 (fa : zFa) (ca : zCa) (q : zPr) : Bool := match zcF q.2.1.1 q.2.1.2 ca with
  | none => match zcF q.2.2.1.1 q.2.2.1.2 ca with
    | none => true
    | some _ => false
  | some (.inl a) => match zcF q.2.2.1.1 q.2.2.1.2 ca with
    | some (.inl b) => z32 fa a && (z32 fa b && (match q.1 with
      | true => zsmB fa a b q.2.2.2
      | false => zleB fa a (zad b q.2.2.2)))
    | _ => false
  | some _ => false
/-- all that the cache holds is as declared -/
def zfl (T : zTb) (fa : zFa) (ca : zCa) : Bool := zAll (zf1 T.2.1 fa) ca && zAll (zfr1 fa ca) T.2.2
def zflA (T : zTb) (fa : zFa) (i : Nat) (ca : zCa) : Bool := zAll (fun q => znA i q || zf1 T.2.1 fa q) ca
/-- the other field of a pair, and whether this one is the first -/
def zpt (i k : Nat) : List zPr → Option (zPr × Bool)
  | [] => none
  | q :: t => match Nat.beq q.2.1.1 i && Nat.beq q.2.1.2 k with
    | true => some (q, true)
    | false => match Nat.beq q.2.2.1.1 i && Nat.beq q.2.2.1.2 k with
      | true => some (q, false)
      | false => zpt i k t
def zrgF (dec : List zDc) (i k : Nat) : Option (Int × Int) := match gt dec i with
  | some (.inr (_, fs)) => match gt fs k with
    | some (.inl q) => some q
    | _ => none
  | _ => none
def zidx (fa : zFa) (ix : zI) (m : Nat) : Bool := zrk fa ix fun a b => decide (0 ≤ a) && (decide (b < (m : Int)) && xin b)
/-- fields: M's fault is set to what is more than 0; its rb and codes aren't set -/
def zpok (fa : zFa) (i k : Nat) (v : zV) : Bool := match Nat.beq i 56 with
  | false => true
  | true => match k with
    | 4 => match v with
      | .inl x => zrk fa x fun lo hi => decide (1 ≤ lo) && (xin lo && xin hi)
      | _ => false
    | 35 => false
    | 36 => false
    | _ => true
def zok (ty : FieldType) (v : zV) : Bool := match ty, v with
  | .int, .inl _ => true
  | .long, .inr (.inr _) => true
  | .object _, .inr (.inl _) => true
  | .array _, .inr (.inl _) => true
  | _, _ => false
def zaB (fa : zFa) : List zP → List zV → Bool
  | [], [] => true
  | .inl (a, b) :: ps, .inl x :: vs => (zrk fa x fun lo hi => decide (a ≤ lo) && (decide (hi ≤ b) && (xin lo && xin hi))) && zaB fa ps vs
  | .inr (.inl none) :: ps, .inr (.inl none) :: vs => zaB fa ps vs
  | .inr (.inl (some i)) :: ps, .inr (.inl (some j)) :: vs => Nat.beq i j && zaB fa ps vs
  | .inr (.inr _) :: ps, .inr (.inr _) :: vs => zaB fa ps vs
  | _, _ => false
def zisI : zV → Bool
  | .inl _ => true
  | _ => false
def zisR : zV → Bool
  | .inr (.inl _) => true
  | _ => false
def zisL : zV → Bool
  | .inr (.inr _) => true
  | _ => false
def zneg : zI → zI
  | .inl z => .inl (-z)
  | .inr (k, m, c) => .inr (k, -m, -c)
def zsym (k : Nat) : zI := .inr (k, 1, 0)
section
variable (T : zTb) (U : zRn) (ih : zS) (r : zR) (pc : Nat) (lo : zL) (sk : List zV) (ca : zCa) (fa : zFa) (nf : Nat) (K : zK) (n : Nat)
def zpush (d : Nat) (v : zV) (rest : List zV) : Bool := Nat.beq n d && gV v fun v => fN (pc + d) fun pc => ih r pc lo (v :: rest) ca fa nf K
/-- the symbol nf is new here -/
def znew (rest : List zV) : Bool := zbS nf rest && (zbL nf lo && (zbC nf ca && zbF nf fa))
/-- a new int -/
def zpuF (d : Nat) (q : Int × Int) (nes : List Int) (rl : List zRl) (mm : List zMm) (rest : List zV) : Bool := Nat.beq n d && (znew lo ca fa nf rest && fZ q.1 fun a => fZ q.2 fun b => fN (pc + d) fun pc => fN (nf + 1) fun nf1 => ih r pc lo (.inl (zsym nf) :: rest) ca ((nf, (a, b, nes)) :: fa.1, rl ++ fa.2.1, mm ++ fa.2.2) nf1 K)
/-- a new long -/
def zpuL (d : Nat) (rest : List zV) : Bool := Nat.beq n d && (znew lo ca fa nf rest && fN (pc + d) fun pc => fN (nf + 1) fun nf1 => ih r pc lo (.inr (.inr (zsym nf)) :: rest) ca fa nf1 K)
def zload (d i : Nat) (ok : zV → Bool) : Bool := match zll lo i with
  | some v => ok v && zpush ih r pc lo ca fa nf K n d v sk
  | none => false
def zstore (d i : Nat) (ok : zV → Bool) : Bool := match sk with
  | v :: rest => Nat.beq n d && (ok v && (Nat.blt i r.1.2.2.1 && gFil (zp1 i) lo fun lo => fN (pc + d) fun pc => ih r pc ((i, v) :: lo) rest ca fa nf K))
  | [] => false
def zstoreL (d i : Nat) : Bool := match sk with
  | .inr (.inr z) :: rest => Nat.beq n d && (Nat.blt (i + 1) r.1.2.2.1 && gFil (zp2 i) lo fun lo => fN (pc + d) fun pc => ih r pc ((i, .inr (.inr z)) :: lo) rest ca fa nf K)
  | _ => false
def ziinc (i : Nat) (z : Int) : Bool := match zll lo i with
  | some (.inl a) => Nat.beq n 3 && (Nat.blt i r.1.2.2.1 && (match z32 fa (zad a z) with
    | true => gI (zad a z) fun v => gFil (zp1 i) lo fun lo => fN (pc + 3) fun pc => ih r pc ((i, .inl v) :: lo) sk ca fa nf K
    | false => znew lo ca fa nf sk && gFil (zp1 i) lo fun lo => fN (pc + 3) fun pc => fN (nf + 1) fun nf1 => ih r pc ((i, .inl (zsym nf)) :: lo) sk ca ((nf, (zfull.1, zfull.2, [])) :: fa.1, fa.2) nf1 K))
  | _ => false
def zandr (o : Nat) (b : zI) (lb hb : Int) : List zRl := match o, b with
  | 3, .inr (k, m, c) => match decide (m = 1) && (decide (0 ≤ lb) && (xin hb && Nat.blt k nf)) with
    | true => [(false, nf, k, c)]
    | false => []
  | _, _ => []
def zbin (o : Nat) : Bool := match sk with
  | .inl b :: .inl a :: rest => match zsy o a b with
    | some v => match z32 fa v with
      | true => zpush ih r pc lo ca fa nf K n 1 (.inl v) rest
      | false => zpuF ih r pc lo ca fa nf K n 1 zfull [] [] [] rest
    | none => Nat.blt o 9 && (match zmem fa.2.2 o a b with
      | some k => zpush ih r pc lo ca fa nf K n 1 (.inl (zsym k)) rest
      | none => (zbI nf a && zbI nf b) && (zrk fa a fun la ha => zrk fa b fun lb hb => zpuF ih r pc lo ca fa nf K n 1 (zorg o la ha lb hb) [] (zandr nf o b lb hb) [(a, b, nf, o)] rest))
  | _ => false
def zdo9 (rem : Bool) : Nat := match rem with
  | true => 10
  | false => 9
def zdiv (rem : Bool) : Bool := match sk with
  | .inl b :: .inl a :: rest => znz fa b && (z32 fa b && (match zmem fa.2.2 (zdo9 rem) a b with
    | some k => zpush ih r pc lo ca fa nf K n 1 (.inl (zsym k)) rest
    | none => (zbI nf a && zbI nf b) && (zrk fa a fun la ha => zrk fa b fun lb hb => match b with
      | .inr (k, m, c) => match rem && (decide (m = 1) && (decide (0 ≤ la) && (decide (0 < lb) && xin ha))) with
        | true => Nat.blt k nf && fZ (c - 1) fun c1 => zpuF ih r pc lo ca fa nf K n 1 (zdvR true la ha lb hb) [] [(false, nf, k, c1)] [(a, .inr (k, m, c), nf, zdo9 rem)] rest
        | false => zpuF ih r pc lo ca fa nf K n 1 (zdvR rem la ha lb hb) [] [] [(a, .inr (k, m, c), nf, zdo9 rem)] rest
      | .inl y => match a with
        | .inl x => zpush ih r pc lo ca fa nf K n 1 (.inl (.inl (match rem with | true => (Int32.ofInt x - Int32.ofInt x / Int32.ofInt y * Int32.ofInt y).toInt | false => (Int32.ofInt x / Int32.ofInt y).toInt))) rest
        | .inr q => zpuF ih r pc lo ca fa nf K n 1 (zdvR rem la ha lb hb) [] [] [(.inr q, .inl y, nf, zdo9 rem)] rest)))
  | _ => false
def zine : Bool := match sk with
  | .inl a :: rest => match z32 fa (zneg a) with
    | true => zpush ih r pc lo ca fa nf K n 1 (.inl (zneg a)) rest
    | false => zpuF ih r pc lo ca fa nf K n 1 zfull [] [] [] rest
  | _ => false
/-- an int out of an int, of which the range alone is known -/
def zun (q : Int × Int) : Bool := match sk with
  | .inl _ :: rest => zpuF ih r pc lo ca fa nf K n 1 q [] [] [] rest
  | _ => false
def zi2l : Bool := match sk with
  | .inl a :: rest => match z32 fa a with
    | true => zpush ih r pc lo ca fa nf K n 1 (.inr (.inr a)) rest
    | false => zpuL ih r pc lo ca fa nf K n 1 rest
  | _ => false
def zl2i : Bool := match sk with
  | .inr (.inr _) :: rest => zpuF ih r pc lo ca fa nf K n 1 zfull [] [] [] rest
  | _ => false
def zbinL : Bool := match sk with
  | .inr (.inr _) :: .inr (.inr _) :: rest => zpuL ih r pc lo ca fa nf K n 1 rest
  | _ => false
def zshL : Bool := match sk with
  | .inl _ :: .inr (.inr _) :: rest => zpuL ih r pc lo ca fa nf K n 1 rest
  | _ => false
def zlcmp : Bool := match sk with
  | .inr (.inr y) :: .inr (.inr x) :: rest => match z64 fa x && z64 fa y with
    | true => zeq x y fa (fun fa => zpush ih r pc lo ca fa nf K n 1 (.inl (.inl 0)) rest) (fun fa => zpuF ih r pc lo ca fa nf K n 1 (-1, 1) [0] [] [] rest)
    | false => zpuF ih r pc lo ca fa nf K n 1 (-1, 1) [] [] [] rest
  | _ => false
def zdup : Bool := match sk with
  | v :: rest => !(zlg v) && zpush ih r pc lo ca fa nf K n 1 v (v :: rest)
  | [] => false
def zpop : Bool := match sk with
  | v :: rest => !(zlg v) && (Nat.beq n 1 && fN (pc + 1) fun pc => ih r pc lo rest ca fa nf K)
  | [] => false
def zdup2 : Bool := match sk with
  | v :: u :: rest => !(zlg v) && (!(zlg u) && zpush ih r pc lo ca fa nf K n 1 v (u :: v :: u :: rest))
  | _ => false
def zgo (off : Int) (rest : List zV) (fa : zFa) : Bool := match decide ((pc : Int) + off < 0) with
  | true => false
  | false => fN ((pc : Int) + off).toNat fun pc => ih r pc lo rest ca fa nf K
def zon (rest : List zV) (fa : zFa) : Bool := fN (pc + 3) fun pc => ih r pc lo rest ca fa nf K
def zceq (a b : zI) (fa : zFa) (KT KF : zFa → Bool) : Bool := match z32 fa a && z32 fa b with
  | true => zeq a b fa KT KF
  | false => KT fa && KF fa
def zclt (a b : zI) (fa : zFa) (KT KF : zFa → Bool) : Bool := match z32 fa a && z32 fa b with
  | true => zlt a b fa KT KF
  | false => KT fa && KF fa
def zcmp (c : Jvm.ClassFile.Cond) (off : Int) (a b : zI) (rest : List zV) : Bool := Nat.beq n 3 && (decide (0 ≤ (pc : Int) + off) && match c with
  | .eq => zceq a b fa (zgo ih r pc lo ca nf K off rest) (zon ih r pc lo ca nf K rest)
  | .ne => zceq a b fa (zon ih r pc lo ca nf K rest) (zgo ih r pc lo ca nf K off rest)
  | .lt => zclt a b fa (zgo ih r pc lo ca nf K off rest) (zon ih r pc lo ca nf K rest)
  | .ge => zclt a b fa (zon ih r pc lo ca nf K rest) (zgo ih r pc lo ca nf K off rest)
  | .gt => zclt b a fa (zgo ih r pc lo ca nf K off rest) (zon ih r pc lo ca nf K rest)
  | .le => zclt b a fa (zon ih r pc lo ca nf K rest) (zgo ih r pc lo ca nf K off rest))
def zif1 (c : Jvm.ClassFile.Cond) (off : Int) : Bool := match sk with
  | .inl a :: rest => zcmp ih r pc lo ca fa nf K n c off a (.inl 0) rest
  | _ => false
def zif2 (c : Jvm.ClassFile.Cond) (off : Int) : Bool := match sk with
  | .inl b :: .inl a :: rest => zcmp ih r pc lo ca fa nf K n c off a b rest
  | _ => false
/-- which symbols are still spoken of -/
def zlvI (k : Nat) : zI → Bool
  | .inl _ => false
  | .inr (j, _, _) => Nat.beq j k
def zlvV (k : Nat) : zV → Bool
  | .inl i => zlvI k i
  | .inr (.inl _) => false
  | .inr (.inr i) => zlvI k i
def zAny {α : Type} (p : α → Bool) : List α → Bool
  | [] => false
  | a :: t => match p a with
    | true => true
    | false => zAny p t
def zlvK (k : Nat) : zKy → Bool
  | .inl _ => false
  | .inr i => zlvI k i
def zlive (q : Nat × zG) : Bool := Nat.blt q.1 100 || (zAny (fun x => zlvV q.1 x.2) lo || (zAny (zlvV q.1) sk || (zAny (fun x => zlvK q.1 x.1.2 || zlvV q.1 x.2) ca || (zAny (fun x => Nat.beq q.1 x.2.1 || Nat.beq q.1 x.2.2.1) fa.2.1 || zAny (fun x => zlvI q.1 x.1 || (zlvI q.1 x.2.1 || Nat.beq q.1 x.2.2.1)) fa.2.2))))
/-- facts of dead symbols are left out where the run says so -/
def zgoto (off : Int) : Bool := Nat.beq n 3 && (match xfi U.2.1 99999 with
  | some _ => gFil (zlive lo sk ca fa) fa.1 fun fs => zgo ih r pc lo ca nf K off sk (fs, fa.2)
  | none => zgo ih r pc lo ca nf K off sk fa)
/-- a switch: key by key -/
def zswL (v : zI) (rest : List zV) (d : Int) : List (Int × Int) → zFa → Bool
  | [], fa => zgo ih r pc lo ca nf K d rest fa
  | (c, o) :: t, fa => zeq v (.inl c) fa (zgo ih r pc lo ca nf K o rest) (zswL v rest d t)
def zkeys : Int → List Int → List (Int × Int)
  | _, [] => []
  | c, o :: t => (c, o) :: zkeys (c + 1) t
def ztab (d l h : Int) (offs : Array Int) : Bool := match sk with
  | .inl v :: rest => z32 fa v && (decide ((offs.toList.length : Int) = h - l + 1) && zswL ih r pc lo ca nf K v rest d (zkeys l offs.toList) fa)
  | _ => false
def zlks (d : Int) (ps : Array (Int × Int)) : Bool := match sk with
  | .inl v :: rest => z32 fa v && ((ps.toList.zip (ps.toList.drop 1)).all (fun (a, next) => a.1 < next.1) && zswL ih r pc lo ca nf K v rest d ps.toList fa)
  | _ => false
-- the heap
def zlen : Bool := match sk with
  | .inr (.inl (some i)) :: rest => match Nat.beq i xz_SC with
    | true => Nat.beq r.1.2.2.2.2.1 12 && zpush ih r pc lo ca fa nf K n 1 (.inl (zsym 0)) rest
    | false => match gt T.2.1 i with
      | some (.inl (_, m, _)) => zpush ih r pc lo ca fa nf K n 1 (.inl (.inl (m : Int))) rest
      | _ => false
  | _ => false
def zald (ts : List FieldType) : Bool := match sk with
  | .inl ix :: .inr (.inl (some i)) :: rest => match Nat.beq i xz_SC with
    | true => Nat.beq r.1.2.2.2.2.1 12 && (decide (ts = [.int]) && (zleB fa (.inl 0) ix && (zlB fa ix (zsym 0) && zpuF ih r pc lo ca fa nf K n 1 zfull [] [] [] rest)))
    | false => match gt T.2.1 i with
      | some (.inl (ty, m, rs)) => decide (ty ∈ ts) && (zidx fa ix m && (match zcA i ix ca with
        | some v => zpush ih r pc lo ca fa nf K n 1 v rest
        | none => zflA T fa i ca && (Nat.beq n 1 && (znew lo ca fa nf rest && (zbI nf ix && (match zhl (zcov fa rs ix) with
          | (a, b) => fZ a fun a => fZ b fun b => fN (pc + 1) fun pc => fN (nf + 1) fun nf1 => ih r pc lo (.inl (zsym nf) :: rest) (((i, .inr ix), .inl (zsym nf)) :: ca) ((nf, (a, b, [])) :: fa.1, fa.2) nf1 K))))))
      | _ => false
  | _ => false
def zast (ts : List FieldType) : Bool := match sk with
  | .inl v :: .inl ix :: .inr (.inl (some i)) :: rest => match gt T.2.1 i with
    | some (.inl (ty, m, rs)) => Nat.beq n 1 && (decide (ty ∈ ts) && (zidx fa ix m && (xmN U.2.2.2 (64 * i) && ((xmN U.2.2.2 4677 || !(xmN kSp i)) && (zflA T fa i ca && gFil (znA i) ca fun ca => fN (pc + 1) fun pc => match ty with
      | .int => ih r pc lo rest (((i, .inr ix), .inl v) :: ca) fa nf K
      | .byte => decide (rs = [(-128, 127)]) && ih r pc lo rest ca fa nf K
      | .boolean => decide (rs = [(0, 1)]) && ih r pc lo rest ca fa nf K
      | _ => false)))))
    | _ => false
  | _ => false
def zlald : Bool := match sk with
  | .inl ix :: .inr (.inl (some i)) :: rest => match gt T.2.1 i with
    | some (.inl (.long, m, _)) => zidx fa ix m && zpuL ih r pc lo ca fa nf K n 1 rest
    | _ => false
  | _ => false
def zlast : Bool := match sk with
  | .inr (.inr _) :: .inl ix :: .inr (.inl (some i)) :: rest => match gt T.2.1 i with
    | some (.inl (.long, m, _)) => Nat.beq n 1 && (zidx fa ix m && (xmN U.2.2.2 (64 * i) && fN (pc + 1) fun pc => ih r pc lo rest ca fa nf K))
    | _ => false
  | _ => false
def zgetI (i k : Nat) (a b : Int) (rest : List zV) : Bool := znew lo ca fa nf rest && fN (pc + 3) fun pc => fN (nf + 1) fun nf1 => ih r pc lo (.inl (zsym nf) :: rest) (((i, .inl k), .inl (zsym nf)) :: ca) ((nf, (a, b, [])) :: fa.1, fa.2) nf1 K
/-- both fields of a pair -/
def zgetP (i k : Nat) (a b : Int) (i2 k2 : Nat) (a2 b2 : Int) (rl : Nat → zRl) (rest : List zV) : Bool := znew lo ca fa nf rest && fN (pc + 3) fun pc => fN (nf + 1) fun nf1 => fN (nf + 2) fun nf2 => ih r pc lo (.inl (zsym nf) :: rest) (((i, .inl k), .inl (zsym nf)) :: ((i2, .inl k2), .inl (zsym nf1)) :: ca) ((nf, (a, b, [])) :: (nf1, (a2, b2, [])) :: fa.1, rl nf1 :: fa.2.1, fa.2.2) nf2 K
def zgetR (i k : Nat) (rest : List zV) : List (Option Nat) → Bool
  | [] => true
  | c :: t => (fN (pc + 3) fun pc => ih r pc lo (.inr (.inl c) :: rest) (((i, .inl k), .inr (.inl c)) :: ca) fa nf K) && zgetR i k rest t
def zgetf (idx : Nat) : Bool := match sk with
  | .inr (.inl (some i)) :: rest => match xfi (xfl r.1.2.2.2.2.1) idx with
    | some q => match gt T.2.1 i with
      | some (.inr (ci, fs)) => Nat.beq n 3 && (Nat.beq ci q.1 && (match zcF i q.2.1 ca with
        | some v => zpush ih r pc lo ca fa nf K n 3 v rest
        | none => match gt fs q.2.1 with
          | some (.inl (a, b)) => match zpt i q.2.1 T.2.2 with
            | none => zgetI ih r pc lo ca fa nf K i q.2.1 a b rest
            | some (pr, true) => match zcF pr.2.2.1.1 pr.2.2.1.2 ca with
              | some _ => zgetI ih r pc lo ca fa nf K i q.2.1 a b rest
              | none => match zrgF T.2.1 pr.2.2.1.1 pr.2.2.1.2 with
                | some (a2, b2) => zgetP ih r pc lo ca fa nf K i q.2.1 a b pr.2.2.1.1 pr.2.2.1.2 a2 b2 (fun nf1 => (pr.1, nf, nf1, pr.2.2.2)) rest
                | none => false
            | some (pr, false) => match zcF pr.2.1.1 pr.2.1.2 ca with
              | some _ => zgetI ih r pc lo ca fa nf K i q.2.1 a b rest
              | none => match zrgF T.2.1 pr.2.1.1 pr.2.1.2 with
                | some (a2, b2) => zgetP ih r pc lo ca fa nf K i q.2.1 a b pr.2.1.1 pr.2.1.2 a2 b2 (fun nf1 => (pr.1, nf1, nf, pr.2.2.2)) rest
                | none => false
          | some (.inr (.inl cs)) => zgetR ih r pc lo ca fa nf K i q.2.1 rest cs
          | some (.inr (.inr _)) => znew lo ca fa nf rest && fN (pc + 3) fun pc => fN (nf + 1) fun nf1 => ih r pc lo (.inr (.inr (zsym nf)) :: rest) (((i, .inl q.2.1), .inr (.inr (zsym nf))) :: ca) fa nf1 K
          | none => false))
      | _ => false
    | none => false
  | _ => false
def zputf (idx : Nat) : Bool := match sk with
  | v :: .inr (.inl (some i)) :: rest => match xfi (xfl r.1.2.2.2.2.1) idx with
    | some q => match gt T.2.1 i with
      | some (.inr (ci, fs)) => Nat.beq n 3 && (Nat.beq ci q.1 && (zok (xty q.1 q.2.1) v && (Nat.blt q.2.1 fs.length && (Nat.blt q.2.1 64 && (!(xfin q.1 q.2.1) && (xmN U.2.2.2 (64 * i + q.2.1) && ((xmN U.2.2.2 4677 || zpok fa i q.2.1 v) && gFil (znF i q.2.1) ca fun ca => fN (pc + 3) fun pc => ih r pc lo rest (((i, .inl q.2.1), v) :: ca) fa nf K)))))))
      | _ => false
    | none => false
  | _ => false
-- calls
def zcpy : Bool := match sk with
  | .inl m :: .inl dp :: .inr (.inl (some i)) :: .inl sp :: .inr (.inl (some j)) :: rest => match gt T.2.1 j, gt T.2.1 i with
    | some (.inl (.int, m0, _)), some (.inl (.int, m1, rs)) => Nat.beq n 3 && (decide (rs = [zfull]) && ((xmN U.2.2.2 (64 * i) && (xmN U.2.2.2 4677 || !(xmN kSp i))) && (Nat.ble 1 (xrm r.1).frames && (Nat.ble (zcats rest + 20) (xrm r.1).locals && ((zrk fa m fun a b => zrk fa dp fun c d => zrk fa sp fun e f => decide (0 ≤ a) && (decide (0 ≤ c) && (decide (0 ≤ e) && (decide (f + b ≤ (m0 : Int)) && (decide (d + b ≤ (m1 : Int)) && (xin b && (xin d && xin f))))))) && gFil (znA i) ca fun ca => fN (pc + 3) fun pc => ih r pc lo rest ca fa nf K)))))
    | _, _ => false
  | _ => false
/-- Math.max (true), Math.min (false) -/
def zmm (mx : Bool) : Bool := match sk with
  | .inl b :: .inl a :: rest => Nat.ble 1 (xrm r.1).frames && (Nat.ble (zcats rest + 13) (xrm r.1).locals && (zrk fa a fun la ha => zrk fa b fun lb hb => match z32 fa a && z32 fa b with
    | true => match mx with
      | true => zpuF ih r pc lo ca fa nf K n 3 (zmax la lb, zmax ha hb) [] [] [] rest
      | false => zpuF ih r pc lo ca fa nf K n 3 (zmin la lb, zmin ha hb) [] [] [] rest
    | false => zpuF ih r pc lo ca fa nf K n 3 zfull [] [] [] rest))
  | _ => false
def zab : Bool := match sk with
  | .inl a :: rest => Nat.ble 1 (xrm r.1).frames && (Nat.ble (zcats rest + 13) (xrm r.1).locals && (zrk fa a fun la ha => match decide (-2147483647 ≤ la) && (xin la && xin ha) with
    | true => zpuF ih r pc lo ca fa nf K n 3 (0, zmax ha (-la)) [] [] [] rest
    | false => zpuF ih r pc lo ca fa nf K n 3 zfull [] [] [] rest))
  | _ => false
/-- a method run where it is called -/
def zcall (r' : xR) (vs rest : List zV) : Bool :=
  Nat.beq n 3 && (Nat.ble (zcats rest) 8 && (Nat.ble (zcats vs) r'.2.2.1 && (Nat.ble ((xrm r').frames + 1) (xrm r.1).frames && (Nat.ble (8 + (r'.2.2.1 + 11) + (xrm r').locals) (xrm r.1).locals && (Nat.beq (xrm r').cells 0 && (Nat.beq (xrm r').slots 0 && (zbS nf rest && (zbL nf lo &&
    ih (r', []) 0 (zargs 0 vs) [] ca fa nf (fun fa' nf' v ca' => fN (pc + 3) fun pc => match v with
      | none => ih r pc lo rest ca' fa' nf' K
      | some v => ih r pc lo (v :: rest) ca' fa' nf' K)))))))))
/-- by a summary -/
def zsub (a b : List Nat) : Bool := zAll (fun x => xmN b x) a
def zpB (ca : zCa) (pre : List (Nat × Nat × Nat)) : Bool := zAll (fun q => match zcF q.1 q.2.1 ca with
  | some (.inr (.inl (some c))) => Nat.beq c q.2.2
  | _ => false) pre
end
/-- named fields that the cache doesn't hold are read -/
def zpl (T : zTb) (lo : zL) (rest : List zV) : zNm → zCa → zFa → Nat → (zCa → zFa → Nat → Bool) → Bool
  | [], ca, fa, nf, k => k ca fa nf
  | (_, i, .inl f) :: t, ca, fa, nf, k => match zcF i f ca with
    | some _ => zpl T lo rest t ca fa nf k
    | none => match zrgF T.2.1 i f with
      | some (a, b) => znew lo ca fa nf rest && fN (nf + 1) fun nf1 => zpl T lo rest t (((i, .inl f), .inl (zsym nf)) :: ca) ((nf, (a, b, [])) :: fa.1, fa.2) nf1 k
      | none => false
  | (_, _, .inr _) :: t, ca, fa, nf, k => zpl T lo rest t ca fa nf k
/-- what the names stand for at a call -/
def zas (fa : zFa) (ca : zCa) : zNm → List (Nat × zI) → (List (Nat × zI) → Bool) → Bool
  | [], acc, k => k acc
  | (s, i, .inl f) :: t, acc, k => match xfi acc s, zcF i f ca with
    | none, some (.inl v) => (Nat.ble 40 s && Nat.blt s 60) && (z32 fa v && zas fa ca t ((s, v) :: acc) k)
    | _, _ => false
  | (s, i, .inr s2) :: t, acc, k => match xfi acc s, xfi acc s2 with
    | none, some ix => match zcA i ix ca with
      | some (.inl v) => (Nat.ble 40 s && Nat.blt s 60) && (z32 fa v && zas fa ca t ((s, v) :: acc) k)
      | _ => false
    | _, _ => false
def zrB (fa : zFa) (acc : List (Nat × zI)) (rg : zRg) : Bool := zAll (fun q => match xfi acc q.1 with
  | some v => zrk fa v fun lo hi => decide (q.2.1 ≤ lo) && decide (hi ≤ q.2.2)
  | none => false) rg
/-- what can't be, by the names' ranges at the call -/
def zpr (fa : zFa) (acc : List (Nat × zI)) (rg : zRg) : Bool := zAny (fun q => match xfi acc q.1 with
  | some v => zrk fa v fun lo hi => decide (hi < q.2.1) || decide (q.2.2 < lo)
  | none => false) rg
def zrng (T : zTb) (rg : zRg) (s i f : Nat) : Option (Int × Int) := match xfi rg s with
  | some q => some q
  | none => zrgF T.2.1 i f
def zap (T : zTb) (lo : zL) (rest : List zV) (rg : zRg) : List (Nat × Nat × Nat) → List (Nat × zI) → zCa → zFa → Nat → (List (Nat × zI) → zCa → zFa → Nat → Bool) → Bool
  | [], acc, ca, fa, nf, k => k acc ca fa nf
  | (s, i, f) :: t, acc, ca, fa, nf, k => match zrng T rg s i f with
    | some (a, b) => znew lo ca fa nf rest && fN (nf + 1) fun nf1 => zap T lo rest rg t ((s, zsym nf) :: acc) (((i, .inl f), .inl (zsym nf)) :: ca) ((nf, (a, b, [])) :: fa.1, fa.2) nf1 k
    | none => false
def zmp (acc : List (Nat × zI)) (q : zRl) : Option zRl := match xfi acc q.2.1, xfi acc q.2.2.1 with
  | some (.inr (k, m, x)), some (.inr (j, n, y)) => match decide (m = 1) && decide (n = 1) with
    | true => match q.1 with
      | true => some (true, k, j, q.2.2.2 - x - y)
      | false => some (false, k, j, q.2.2.2 - x + y)
    | false => none
  | _, _ => none
/-- what follows with those relations that end where it begins -/
def zch (a b : Nat) (c : Int) : List zRl → List zRl → (List zRl → Bool) → Bool
  | [], out, k => k out
  | (sg, x, y, d) :: t, out, k => match !sg && Nat.beq y a with
    | true => fZ (d + c) fun e => zch a b c t ((false, x, b, e) :: out) k
    | false => zch a b c t out k
def zrw (acc : List (Nat × zI)) : List zRl → List zRl → (List zRl → Bool) → Bool
  | [], rl, k => k rl
  | q :: t, rl, k => match zmp acc q with
    | some (true, a, b, c) => fZ c fun c => zrw acc t ((true, a, b, c) :: rl) k
    | some (false, a, b, c) => fZ c fun c => zch a b c rl ((false, a, b, c) :: rl) fun rl => zrw acc t rl k
    | none => zrw acc t rl k
section
variable (T : zTb) (U : zRn) (ih : zS) (r : zR) (pc : Nat) (lo : zL) (sk : List zV) (ca : zCa) (fa : zFa) (nf : Nat) (K : zK) (n : Nat)
def zsc (mi : Nat) (r' : xR) (vs rest : List zV) : List Nat → Bool
  | [] => false
  | j :: t => match gt T.1 j with
    | some s => match zaB fa s.2.2.1 vs && zpB ca s.2.2.2.2.2.1 with
      | true => Nat.blt j U.2.2.1 && (Nat.beq s.1 mi && (Nat.beq n 3 && (Nat.ble (zcats rest) 8 && (Nat.ble (zcats vs) r'.2.2.1 && (Nat.ble (s.2.1.1 + 1) (xrm r.1).frames && (Nat.ble (8 + (r'.2.2.1 + 11) + s.2.1.2) (xrm r.1).locals && (zsub s.2.2.2.2.1 U.2.2.2 && (zbS nf rest && zpl T lo rest s.2.2.2.2.2.2.1.1 ca fa nf fun ca fa nf => zas fa ca s.2.2.2.2.2.2.1.1 [] fun acc => zrB fa acc s.2.2.2.2.2.2.1.2 && (zfl T fa ca && (zAll (fun q => zbI nf q.2) acc && gFil (znW s.2.2.2.2.1) ca fun ca => fN (pc + 3) fun pc => zAll (fun al => zpr fa acc al.2.1 || zap T lo rest al.2.1 al.1 acc ca fa nf fun acc ca fa nf => zrw acc al.2.2 fa.2.1 fun rl => znew lo ca (fa.1, rl, fa.2.2) nf rest && fN (nf + 1) fun nf1 => match s.2.2.2.1 with
        | none => ih r pc lo rest ca (fa.1, rl, fa.2.2) nf K
        | some (.inl (a, b)) => ih r pc lo (.inl (zsym nf) :: rest) ca ((nf, (a, b, [])) :: fa.1, rl, fa.2.2) nf1 K
        | some (.inr (.inr _)) => ih r pc lo (.inr (.inr (zsym nf)) :: rest) ca (fa.1, rl, fa.2.2) nf1 K
        | some (.inr (.inl _)) => false) s.2.2.2.2.2.2.2))))))))))
      | false => zsc mi r' vs rest t
    | none => false
def zdo (mi : Nat) (r' : xR) (vs rest : List zV) : Bool := match xfi U.2.1 mi with
  | some js => zsc T U ih r pc lo ca fa nf K n mi r' vs rest js
  | none => zcall ih r pc lo ca fa nf K n r' vs rest
def zinv (kind idx : Nat) : Bool := match xfi (xml r.1.2.2.2.2.1) idx with
  | some q => match q.1, kind with
    | 5, 1 => zcpy T U ih r pc lo sk ca fa nf K n
    | 6, 1 => zmm ih r pc lo sk ca fa nf K n true
    | 7, 1 => zmm ih r pc lo sk ca fa nf K n false
    | 0, 0 => match (gt xmt q.2.1).bind xrow with
      | some r' => ztk r'.2.2.2.2.2.2.1 sk [] fun vs rest => match rest with
        | .inr (.inl (some i)) :: rest => match gt T.2.1 i with
          | some (.inr (ci, _)) => Nat.beq ci r'.2.2.2.2.1 && zdo T U ih r pc lo ca fa nf K n q.2.1 r' (.inr (.inl (some i)) :: vs) rest
          | _ => false
        | _ => false
      | none => false
    | 1, 1 => match (gt xmt q.2.1).bind xrow with
      | some r' => ztk r'.2.2.2.2.2.2.1 sk [] fun vs rest => zdo T U ih r pc lo ca fa nf K n q.2.1 r' vs rest
      | none => false
    | _, _ => false
  | none => match xfi (xab r.1.2.2.2.2.1) idx with
    | some _ => Nat.beq kind 1 && zab ih r pc lo sk ca fa nf K n
    | none => false
def zret (d : Option zV) : Bool := Nat.beq n 1 && K fa nf d ca
def zreti : Bool := match sk with
  | [.inl a] => match r.1.2.2.2.1 with
    | some .int => zret ca fa nf K n (some (.inl a))
    | some .boolean => (zrk fa a fun lo hi => decide (0 ≤ lo) && decide (hi ≤ 1)) && zret ca fa nf K n (some (.inl a))
    | _ => false
  | _ => false
def zretl : Bool := match sk with
  | [.inr (.inr z)] => match r.1.2.2.2.1 with
    | some .long => zret ca fa nf K n (some (.inr (.inr z)))
    | _ => false
  | _ => false
def zretv : Bool := match sk, r.1.2.2.2.1 with
  | [], none => zret ca fa nf K n none
  | _, _ => false
def zsi (i : Instr) : Bool := match i with
  | .iconst z => zpush ih r pc lo ca fa nf K n 1 (.inl (.inl z)) sk
  | .bipush z => zpush ih r pc lo ca fa nf K n 2 (.inl (.inl (Int8.ofInt z).toInt32.toInt)) sk
  | .sipush z => zpush ih r pc lo ca fa nf K n 3 (.inl (.inl (Int16.ofInt z).toInt32.toInt)) sk
  | .lconst k => zpush ih r pc lo ca fa nf K n 1 (.inr (.inr (.inl (Int64.ofNat (k : Nat)).toInt))) sk
  | .ldc x => match xfi (xki r.1.2.2.2.2.1) x with
    | some q => zpush ih r pc lo ca fa nf K n 2 (.inl (.inl q.1)) sk
    | none => false
  | .ldc_w x => match xfi (xki r.1.2.2.2.2.1) x with
    | some q => zpush ih r pc lo ca fa nf K n 3 (.inl (.inl q.1)) sk
    | none => false
  | .ldc2_w x => match xfi (xkl r.1.2.2.2.2.1) x with
    | some q => zpush ih r pc lo ca fa nf K n 3 (.inr (.inr (.inl q.1))) sk
    | none => false
  | .iload_n k => zload ih r pc lo sk ca fa nf K n 1 (k : Nat) zisI
  | .iload k => zload ih r pc lo sk ca fa nf K n 2 k zisI
  | .aload_n k => zload ih r pc lo sk ca fa nf K n 1 (k : Nat) zisR
  | .aload k => zload ih r pc lo sk ca fa nf K n 2 k zisR
  | .lload_n k => zload ih r pc lo sk ca fa nf K n 1 (k : Nat) zisL
  | .lload k => zload ih r pc lo sk ca fa nf K n 2 k zisL
  | .istore_n k => zstore ih r pc lo sk ca fa nf K n 1 (k : Nat) zisI
  | .istore k => zstore ih r pc lo sk ca fa nf K n 2 k zisI
  | .astore_n k => zstore ih r pc lo sk ca fa nf K n 1 (k : Nat) zisR
  | .astore k => zstore ih r pc lo sk ca fa nf K n 2 k zisR
  | .lstore_n k => zstoreL ih r pc lo sk ca fa nf K n 1 (k : Nat)
  | .lstore k => zstoreL ih r pc lo sk ca fa nf K n 2 k
  | .iinc i z => ziinc ih r pc lo sk ca fa nf K n i z
  | .iadd => zbin ih r pc lo sk ca fa nf K n 0
  | .isub => zbin ih r pc lo sk ca fa nf K n 1
  | .imul => zbin ih r pc lo sk ca fa nf K n 2
  | .iand => zbin ih r pc lo sk ca fa nf K n 3
  | .ior => zbin ih r pc lo sk ca fa nf K n 4
  | .ixor => zbin ih r pc lo sk ca fa nf K n 5
  | .ishl => zbin ih r pc lo sk ca fa nf K n 6
  | .ishr => zbin ih r pc lo sk ca fa nf K n 7
  | .iushr => zbin ih r pc lo sk ca fa nf K n 8
  | .idiv => zdiv ih r pc lo sk ca fa nf K n false
  | .irem => zdiv ih r pc lo sk ca fa nf K n true
  | .ineg => zine ih r pc lo sk ca fa nf K n
  | .i2b => zun ih r pc lo sk ca fa nf K n (-128, 127)
  | .i2c => zun ih r pc lo sk ca fa nf K n (0, 65535)
  | .i2l => zi2l ih r pc lo sk ca fa nf K n
  | .l2i => zl2i ih r pc lo sk ca fa nf K n
  | .ladd => zbinL ih r pc lo sk ca fa nf K n
  | .lsub => zbinL ih r pc lo sk ca fa nf K n
  | .lmul => zbinL ih r pc lo sk ca fa nf K n
  | .land => zbinL ih r pc lo sk ca fa nf K n
  | .lor => zbinL ih r pc lo sk ca fa nf K n
  | .lxor => zbinL ih r pc lo sk ca fa nf K n
  | .lshl => zshL ih r pc lo sk ca fa nf K n
  | .lshr => zshL ih r pc lo sk ca fa nf K n
  | .lushr => zshL ih r pc lo sk ca fa nf K n
  | .lcmp => zlcmp ih r pc lo sk ca fa nf K n
  | .dup => zdup ih r pc lo sk ca fa nf K n
  | .dup2 => zdup2 ih r pc lo sk ca fa nf K n
  | .pop => zpop ih r pc lo sk ca fa nf K n
  | .ifCond c off => zif1 ih r pc lo sk ca fa nf K n c off
  | .if_icmp c off => zif2 ih r pc lo sk ca fa nf K n c off
  | .goto off => zgoto U ih r pc lo sk ca fa nf K n off
  | .tableswitch d l h offs => ztab ih r pc lo sk ca fa nf K d l h offs
  | .lookupswitch d ps => zlks ih r pc lo sk ca fa nf K d ps
  | .arraylength => zlen T ih r pc lo sk ca fa nf K n
  | .iaload => zald T ih r pc lo sk ca fa nf K n [.int]
  | .baload => zald T ih r pc lo sk ca fa nf K n [.byte, .boolean]
  | .laload => zlald T ih r pc lo sk ca fa nf K n
  | .iastore => zast T U ih r pc lo sk ca fa nf K n [.int]
  | .bastore => zast T U ih r pc lo sk ca fa nf K n [.byte, .boolean]
  | .lastore => zlast T U ih r pc lo sk ca fa nf K n
  | .getfield x => zgetf T ih r pc lo sk ca fa nf K n x
  | .putfield x => zputf T U ih r pc lo sk ca fa nf K n x
  | .invokevirtual x => zinv T U ih r pc lo sk ca fa nf K n 0 x
  | .invokestatic x => zinv T U ih r pc lo sk ca fa nf K n 1 x
  | .ireturn => zreti r sk ca fa nf K n
  | .lreturn => zretl r sk ca fa nf K n
  | .return_ => zretv r sk ca fa nf K n
  | _ => false
def zst : Bool := match xmN r.2 pc with
  | true => U.1 pc lo sk ca fa nf
  | false => match xfi r.1.2.2.2.2.2.2.2 pc with
    | some q => zsi T U ih r pc lo sk ca fa nf K q.2 q.1
    | none => false
end
def zex (T : zTb) (U : zRn) : Nat → zS := fun n => Nat.rec (motive := fun _ => zS) (fun _ _ _ _ _ _ _ _ => false) (fun _ ih => zst T U ih) n
