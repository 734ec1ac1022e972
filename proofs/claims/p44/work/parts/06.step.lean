def xll : xL → Nat → Option xV
  | [], _ => none
  | (k, v) :: t, j => match Nat.beq k j with
    | true => some v
    | false => xll t j
def xlg : xV → Bool
  | .inr (.inr _) => true
  | _ => false
def xcat (v : xV) : Nat := match xlg v with
  | true => 2
  | false => 1
def xcats : List xV → Nat
  | [] => 0
  | v :: t => xcat v + xcats t
def xp1 (i : Nat) (q : Nat × xV) : Bool := !(q.1 == i) && !(q.1 + 1 == i && xlg q.2)
def xp2 (i : Nat) (q : Nat × xV) : Bool := !(q.1 == i) && (!(q.1 == i + 1) && !(q.1 + 1 == i && xlg q.2))
def xrf (n : Nat) (v : xV) : Bool := match v with
  | .inr (.inl (some i)) => Nat.blt i n || Nat.beq i xz_SC
  | _ => true
def xwS (n : Nat) : List xV → Bool
  | [] => true
  | v :: t => xrf n v && xwS n t
def xwL (n : Nat) : xL → Bool
  | [] => true
  | q :: t => xrf n q.2 && xwL n t
def xwW (n : Nat) : List xC → Bool
  | [] => true
  | .inl _ :: t => xwW n t
  | .inr q :: t => xwS n q.2 && xwW n t
def xargs : Nat → List xV → xL
  | _, [] => []
  | i, v :: t => (i, v) :: xargs (i + xcat v) t
/-- the first n of a list, turned round, and what is left -/
def xtk : Nat → List xV → List xV → (List xV → List xV → Bool) → Bool
  | 0, l, acc, k => k acc l
  | n + 1, v :: l, acc, k => xtk n l (v :: acc) k
  | _ + 1, [], _, _ => false
def xfi {α : Type} : List (Nat × α) → Nat → Option α
  | [], _ => none
  | (k, v) :: t, j => match Nat.beq k j with
    | true => some v
    | false => xfi t j
abbrev xCk : Type := Nat → xL → List xV → List xC → Nat → Nat → Bool
section
variable (L : Nat) (chk : xCk) (ih : xS) (r : xR) (pc : Nat) (lo : xL) (sk : List xV) (w : List xC) (cs ss : Nat) (fa : xFa) (K : xK) (n : Nat)
def xpush (d : Nat) (v : xV) (rest : List xV) : Bool := Nat.beq n d && fV v fun v => fN (pc + d) fun pc => ih r pc lo (v :: rest) w cs ss fa K
def xload (d i : Nat) (ok : xV → Bool) : Bool := match xll lo i with
  | some v => ok v && xpush ih r pc lo w cs ss fa K n d v sk
  | none => false
def xstore (d i : Nat) (ok : xV → Bool) : Bool := match sk with
  | v :: rest => Nat.beq n d && (ok v && (Nat.blt i r.2.2.1 && fFil (xp1 i) lo fun lo => fN (pc + d) fun pc => ih r pc ((i, v) :: lo) rest w cs ss fa K))
  | [] => false
def xstoreL (d i : Nat) : Bool := match sk with
  | .inr (.inr z) :: rest => Nat.beq n d && (Nat.blt (i + 1) r.2.2.1 && fFil (xp2 i) lo fun lo => fN (pc + d) fun pc => ih r pc ((i, .inr (.inr z)) :: lo) rest w cs ss fa K)
  | _ => false
def xiinc (i : Nat) (z : Int) : Bool := match xll lo i with
  | some (.inl a) => match xopS 0 a (.inl z) with
    | some v => Nat.beq n 3 && (Nat.blt i r.2.2.1 && fI v fun v => fFil (xp1 i) lo fun lo => fN (pc + 3) fun pc => ih r pc ((i, .inl v) :: lo) sk w cs ss fa K)
    | none => false
  | _ => false
def xbin (o : Nat) : Bool := match sk with
  | .inl b :: .inl a :: rest => match xopS o a b with
    | some v => xpush ih r pc lo w cs ss fa K n 1 (.inl v) rest
    | none => xcn a fa (xcn b fa (xpush ih r pc lo w cs ss fa K n 1 (.inl (.inr (100, fun σ => xop o (dI σ a) (dI σ b)))) rest) (fun fa b => ih r pc lo (.inl b :: .inl a :: rest) w cs ss fa K)) (fun fa a => ih r pc lo (.inl b :: .inl a :: rest) w cs ss fa K)
  | _ => false
def xdiv (rem : Bool) : Bool := match sk with
  | .inl (.inl y) :: .inl (.inl x) :: rest => match decide (Int32.ofInt y = 0) with
    | true => false
    | false => xpush ih r pc lo w cs ss fa K n 1 (.inl (.inl (match rem with | true => (Int32.ofInt x - Int32.ofInt x / Int32.ofInt y * Int32.ofInt y).toInt | false => (Int32.ofInt x / Int32.ofInt y).toInt))) rest
  | _ => false
def xi2b : Bool := match sk with
  | .inl a :: rest => xpush ih r pc lo w cs ss fa K n 1 (.inl (.inr (100, fun σ => (dI σ a).toInt8.toInt32))) rest
  | _ => false
def xl2i : Bool := match sk with
  | .inr (.inr x) :: rest => xpush ih r pc lo w cs ss fa K n 1 (.inl (.inl (Int64.ofInt x).toInt32.toInt)) rest
  | _ => false
def xbinL (f : Int64 → Int64 → Int64) : Bool := match sk with
  | .inr (.inr y) :: .inr (.inr x) :: rest => xpush ih r pc lo w cs ss fa K n 1 (.inr (.inr (f (Int64.ofInt x) (Int64.ofInt y)).toInt)) rest
  | _ => false
def xshL (f : Int64 → Int32 → Int64) : Bool := match sk with
  | .inl (.inl y) :: .inr (.inr x) :: rest => xpush ih r pc lo w cs ss fa K n 1 (.inr (.inr (f (Int64.ofInt x) (Int32.ofInt y)).toInt)) rest
  | _ => false
def xlcmp : Bool := match sk with
  | .inr (.inr y) :: .inr (.inr x) :: rest => xpush ih r pc lo w cs ss fa K n 1 (.inl (.inl (lg_cmp (Int64.ofInt x) (Int64.ofInt y)).toInt)) rest
  | _ => false
def xdup : Bool := match sk with
  | v :: rest => !(xlg v) && xpush ih r pc lo w cs ss fa K n 1 v (v :: rest)
  | [] => false
def xpop : Bool := match sk with
  | v :: rest => !(xlg v) && (Nat.beq n 1 && fN (pc + 1) fun pc => ih r pc lo rest w cs ss fa K)
  | [] => false
def xdup2 : Bool := match sk with
  | v :: u :: rest => !(xlg v) && (!(xlg u) && xpush ih r pc lo w cs ss fa K n 1 v (u :: v :: u :: rest))
  | _ => false
/-- a jump -/
def xgo (off : Int) (rest : List xV) (fa : xFa) : Bool := match decide ((pc : Int) + off < 0) with
  | true => false
  | false => fN ((pc : Int) + off).toNat fun pc => ih r pc lo rest w cs ss fa K
def xon (rest : List xV) (fa : xFa) : Bool := fN (pc + 3) fun pc => ih r pc lo rest w cs ss fa K
def xcmp (c : Jvm.ClassFile.Cond) (off : Int) (a b : xI) (rest : List xV) : Bool := Nat.beq n 3 && (decide (0 ≤ (pc : Int) + off) && match c with
  | .eq => xeq a b fa (xgo ih r pc lo w cs ss K off rest) (xon ih r pc lo w cs ss K rest)
  | .ne => xeq a b fa (xon ih r pc lo w cs ss K rest) (xgo ih r pc lo w cs ss K off rest)
  | .lt => xlt a b fa (xgo ih r pc lo w cs ss K off rest) (xon ih r pc lo w cs ss K rest)
  | .ge => xlt a b fa (xon ih r pc lo w cs ss K rest) (xgo ih r pc lo w cs ss K off rest)
  | .gt => xlt b a fa (xgo ih r pc lo w cs ss K off rest) (xon ih r pc lo w cs ss K rest)
  | .le => xlt b a fa (xon ih r pc lo w cs ss K rest) (xgo ih r pc lo w cs ss K off rest))
def xif1 (c : Jvm.ClassFile.Cond) (off : Int) : Bool := match sk with
  | .inl a :: rest => xcmp ih r pc lo w cs ss fa K n c off a (.inl 0) rest
  | _ => false
def xif2 (c : Jvm.ClassFile.Cond) (off : Int) : Bool := match sk with
  | .inl b :: .inl a :: rest => xcmp ih r pc lo w cs ss fa K n c off a b rest
  | _ => false
def xgoto (off : Int) : Bool := Nat.beq n 3 && xgo ih r pc lo w cs ss K off sk fa
def xtabL (j : Nat) (g : xG) (rest : List xV) : Int → List Int → Bool
  | _, [] => true
  | c, o :: t => (match decide (c < g.1) || decide (g.2.1 < c) with
    | true => true
    | false => xset fa j c c g.2.2 (xgo ih r pc lo w cs ss K o rest)) && fZ (c + 1) (fun c => xtabL j g rest c t)
def xtab (d l h : Int) (offs : Array Int) : Bool := match sk with
  | .inl (.inl x) :: rest => xin x && (match decide (x < l) || decide (h < x) with
    | true => xgo ih r pc lo w cs ss K d rest fa
    | false => match gt offs.toList (x - l).toNat with
      | some o => xgo ih r pc lo w cs ss K o rest fa
      | none => false)
  | .inl (.inr (j, _)) :: rest => Nat.blt j 100 && (decide ((offs.toList.length : Int) = h - l + 1) && ((match decide ((xr fa j).1 < l) with
      | true => xset fa j (xr fa j).1 (l - 1) (xr fa j).2.2 (xgo ih r pc lo w cs ss K d rest)
      | false => true) && ((match decide (h < (xr fa j).2.1) with
      | true => xset fa j (h + 1) (xr fa j).2.1 (xr fa j).2.2 (xgo ih r pc lo w cs ss K d rest)
      | false => true) && xtabL ih r pc lo w cs ss fa K j (xr fa j) rest l offs.toList)))
  | _ => false
-- the heap
def xnew (idx : Nat) : Bool := match xfi (xcl r.2.2.2.2.1) idx with
  | some q => match vwCl[q.1]?, xzero q.1 with
    | some c, fs => Nat.beq n 3 && (Nat.ble (cs + 1) (xrm r).cells && (Nat.ble (ss + c.2.2) (xrm r).slots && (Nat.blt w.length xz_SC && (xwS w.length sk && (xwL w.length lo && (xwW w.length w && fApp w (.inr (q.1, fs)) fun w' => fN w.length fun i => fN (cs + 1) fun cs => fN (ss + c.2.2) fun ss => fN (pc + 3) fun pc => ih r pc lo (.inr (.inl (some i)) :: sk) w' cs ss fa K))))))
    | none, _ => false
  | none => false
def xaty : ArrayType → Option (FieldType × (List (Nat × xI) ⊕ List (Nat × Int)))
  | .int => some (.int, .inl [])
  | .byte => some (.byte, .inl [])
  | .boolean => some (.boolean, .inl [])
  | .long => some (.long, .inr [])
  | _ => none
def xnewa (t : ArrayType) : Bool := match sk with
  | .inl (.inl z) :: rest => match xaty t with
    | some q => Nat.beq n 2 && (decide (0 ≤ z) && (decide (z ≤ 100000) && (Nat.ble (cs + 1) (xrm r).cells && (Nat.ble (ss + z.toNat) (xrm r).slots && (Nat.blt w.length xz_SC && (xwS w.length rest && (xwL w.length lo && (xwW w.length w && fN z.toNat fun m => fApp w (.inl (q.1, m, q.2)) fun w' => fN w.length fun i => fN (cs + 1) fun cs => fN (ss + m) fun ss => fN (pc + 2) fun pc => ih r pc lo (.inr (.inl (some i)) :: rest) w' cs ss fa K))))))))
    | none => false
  | _ => false
def xlen : Bool := match sk with
  | .inr (.inl (some i)) :: rest => match Nat.beq i xz_SC with
    | true => Nat.beq r.2.2.2.2.1 12 && xpush ih r pc lo w cs ss fa K n 1 (.inl (.inl (L : Int))) rest
    | false => match gt w i with
      | some (.inl (_, m, _)) => xpush ih r pc lo w cs ss fa K n 1 (.inl (.inl (m : Int))) rest
      | _ => false
  | _ => false
def xald (t : List FieldType) : Bool := match sk with
  | .inl (.inl z) :: .inr (.inl (some i)) :: rest => match Nat.beq i xz_SC with
    | true => Nat.beq r.2.2.2.2.1 12 && (decide (t = [.int]) && (decide (0 ≤ z) && (decide (z < (L : Int)) && (Nat.blt z.toNat 50 && xpush ih r pc lo w cs ss fa K n 1 (.inl (.inr (z.toNat, fun _ => 0))) rest))))
    | false => match gt w i with
      | some (.inl (ty, m, .inl us)) => decide (ty ∈ t) && (xin z && (decide (0 ≤ z) && (decide (z < (m : Int)) && xpush ih r pc lo w cs ss fa K n 1 (.inl (xlk us z.toNat)) rest)))
      | _ => false
  | .inl (.inr q) :: .inr (.inl (some i)) :: rest => xcn (.inr q) fa false (fun fa a => ih r pc lo (.inl a :: .inr (.inl (some i)) :: rest) w cs ss fa K)
  | _ => false
def xnar (ty : FieldType) (v : xI) : Option xI := match ty, v with
  | .int, v => some v
  | .boolean, .inl z => match decide (z = 0) || decide (z = 1) with
    | true => some v
    | false => none
  | .byte, v => some (.inr (100, fun σ => vp_nar .byte (dI σ v)))
  | _, _ => none
def xast (t : List FieldType) : Bool := match sk with
  | .inl v :: .inl (.inl z) :: .inr (.inl (some i)) :: rest => match gt w i with
      | some (.inl (ty, m, .inl us)) => match xnar ty v with
        | some v' => Nat.beq n 1 && (decide (ty ∈ t) && (xin z && (decide (0 ≤ z) && (decide (z < (m : Int)) && fI v' fun v' => fN z.toNat fun j => fSet w i (.inl (ty, m, .inl ((j, v') :: us))) fun w => fN (pc + 1) fun pc => ih r pc lo rest w cs ss fa K))))
        | none => false
      | _ => false
  | .inl v :: .inl (.inr q) :: .inr (.inl (some i)) :: rest => xcn (.inr q) fa false (fun fa a => ih r pc lo (.inl v :: .inl a :: .inr (.inl (some i)) :: rest) w cs ss fa K)
  | _ => false
def xlast : Bool := match sk with
  | .inr (.inr v) :: .inl (.inl z) :: .inr (.inl (some i)) :: rest => match gt w i with
      | some (.inl (.long, m, .inr us)) => Nat.beq n 1 && (xin z && (decide (0 ≤ z) && (decide (z < (m : Int)) && fN z.toNat fun j => fSet w i (.inl (.long, m, .inr ((j, v) :: us))) fun w => fN (pc + 1) fun pc => ih r pc lo rest w cs ss fa K)))
      | _ => false
  | _ => false
def xgetf (idx : Nat) : Bool := match sk with
  | .inr (.inl (some i)) :: rest => match xfi (xfl r.2.2.2.2.1) idx with
    | some q => match gt w i with
      | some (.inr (ci, fs)) => match gt fs q.2.1 with
        | some v => Nat.beq ci q.1 && xpush ih r pc lo w cs ss fa K n 3 v rest
        | none => false
      | _ => false
    | none => false
  | _ => false
/-- may a field of this type hold it -/
def xok (ty : FieldType) (v : xV) : Bool := match ty, v with
  | .int, .inl _ => true
  | .long, .inr (.inr _) => true
  | .object _, .inr (.inl _) => true
  | .array _, .inr (.inl _) => true
  | _, _ => false
def xputf (idx : Nat) : Bool := match sk with
  | v :: .inr (.inl (some i)) :: rest => match xfi (xfl r.2.2.2.2.1) idx with
    | some q => match gt w i with
      | some (.inr (ci, fs)) => Nat.beq n 3 && (Nat.beq ci q.1 && (xok (xty q.1 q.2.1) v && (Nat.blt q.2.1 fs.length && ((!(xfin q.1 q.2.1) || (decide (r.1.name = "<init>") && Nat.beq r.2.2.2.2.1 q.1)) && fSet fs q.2.1 v fun fs => fSet w i (.inr (ci, fs)) fun w => fN (pc + 3) fun pc => ih r pc lo rest w cs ss fa K))))
      | _ => false
    | none => false
  | _ => false
-- calls
def xoi (q : Nat × Nat × Nat × Nat × Nat) : Bool := match sk with
  | .inr (.inl (some _)) :: rest => Nat.beq n 3 && (Nat.ble 1 (xrm r).frames && (Nat.ble (xcats rest + 12) (xrm r).locals && fN (pc + 3) fun pc => ih r pc lo rest w cs ss fa K))
  | _ => false
def xcpyL (us vs : List (Nat × xI)) (sp dp : Nat) : Nat → (List (Nat × xI) → Bool) → Bool
  | 0, k => k vs
  | m + 1, k => xcpyL us vs sp dp m fun t => fN (dp + m) fun j => fI (xlk us (sp + m)) fun v => k ((j, v) :: t)
def xcpy : Bool := match sk with
  | .inl (.inl m) :: .inl (.inl dp) :: .inr (.inl (some i)) :: .inl (.inl sp) :: .inr (.inl (some j)) :: rest => match gt w j, gt w i with
    | some (.inl (.int, m0, .inl us)), some (.inl (.int, m1, .inl vs)) => Nat.beq n 3 && (xin m && (xin dp && (xin sp && (decide (0 ≤ m) && (decide (0 ≤ dp) && (decide (0 ≤ sp) && (Nat.ble (sp.toNat + m.toNat) m0 && (Nat.ble (dp.toNat + m.toNat) m1 && (Nat.ble 1 (xrm r).frames && (Nat.ble (xcats rest + 20) (xrm r).locals && xcpyL us vs sp.toNat dp.toNat m.toNat fun vs => fSet w i (.inl (.int, m1, .inl vs)) fun w => fN (pc + 3) fun pc => ih r pc lo rest w cs ss fa K))))))))))
    | _, _ => false
  | _ => false
/-- Math.max (true), Math.min (false) -/
def xmm (mx : Bool) : Bool := match sk with
  | .inl b :: .inl a :: rest => Nat.beq n 3 && (Nat.ble 1 (xrm r).frames && (Nat.ble (xcats rest + 13) (xrm r).locals && (Nat.ble cs (xrm r).cells && (Nat.ble ss (xrm r).slots && (match mx with
    | true => xlt a b fa (fun fa => fN (pc + 3) fun pc => ih r pc lo (.inl b :: rest) w cs ss fa K) (fun fa => fN (pc + 3) fun pc => ih r pc lo (.inl a :: rest) w cs ss fa K)
    | false => xlt b a fa (fun fa => fN (pc + 3) fun pc => ih r pc lo (.inl b :: rest) w cs ss fa K) (fun fa => fN (pc + 3) fun pc => ih r pc lo (.inl a :: rest) w cs ss fa K))))))
  | _ => false
/-- a method of our own: q = its row, vs = receiver and arguments -/
def xcall (r' : xR) (vs rest : List xV) : Bool :=
  Nat.beq n 3 && (Nat.ble (xcats rest) 8 && (Nat.ble (xcats vs) r'.2.2.1 && (Nat.ble ((xrm r').frames + 1) (xrm r).frames && (Nat.ble (8 + (r'.2.2.1 + 11) + (xrm r').locals) (xrm r).locals && (Nat.ble (cs + (xrm r').cells) (xrm r).cells && (Nat.ble (ss + (xrm r').slots) (xrm r).slots && (xwS w.length rest && (xwL w.length lo &&
    ih r' 0 (xargs 0 vs) [] w 0 0 fa (fun fa' v w' => fN (pc + 3) fun pc => fN (cs + (xrm r').cells) fun cs => fN (ss + (xrm r').slots) fun ss => match v with
      | none => ih r pc lo rest w' cs ss fa' K
      | some v => ih r pc lo (v :: rest) w' cs ss fa' K)))))))))
def xinv (kind idx : Nat) : Bool := match xfi (xml r.2.2.2.2.1) idx with
  | some q => match q.1, kind with
    | 4, 2 => xoi ih r pc lo sk w cs ss fa K n q
    | 5, 1 => xcpy ih r pc lo sk w cs ss fa K n
    | 6, 1 => xmm ih r pc lo sk w cs ss fa K n true
    | 7, 1 => xmm ih r pc lo sk w cs ss fa K n false
    | 0, 0 => match (gt xmt q.2.1).bind xrow with
      | some r' => xtk r'.2.2.2.2.2.2.1 sk [] fun vs rest => match rest with
        | .inr (.inl (some i)) :: rest => match gt w i with
          | some (.inr (ci, _)) => Nat.beq ci r'.2.2.2.2.1 && xcall ih r pc lo w cs ss fa K n r' (.inr (.inl (some i)) :: vs) rest
          | _ => false
        | _ => false
      | none => false
    | 1, 1 => match (gt xmt q.2.1).bind xrow with
      | some r' => xtk r'.2.2.2.2.2.2.1 sk [] fun vs rest => xcall ih r pc lo w cs ss fa K n r' vs rest
      | none => false
    | 2, 2 => match (gt xmt q.2.1).bind xrow with
      | some r' => xtk r'.2.2.2.2.2.2.1 sk [] fun vs rest => match rest with
        | .inr (.inl (some i)) :: rest => xcall ih r pc lo w cs ss fa K n r' (.inr (.inl (some i)) :: vs) rest
        | _ => false
      | none => false
    | 3, 2 => match (gt xmt q.2.1).bind xrow with
      | some r' => xtk r'.2.2.2.2.2.2.1 sk [] fun vs rest => match rest with
        | .inr (.inl (some i)) :: rest => xcall ih r pc lo w cs ss fa K n r' (.inr (.inl (some i)) :: vs) rest
        | _ => false
      | none => false
    | _, _ => false
  | none => false
def xret (d : Option xV) : Bool := Nat.beq n 1 && (Nat.ble cs (xrm r).cells && (Nat.ble ss (xrm r).slots && K fa d w))
def xreti : Bool := match sk with
  | [.inl a] => match r.2.2.2.1 with
    | some .int => xret r w cs ss fa K n (some (.inl a))
    | some .boolean => match a with
      | .inl z => (decide (z = 0) || decide (z = 1)) && xret r w cs ss fa K n (some (.inl (.inl z)))
      | _ => false
    | _ => false
  | _ => false
def xretl : Bool := match sk with
  | [.inr (.inr z)] => match r.2.2.2.1 with
    | some .long => xret r w cs ss fa K n (some (.inr (.inr z)))
    | _ => false
  | _ => false
def xretv : Bool := match sk, r.2.2.2.1 with
  | [], none => xret r w cs ss fa K n none
  | _, _ => false
def xisI : xV → Bool
  | .inl _ => true
  | _ => false
def xisR : xV → Bool
  | .inr (.inl _) => true
  | _ => false
def xisL : xV → Bool
  | .inr (.inr _) => true
  | _ => false
def xsi (i : Instr) : Bool := match i with
  | .iconst z => xpush ih r pc lo w cs ss fa K n 1 (.inl (.inl z)) sk
  | .bipush z => xpush ih r pc lo w cs ss fa K n 2 (.inl (.inl (Int8.ofInt z).toInt32.toInt)) sk
  | .sipush z => xpush ih r pc lo w cs ss fa K n 3 (.inl (.inl (Int16.ofInt z).toInt32.toInt)) sk
  | .lconst k => xpush ih r pc lo w cs ss fa K n 1 (.inr (.inr (Int64.ofNat (k : Nat)).toInt)) sk
  | .ldc x => match xfi (xki r.2.2.2.2.1) x with
    | some q => xpush ih r pc lo w cs ss fa K n 2 (.inl (.inl q.1)) sk
    | none => false
  | .ldc_w x => match xfi (xki r.2.2.2.2.1) x with
    | some q => xpush ih r pc lo w cs ss fa K n 3 (.inl (.inl q.1)) sk
    | none => false
  | .ldc2_w x => match xfi (xkl r.2.2.2.2.1) x with
    | some q => xpush ih r pc lo w cs ss fa K n 3 (.inr (.inr q.1)) sk
    | none => false
  | .iload_n k => xload ih r pc lo sk w cs ss fa K n 1 (k : Nat) xisI
  | .iload k => xload ih r pc lo sk w cs ss fa K n 2 k xisI
  | .aload_n k => xload ih r pc lo sk w cs ss fa K n 1 (k : Nat) xisR
  | .aload k => xload ih r pc lo sk w cs ss fa K n 2 k xisR
  | .lload_n k => xload ih r pc lo sk w cs ss fa K n 1 (k : Nat) xisL
  | .lload k => xload ih r pc lo sk w cs ss fa K n 2 k xisL
  | .istore_n k => xstore ih r pc lo sk w cs ss fa K n 1 (k : Nat) xisI
  | .istore k => xstore ih r pc lo sk w cs ss fa K n 2 k xisI
  | .astore_n k => xstore ih r pc lo sk w cs ss fa K n 1 (k : Nat) xisR
  | .astore k => xstore ih r pc lo sk w cs ss fa K n 2 k xisR
  | .lstore_n k => xstoreL ih r pc lo sk w cs ss fa K n 1 (k : Nat)
  | .lstore k => xstoreL ih r pc lo sk w cs ss fa K n 2 k
  | .iinc i z => xiinc ih r pc lo sk w cs ss fa K n i z
  | .iadd => xbin ih r pc lo sk w cs ss fa K n 0
  | .isub => xbin ih r pc lo sk w cs ss fa K n 1
  | .imul => xbin ih r pc lo sk w cs ss fa K n 2
  | .iand => xbin ih r pc lo sk w cs ss fa K n 3
  | .ior => xbin ih r pc lo sk w cs ss fa K n 4
  | .ixor => xbin ih r pc lo sk w cs ss fa K n 5
  | .ishl => xbin ih r pc lo sk w cs ss fa K n 6
  | .ishr => xbin ih r pc lo sk w cs ss fa K n 7
  | .iushr => xbin ih r pc lo sk w cs ss fa K n 8
  | .idiv => xdiv ih r pc lo sk w cs ss fa K n false
  | .irem => xdiv ih r pc lo sk w cs ss fa K n true
  | .i2b => xi2b ih r pc lo sk w cs ss fa K n
  | .l2i => xl2i ih r pc lo sk w cs ss fa K n
  | .ladd => xbinL ih r pc lo sk w cs ss fa K n (fun x y => x + y)
  | .lsub => xbinL ih r pc lo sk w cs ss fa K n (fun x y => x - y)
  | .land => xbinL ih r pc lo sk w cs ss fa K n (fun x y => x &&& y)
  | .lshr => xshL ih r pc lo sk w cs ss fa K n (fun x y => x >>> (y.toInt64 &&& 63))
  | .lushr => xshL ih r pc lo sk w cs ss fa K n (fun x y => (x.toUInt64 >>> (y.toInt64.toUInt64 &&& Int64.toUInt64 63)).toInt64)
  | .lcmp => xlcmp ih r pc lo sk w cs ss fa K n
  | .dup => xdup ih r pc lo sk w cs ss fa K n
  | .dup2 => xdup2 ih r pc lo sk w cs ss fa K n
  | .pop => xpop ih r pc lo sk w cs ss fa K n
  | .ifCond c off => xif1 ih r pc lo sk w cs ss fa K n c off
  | .if_icmp c off => xif2 ih r pc lo sk w cs ss fa K n c off
  | .goto off => xgoto ih r pc lo sk w cs ss fa K n off
  | .tableswitch d l h offs => xtab ih r pc lo sk w cs ss fa K d l h offs
  | .new x => xnew ih r pc lo sk w cs ss fa K n x
  | .newarray t => xnewa ih r pc lo sk w cs ss fa K n t
  | .arraylength => xlen L ih r pc lo sk w cs ss fa K n
  | .iaload => xald L ih r pc lo sk w cs ss fa K n [.int]
  | .baload => xald L ih r pc lo sk w cs ss fa K n [.byte, .boolean]
  | .iastore => xast ih r pc lo sk w cs ss fa K n [.int]
  | .bastore => xast ih r pc lo sk w cs ss fa K n [.byte, .boolean]
  | .lastore => xlast ih r pc lo sk w cs ss fa K n
  | .getfield x => xgetf ih r pc lo sk w cs ss fa K n x
  | .putfield x => xputf ih r pc lo sk w cs ss fa K n x
  | .invokevirtual x => xinv ih r pc lo sk w cs ss fa K n 0 x
  | .invokestatic x => xinv ih r pc lo sk w cs ss fa K n 1 x
  | .invokespecial x => xinv ih r pc lo sk w cs ss fa K n 2 x
  | .ireturn => xreti r sk w cs ss fa K n
  | .lreturn => xretl r sk w cs ss fa K n
  | .return_ => xretv r sk w cs ss fa K n
  | _ => false
def xst : Bool := match xfi r.2.2.2.2.2.2.2 pc with
  | some q => xsi L ih r pc lo sk w cs ss fa K q.2 q.1
  | none => Nat.beq r.2.2.2.2.1 12 && chk pc lo sk w cs ss
end
def xex (L : Nat) (chk : xCk) : Nat → xS := fun n => Nat.rec (motive := fun _ => xS) (fun _ _ _ _ _ _ _ _ _ => false) (fun _ ih => xst L chk ih) n
def xlaw : xR := (x, code, 4, some .boolean, 12, (2048, 84000, 600000, 7302250), 1, pL_law)
def xfin0 : xK := fun _ v _ => match v with
  | some (.inl (.inl z)) => decide (z = 1)
  | _ => false
