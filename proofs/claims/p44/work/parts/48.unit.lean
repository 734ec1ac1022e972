/-! unit(): by hand around its runs. -/
def tU : zTb := ([sm_goOn], zdec, zprs)
def cmU : List (Nat × List Nat) := [(111, [0])]
def unCa : zCa := [((56, .inl 6), .inl (zsym 60)), ((56, .inl 7), .inl (zsym 61)), ((56, .inl 8), .inl (zsym 62)), ((56, .inl 4), .inl (zsym 63)), ((56, .inl 38), .inl (zsym 64)), ((56, .inl 37), .inl (zsym 65)), ((56, .inl 35), .inl (zsym 67)), ((61, .inr (zsym 67)), .inl (zsym 68))]
def unFs : List (Nat × zG) := [(60, (0, 1600, [])), (61, (0, 1600, [])), (62, (0, 5, [])), (63, (0, 0, [])), (64, (1, 89, [])), (65, (0, 7, [])), (67, (0, 1, [])), (68, (0, 60, []))]
/-- it went on in the text, or the text is at its end -/
def hGo (fa : zFa) (ca : zCa) : Bool := hIn fa (zcF 56 8 ca) 0 0 || (hIn fa (zcF 56 8 ca) 1 5 && (match zcF 56 6 ca, zcF 56 7 ca with
  | some (.inl a), some (.inl e) => z32 fa a && (z32 fa e && (zleB fa (zsym 61) a && zlB fa a e))
  | _, _ => false))
def unHk : zCk := fun pc lo sk ca fa _ => zfl tU fa ca && (hRf (zll lo 0) 56 && (hI (zcF 56 38 ca) (zsym 64) && (hI (zcF 56 37 ca) (zsym 65) && (hI (zcF 56 35 ca) (zsym 67) && (hIn fa (zcF 56 4 ca) 0 0 && (hGo fa ca && (hIn fa (some (.inl (zsym 62))) 1 5 && (match sk with
  | [.inl x, .inl y, .inr (.inl (some i))] => Nat.beq i 56 && (match pc with
    | 235 => zeB x (.inl 126) && (hIn fa (zcF 56 37 ca) 0 6 && ((zeB y (.inl 3) && hI (zcA 61 (zsym 67) ca) (zsym 68)) || (zeB y (.inl 7) && (hI (zcA 61 (zsym 67) ca) (.inr (68, 1, 1)) && hIn fa (some (.inl (zsym 68))) 0 59))))
    | 265 => hIn fa (some (.inl y)) 97 122 && (hI (zcA 61 (zsym 67) ca) (.inr (68, 1, 1)) && hIn fa (some (.inl (zsym 68))) 0 59)
    | _ => false)
  | _ => false))))))))
def unFin : zK := fun fa _ v ca => zfl tU fa ca && (hI v (.inl 1) && (hIn fa (zcF 56 4 ca) 1 4 && (hIn fa (zcF 56 8 ca) 0 5 && hI (zcA 61 (zsym 67) ca) (zsym 68))))
def unRun (hk : zCk) (fin : zK) (pcs wr : List Nat) (pc : Nat) (lo : zL) (ca : zCa) (fs : List (Nat × zG)) : Bool := match ((gt xmt 194).bind xrow).map (fun r => zhR r (3, 108)) with
  | some r => zgo1 tU (hk, cmU, 1, wr) 20000 (r, pcs) pc lo [] ca (fs, [], []) fin
  | none => false
theorem un_0 : unRun unHk unFin [235, 265] [3588, 3589, 3590, 3591, 3592, 3593, 3594, 3623, 3904, 4677] 0 [(0, .inr (.inl (some 56)))] unCa unFs = true := by decide +kernel
def unF1 : zK := fun fa _ v ca => zfl tU fa ca && (hI v (.inl 1) && hI (zcF 56 37 ca) (.inr (65, 1, 1)))
theorem un_238 : unRun (fun _ _ _ _ _ _ => false) unF1 [] [3621, 4677] 238 [(0, .inr (.inl (some 56)))] [((56, .inl 37), .inl (zsym 65))] [(65, (0, 6, []))] = true := by decide +kernel
def unF0 : zK := fun fa _ v ca => zfl tU fa ca && hI v (.inl 0)
theorem un_268 : unRun (fun _ _ _ _ _ _ => false) unF0 [] [4677] 268 [(0, .inr (.inl (some 56)))] [] [] = true := by decide +kernel
theorem hsU {D : va_G} {l : Launch} {wr : List Nat} (es1 : va_W) : ∀ (es2 : va_W), zfrm wr es1 es2 → ∀ (j : Nat) (sm : zSm), j < 1 → tU.1[j]? = some sm → zSOe tU D l sm es2 := fun es2 _ j sm hj h => by
  have e : j = 0 := by omega
  subst e
  cases h
  exact so_goOn (D := D) (l := l) es2 trivial
def uE (a e t p n b u : Int) : zE := fun i => if i = 60 then a else if i = 61 then e else if i = 62 then t else if i = 64 then p else if i = 65 then n else if i = 67 then b else if i = 68 then u else 0
theorem uE_bd {a e t p n b u : Int} (h1 : zbd a) (h2 : zbd e) (h3 : zbd t) (h4 : zbd p) (h5 : zbd n) (h6 : zbd b) (h7 : zbd u) : ∀ i, zbd (uE a e t p n b u i) := by
  intro i
  unfold uE
  split
  · exact h1
  split
  · exact h2
  split
  · exact h3
  split
  · exact h4
  split
  · exact h5
  split
  · exact h6
  split
  · exact h7
  exact ⟨by decide, by decide⟩
theorem uE_sat {a e t : Int} {p n b u : Nat} (a1 : 0 ≤ a) (a2 : a ≤ 1600) (e1 : 0 ≤ e) (e2 : e ≤ 1600) (t1 : 0 ≤ t) (t2 : t ≤ 5) (p1 : 1 ≤ p) (p2 : p ≤ 89) (n2 : n ≤ 7) (b2 : b ≤ 1) (u2 : u ≤ 60) : zsat (uE a e t p n b u) (unFs, [], []) := by
  refine ⟨uE_bd (zbd_of (by omega) (by omega)) (zbd_of (by omega) (by omega)) (zbd_of (by omega) (by omega)) (zbd_of (by omega) (by omega)) (zbd_of (by omega) (by omega)) (zbd_of (by omega) (by omega)) (zbd_of (by omega) (by omega)), fun q hq => ?_, fun q hq => (by cases hq), fun q hq => (by cases hq)⟩
  have nn : ∀ z ∈ ([] : List Int), ∀ x : Int, x ≠ z := fun _ z => by cases z
  rcases List.mem_cons.mp hq with h | h
  · rw [h]; exact ⟨a1, a2, fun _ z => by cases z⟩
  rcases List.mem_cons.mp h with h | h
  · rw [h]; exact ⟨e1, e2, fun _ z => by cases z⟩
  rcases List.mem_cons.mp h with h | h
  · rw [h]; exact ⟨t1, t2, fun _ z => by cases z⟩
  rcases List.mem_cons.mp h with h | h
  · rw [h]; exact ⟨(show (0 : Int) ≤ 0 by decide), (show (0 : Int) ≤ 0 by decide), fun _ z => by cases z⟩
  rcases List.mem_cons.mp h with h | h
  · rw [h]; exact ⟨by show (1 : Int) ≤ p; omega, by show (p : Int) ≤ 89; omega, fun _ z => by cases z⟩
  rcases List.mem_cons.mp h with h | h
  · rw [h]; exact ⟨by show (0 : Int) ≤ n; omega, by show (n : Int) ≤ 7; omega, fun _ z => by cases z⟩
  rcases List.mem_cons.mp h with h | h
  · rw [h]; exact ⟨by show (0 : Int) ≤ b; omega, by show (b : Int) ≤ 1; omega, fun _ z => by cases z⟩
  rcases List.mem_singleton.mp h with rfl
  exact ⟨by show (0 : Int) ≤ u; omega, by show (u : Int) ≤ 60; omega, fun _ z => by cases z⟩
theorem zavx {T : zTb} {ρ : Nat → Nat} {γ : Nat → ClassId} {η : zE} {ca : zCa} {es : va_W} (C : zCo T ρ γ η ca es) {i n : Nat} {rs : List (Int × Int)} (hi : T.2.1[i]? = some (.inl (.int, n, rs))) (j : Nat) : zav es i j = some (.int (zar es i j)) := by
  obtain ⟨f, h1, -⟩ := C.1 i .int n rs hi (by decide)
  unfold zav zar
  rw [h1]
theorem fvi {es : va_W} {ρ : Nat → Nat} {η : zE} {i k s : Nat} {n : Int} (h : zfv es i k = some (.int (Int32.ofInt n))) (hs : η s = n) : zat η es (i, .inl k) = some (zv ρ η (.inl (zsym s))) := by
  show zfv es i k = some (.int (Int32.ofInt (1 * η s + 0)))
  rw [h, hs, Int.one_mul, Int.add_zero]
set_option maxHeartbeats 2000000 in
theorem uE_co {ρ : Nat → Nat} {γ : Nat → ClassId} {es : va_W} (hco : zCo zD0 ρ γ (fun _ => 0) [] es) {a e t : Int} {p n b u : Nat} (ha : zfv es 56 6 = some (.int (Int32.ofInt a))) (he : zfv es 56 7 = some (.int (Int32.ofInt e))) (ht : zfv es 56 8 = some (.int (Int32.ofInt t))) (hf : zfv es 56 4 = some (.int (Int32.ofInt 0))) (hp : zfv es 56 38 = some (.int (Int32.ofInt p))) (hn : zfv es 56 37 = some (.int (Int32.ofInt n))) (hb : zfv es 56 35 = some (.int (Int32.ofInt b))) (hu : (zar es 61 b).toInt = u) : zCo tU ρ γ (uE a e t p n b u) unCa es := by
  have h0 : zCo tU ρ γ (uE a e t p n b u) [] es := zCo.env (show zCo tU ρ γ (fun _ => 0) [] es from hco)
  have nf : ∀ (k : Nat) (ix : zI), (Sum.inl k : zKy) = .inr ix → 0 ≤ zd (uE a e t p n b u) ix := fun _ _ z => by cases z
  refine zCo.add (zCo.add (zCo.add (zCo.add (zCo.add (zCo.add (zCo.add (zCo.add h0 ⟨?_, fun ix z => ?_⟩) ⟨fvi hb rfl, nf _⟩) ⟨fvi hn rfl, nf _⟩) ⟨fvi hp rfl, nf _⟩) ⟨fvi hf rfl, nf _⟩) ⟨fvi ht rfl, nf _⟩) ⟨fvi he rfl, nf _⟩) ⟨fvi ha rfl, nf _⟩
  · show zav es 61 (1 * (b : Int) + 0).toNat = some (.int (Int32.ofInt (1 * (u : Int) + 0)))
    rw [Int.one_mul, Int.add_zero, Int.one_mul, Int.add_zero, Int.toNat_natCast, zavx (T := zD0) hco (i := 61) (n := 2) (rs := [(-2147483648, 2147483647)]) rfl b, ← hu, i32_of]
  · cases z
    show 0 ≤ 1 * (b : Int) + 0
    omega
/-- what it did to the text's place -/
def kT (es es2 : va_W) : Prop := (0 ≤ zfd es2 56 8 ∧ zfd es2 56 8 ≤ 5) ∧ (zfd es2 56 4 = 0 → 1 ≤ zfd es 56 8 ∧ (zfd es2 56 8 = 0 ∨ (1 ≤ zfd es2 56 8 ∧ zfd es 56 7 ≤ zfd es2 56 6 ∧ zfd es2 56 6 < zfd es2 56 7)))
theorem cF_fd {ρ : Nat → Nat} {η : zE} {ca : zCa} {es : va_W} (hh : zcH ρ η ca es) {i k : Nat} {x : zI} (h : zcF i k ca = some (.inl x)) (hx : (zi η x).toInt = zd η x) : zfd es i k = zd η x := by
  have h1 : zfv es i k = some (.int (zi η x)) := (hh _ (zcF_some h)).1
  rw [zfd_of h1, hx]
theorem hGo_ok {ρ : Nat → Nat} {η : zE} {fa : zFa} {ca : zCa} {es : va_W} (hs : zsat η fa) (hh : zcH ρ η ca es) (h : hGo fa ca = true) : (0 ≤ zfd es 56 8 ∧ zfd es 56 8 ≤ 5) ∧ (zfd es 56 8 = 0 ∨ (1 ≤ zfd es 56 8 ∧ η 61 ≤ zfd es 56 6 ∧ zfd es 56 6 < zfd es 56 7)) := by
  unfold hGo at h
  rw [Bool.or_eq_true, Bool.and_eq_true] at h
  rcases h with h | ⟨h1, h2⟩
  · obtain ⟨x, x0, x1, x2, x3⟩ := hIn_ok hs h
    have e := cF_fd hh x0 x3
    exact ⟨by omega, Or.inl (by omega)⟩
  · obtain ⟨x, x0, x1, x2, x3⟩ := hIn_ok hs h1
    have e := cF_fd hh x0 x3
    refine ⟨by omega, Or.inr ⟨by omega, ?_⟩⟩
    split at h2
    · rename_i a e2 g1 g2
      simp only [Bool.and_eq_true] at h2
      obtain ⟨j1, j2, j3, j4⟩ := h2
      have f1 := cF_fd hh g1 (z32_ok hs j1)
      have f2 := cF_fd hh g2 (z32_ok hs j2)
      have f3 := zleB_ok hs j3
      have f4 := zlB_ok hs j4
      have f3 : 1 * η 61 + 0 ≤ zd η a := f3
      rw [f1, f2]
      exact ⟨by omega, f4⟩
    · cases h2
theorem hI_fd {ρ : Nat → Nat} {η : zE} {ca : zCa} {es : va_W} (hh : zcH ρ η ca es) {i k : Nat} {v : zI} (h : hI (zcF i k ca) v = true) {n : Int} (hv : zd η v = n) (h1 : -2147483648 ≤ n) (h2 : n ≤ 2147483647) : zfd es i k = n := by
  obtain ⟨x, x0, x1⟩ := hI_ok h
  have e : zd η x = n := by rw [x1]; exact hv
  have e2 : (zi η x).toInt = zd η x := by
    unfold zi
    rw [e]
    exact i32_big h1 h2
  rw [cF_fd hh x0 e2, e]
theorem hI_ar {ρ : Nat → Nat} {η : zE} {ca : zCa} {es : va_W} (hh : zcH ρ η ca es) {i : Nat} {ix v : zI} (h : hI (zcA i ix ca) v = true) {j : Nat} (hj : zd η ix = (j : Int)) {n : Int} (hv : zd η v = n) (h1 : -2147483648 ≤ n) (h2 : n ≤ 2147483647) : (zar es i j).toInt = n := by
  obtain ⟨x, x0, x1⟩ := hI_ok h
  obtain ⟨w, w1, w2⟩ := zcA_some (η := η) x0
  have h8 : zav es i (zd η w).toNat = some (.int (zi η x)) := (hh _ w1).1
  rw [w2, hj, Int.toNat_natCast] at h8
  rw [zav_zar h8]
  unfold zi
  rw [x1, hv]
  exact i32_big h1 h2
/-- the pile with one more that nests -/
theorem kJ_nest {cg : Nat → Int32} {k0 : Nat} {es es5 : va_W} {b p nb B u u2 k : Nat} {x : Int32} (hb : b ≤ 1) (f35 : zfd es5 56 35 = b) (f38 : zfd es5 56 38 = ((p + 1 : Nat) : Int)) (f37 : zfd es5 56 37 = ((nb + 1 : Nat) : Int)) (hn : nb + 1 ≤ 7) (f36 : zfd es5 56 36 = k) (fu : (zar es5 61 b).toInt = u2) (hu : u ≤ u2) (hu2 : u2 ≤ 60) (h1 : 1 ≤ p) (hpl : kPl (zar es 79) (zar es 80) p = some (nb, B)) (h79 : zar es5 79 = upd (zar es 79) p x) (h80 : zar es5 80 = upd (zar es 80) p (Int32.ofInt 126)) (hx : x.toInt = 7 ∨ x.toInt = 3) (hk : k0 ≤ k) (h77 : zar es5 77 = zar es 77) (hr : kRn cg (zar es 77) (k - k0) k0 0 = some B) (hc : k + p ≤ 560 * b + 9 * u + nb + 1) : kJ cg k0 true es5 := by
  obtain ⟨q, rfl⟩ : ∃ q, p = q + 1 := ⟨p - 1, by omega⟩
  refine ⟨b, q + 2, nb + 1, B, B, u2, k, f35, hb, f38, f37, hn, f36, fu, hu2, ?_, hk, by rw [h77]; exact hr, fun _ => ⟨by omega, rfl, by omega⟩, fun z => by cases z⟩
  rw [h79, h80, kPl_push hpl x (Int32.ofInt 126)]
  rcases hx with e | e
  · rw [e]; exact kTop_7
  · rw [e]; exact kTop_3
theorem kJ_oper {cg : Nat → Int32} {k0 : Nat} {es es5 : va_W} {b p nb B u k : Nat} {x : Int32} (hb : b ≤ 1) (f35 : zfd es5 56 35 = b) (f38 : zfd es5 56 38 = p) (f37 : zfd es5 56 37 = nb) (hn : nb ≤ 7) (f36 : zfd es5 56 36 = ((k + 1 : Nat) : Int)) (fu : (zar es5 61 b).toInt = ((u + 1 : Nat) : Int)) (hu2 : u + 1 ≤ 60) (hpl : kPl (zar es 79) (zar es 80) p = some (nb, B)) (h79 : zar es5 79 = zar es 79) (h80 : zar es5 80 = zar es 80) (hx1 : 97 ≤ x.toInt) (hx2 : x.toInt ≤ 122) (hk : k0 ≤ k) (h77 : zar es5 77 = upd (zar es 77) k x) (hr : kRn cg (zar es 77) (k - k0) k0 0 = some B) (hc : k + p ≤ 560 * b + 9 * u + nb + 1) : kJ cg k0 false es5 := by
  have hp := kPl_le hpl hn
  have hB : B ≤ p := by
    cases p with
    | zero => cases hpl; exact Nat.le_refl _
    | succ q => have := (kPl_bd q nb B hpl).2.2.2.1; omega
  refine ⟨b, p, nb, B, B + 1, u + 1, k + 1, f35, hb, f38, f37, hn, f36, fu, hu2, by rw [h79, h80]; exact hpl, by omega, ?_, (fun z => by cases z), fun _ => ⟨rfl, by omega⟩⟩
  rw [h77]
  exact kRn_emit hk hr (kOne_let hx1 hx2 (by omega))
