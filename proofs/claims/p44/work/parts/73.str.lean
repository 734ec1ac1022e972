/-! The strings at the start. -/
def yTm (i : Nat) : Term := match i with
  | 0 => .string "NightLights$Tape" 66
  | _ => .string "NightLights$Tape" 54
abbrev yFl : List Cond := flatC (Jvm.Cond.and given_1 narrow_1)
def yA (i : Nat) : Bool := decide (Cond.exactly (yTm i) "java/lang/String" ∈ yFl) && (decide (Cond.eq (.field (yTm i) "java/lang/String" "coder" "B") (.int 0) ∈ yFl) && (decide (Cond.arrayOf (.field (yTm i) "java/lang/String" "value" "[B") .byte ∈ yFl) && (decide (Cond.eq (.length (.field (yTm i) "java/lang/String" "value" "[B")) (.int (Int32.ofNat (zsLen.getD i 0))) ∈ yFl) && (List.range (zsLen.getD i 0)).all (fun j => decide (Cond.eq (.elem (.field (yTm i) "java/lang/String" "value" "[B") (.int (Int32.ofNat j))) (.int ((zsByt.getD i []).getD j 0)) ∈ yFl)))))
theorem ya_0 : yA 0 = true := by decide +kernel
theorem ya_1 : yA 1 = true := by decide +kernel
theorem ya_n : Cond.not (Cond.eq (yTm 0) (yTm 1)) ∈ yFl := by decide +kernel
theorem ya_c : Cond.eq (.static "java/lang/String" "COMPACT_STRINGS" "Z") (.int 1) ∈ yFl := by decide +kernel
theorem ya_s : Cond.isRef (.static "jdk/internal/util/Preconditions" "SIOOBE_FORMATTER" "Ljava/util/function/BiFunction;") ∈ yFl := by decide +kernel
theorem yw_t : ∀ (k : Nat) (w : Cond), lw_tbl[k]? = some w → w ∈ lw_tbl := fun k w h => List.mem_of_getElem? h
theorem y_str {p : Program} {s : State} {m : MethodId} {meth : Method} {c : Code} {b L : Nat} {xs : Nat → Int32} (C0 : lw_At p s m meth c b L xs) : zStr (fun q => s.heap.size ≤ q) s := by
  obtain ⟨hx, hb, hr, hml, hown, hts, hX, hbl, hlocks, hgv⟩ := C0
  have hs : ∀ w ∈ yFl, w.before #[Value.ref b] s = true := flat_of_before _ hgv
  have hA : ∀ a : Nat, a < s.heap.size → ¬ s.heap.size ≤ a := fun a h => Nat.not_le.mpr h
  have ha : ∀ i, i < 2 → yA i = true := fun i hi => by
    match i, hi with
    | 0, _ => exact ya_0
    | 1, _ => exact ya_1
  have hb : ∀ i, i < 2 → _ := fun i hi => by
    have h := ha i hi
    unfold yA at h
    simp only [Bool.and_eq_true] at h
    exact h
  obtain ⟨adK, adV, h1, h2⟩ := vk_Sof (args := #[Value.ref b]) (s := s) (N := 2) (tm := yTm) (len := zsLen) (byt := zsByt) (A := fun q => s.heap.size ≤ q) (fun i hi => jln hi) (fun i hi => hs _ (of_decide_eq_true (hb i hi).1)) (fun i hi => hs _ (of_decide_eq_true (hb i hi).2.1)) (fun i hi => hs _ (of_decide_eq_true (hb i hi).2.2.1)) (fun i hi => hs _ (of_decide_eq_true (hb i hi).2.2.2.1)) (fun i hi j hj => hs _ (of_decide_eq_true (List.all_eq_true.mp (hb i hi).2.2.2.2 j (List.mem_range.mpr hj)))) (fun i j hi hj hij => by
    have hc : (i = 0 ∧ j = 1) ∨ (i = 1 ∧ j = 0) := by omega
    rcases hc with ⟨rfl, rfl⟩ | ⟨rfl, rfl⟩
    · exact Or.inl (hs _ ya_n)
    · exact Or.inr (hs _ ya_n)) hA
  refine ⟨⟨adK, adV, h1, ?_, ?_⟩, ?_, ?_⟩
  · exact vk_R.of (A := #[Value.ref b]) (hts _ (yw_t 606 _ (by decide +kernel))) (h2 0 (by decide))
  · exact vk_R.of (A := #[Value.ref b]) (hts _ (yw_t 662 _ (by decide +kernel))) (h2 1 (by decide))
  · exact va_Zof (hts _ (yw_t 616 _ (by decide +kernel))) (hts _ (yw_t 128 _ (by decide +kernel))) (va_eqt (hs _ ya_c)) hA
  · exact va_Zqof (hts _ (yw_t 632 _ (by decide +kernel))) (hts _ (yw_t 130 _ (by decide +kernel))) (hs _ ya_s) hA
