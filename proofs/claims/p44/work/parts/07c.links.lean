def xlk1 (o : Nat) (q : Nat × Nat × Nat × Nat × Nat × Nat) : Bool := match q.2.1 with
  | 4 => decide (lw_tbl[q.2.2.2.1]? = some (.methodLink (xnm o) q.1 objectInit))
  | 5 => decide (lw_tbl[q.2.2.2.1]? = some (.methodLink (xnm o) q.1 arraycopyName))
  | 6 => decide (lw_tbl[q.2.2.2.1]? = some (.methodLink (xnm o) q.1 Lib.Math.max.name))
  | 7 => decide (lw_tbl[q.2.2.2.1]? = some (.methodLink (xnm o) q.1 Lib.Math.min.name))
  | k => match (gt xmt q.2.2.1).bind xrow with
    | none => false
    | some r => match k with
      | 0 => decide (lw_tbl[q.2.2.2.1]? = some (.methodLink (xnm o) q.1 r.1)) && (decide (lw_tbl[q.2.2.2.2.1]? = some (.instanceMethod r.1)) && decide (lw_tbl[q.2.2.2.2.2]? = some (.selects r.1.cls r.1 r.1)))
      | 1 => decide (lw_tbl[q.2.2.2.1]? = some (.methodLink (xnm o) q.1 r.1)) && decide (lw_tbl[q.2.2.2.2.1]? = some (.static r.1))
      | 2 => decide (lw_tbl[q.2.2.2.1]? = some (.methodLink (xnm o) q.1 r.1)) && (decide (lw_tbl[q.2.2.2.2.1]? = some (.instanceMethod r.1)) && decide (r.1.name = "<init>" ∧ r.2.2.2.1 = none))
      | 3 => decide ((xnm o, q.1, r.1, "NightLights", q.2.2.2.1) ∈ xne) && (decide (lw_tbl[q.2.2.2.2.1]? = some (.instanceMethod r.1)) && decide (r.1.name = "<init>" ∧ r.2.2.2.1 = none))
      | _ => false
theorem xml_c_0_0 : xml_0_0.all (xlk1 0) = true := by decide +kernel
theorem xml_o0 : (xml 0).all (xlk1 0) = true := by
  show (xml_0_0).all _ = true
  simp only [List.all_append, xml_c_0_0, Bool.and_self]
theorem xml_c_1_0 : xml_1_0.all (xlk1 1) = true := by decide +kernel
theorem xml_o1 : (xml 1).all (xlk1 1) = true := by
  show (xml_1_0).all _ = true
  simp only [List.all_append, xml_c_1_0, Bool.and_self]
theorem xml_c_2_0 : xml_2_0.all (xlk1 2) = true := by decide +kernel
theorem xml_o2 : (xml 2).all (xlk1 2) = true := by
  show (xml_2_0).all _ = true
  simp only [List.all_append, xml_c_2_0, Bool.and_self]
theorem xml_c_3_0 : xml_3_0.all (xlk1 3) = true := by decide +kernel
theorem xml_o3 : (xml 3).all (xlk1 3) = true := by
  show (xml_3_0).all _ = true
  simp only [List.all_append, xml_c_3_0, Bool.and_self]
theorem xml_c_4_0 : xml_4_0.all (xlk1 4) = true := by decide +kernel
theorem xml_o4 : (xml 4).all (xlk1 4) = true := by
  show (xml_4_0).all _ = true
  simp only [List.all_append, xml_c_4_0, Bool.and_self]
theorem xml_c_5_0 : xml_5_0.all (xlk1 5) = true := by decide +kernel
theorem xml_c_5_1 : xml_5_1.all (xlk1 5) = true := by decide +kernel
theorem xml_o5 : (xml 5).all (xlk1 5) = true := by
  show (xml_5_0 ++ (xml_5_1)).all _ = true
  simp only [List.all_append, xml_c_5_0, xml_c_5_1, Bool.and_self]
theorem xml_c_6_0 : xml_6_0.all (xlk1 6) = true := by decide +kernel
theorem xml_o6 : (xml 6).all (xlk1 6) = true := by
  show (xml_6_0).all _ = true
  simp only [List.all_append, xml_c_6_0, Bool.and_self]
theorem xml_c_7_0 : xml_7_0.all (xlk1 7) = true := by decide +kernel
theorem xml_o7 : (xml 7).all (xlk1 7) = true := by
  show (xml_7_0).all _ = true
  simp only [List.all_append, xml_c_7_0, Bool.and_self]
theorem xml_c_8_0 : xml_8_0.all (xlk1 8) = true := by decide +kernel
theorem xml_o8 : (xml 8).all (xlk1 8) = true := by
  show (xml_8_0).all _ = true
  simp only [List.all_append, xml_c_8_0, Bool.and_self]
theorem xml_c_9_0 : xml_9_0.all (xlk1 9) = true := by decide +kernel
theorem xml_o9 : (xml 9).all (xlk1 9) = true := by
  show (xml_9_0).all _ = true
  simp only [List.all_append, xml_c_9_0, Bool.and_self]
theorem xml_c_10_0 : xml_10_0.all (xlk1 10) = true := by decide +kernel
theorem xml_c_10_1 : xml_10_1.all (xlk1 10) = true := by decide +kernel
theorem xml_c_10_2 : xml_10_2.all (xlk1 10) = true := by decide +kernel
theorem xml_c_10_3 : xml_10_3.all (xlk1 10) = true := by decide +kernel
theorem xml_o10 : (xml 10).all (xlk1 10) = true := by
  show (xml_10_0 ++ (xml_10_1 ++ (xml_10_2 ++ (xml_10_3)))).all _ = true
  simp only [List.all_append, xml_c_10_0, xml_c_10_1, xml_c_10_2, xml_c_10_3, Bool.and_self]
theorem xml_c_11_0 : xml_11_0.all (xlk1 11) = true := by decide +kernel
theorem xml_c_11_1 : xml_11_1.all (xlk1 11) = true := by decide +kernel
theorem xml_c_11_2 : xml_11_2.all (xlk1 11) = true := by decide +kernel
theorem xml_c_11_3 : xml_11_3.all (xlk1 11) = true := by decide +kernel
theorem xml_c_11_4 : xml_11_4.all (xlk1 11) = true := by decide +kernel
theorem xml_o11 : (xml 11).all (xlk1 11) = true := by
  show (xml_11_0 ++ (xml_11_1 ++ (xml_11_2 ++ (xml_11_3 ++ (xml_11_4))))).all _ = true
  simp only [List.all_append, xml_c_11_0, xml_c_11_1, xml_c_11_2, xml_c_11_3, xml_c_11_4, Bool.and_self]
theorem xml_c_12_0 : xml_12_0.all (xlk1 12) = true := by decide +kernel
theorem xml_c_12_1 : xml_12_1.all (xlk1 12) = true := by decide +kernel
theorem xml_c_12_2 : xml_12_2.all (xlk1 12) = true := by decide +kernel
theorem xml_c_12_3 : xml_12_3.all (xlk1 12) = true := by decide +kernel
theorem xml_c_12_4 : xml_12_4.all (xlk1 12) = true := by decide +kernel
theorem xml_o12 : (xml 12).all (xlk1 12) = true := by
  show (xml_12_0 ++ (xml_12_1 ++ (xml_12_2 ++ (xml_12_3 ++ (xml_12_4))))).all _ = true
  simp only [List.all_append, xml_c_12_0, xml_c_12_1, xml_c_12_2, xml_c_12_3, xml_c_12_4, Bool.and_self]
