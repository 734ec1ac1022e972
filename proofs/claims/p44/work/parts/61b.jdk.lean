theorem j_coder {l : Launch} {adK adV : Nat → Nat} {i : Nat} (hi : i < 2) : jMet l yJ0_coder_7d493 cJ0_coder_7d493 1 (some .byte) (1, 64) adK adV [.ref (adK i)] (fun v => v = some (.int 0)) := by
  refine jent jm_coder (Nat.le_of_ble_eq_true rfl) ?_
  intro p e s m below meth c ls B hl ret1 ret0
  have B0 := B
  obtain ⟨b1, b2, b3, b4, b5, b6, b7⟩ := B
  obtain ⟨hs, hjr, hz, hq⟩ := b6
  have rf : va_S (va_A [] s.heap.size) s.heap s.heap [] := va_S.rf
  refine va_gets b1 b2 hz rf b4 (b5 _ jf_compact) (fun _ h => h) (by decide +kernel) ?_
  refine lv_if_eq b1 b2 (tgt := 13) (off := 10) (by decide +kernel) (by decide) (fun z => absurd z (by decide)) (fun _ => ?_)
  refine lv_aload_n b1 b2 (k := 0) (by decide +kernel) rfl (lv_at hl 0 rfl) ?_
  refine vk_getf b1 b2 (hs.1 i hi).2.1 rf b4 (b5 _ jf_coder) (fun _ h => h) (by decide +kernel) ?_
  refine lv_goto b1 b2 (tgt := 14) (off := 4) (by decide +kernel) (by decide) ?_
  exact ret1 14 [] ls 0 .byte rf rfl (by decide) (by decide +kernel) rfl

theorem j_isLatin1 {l : Launch} {adK adV : Nat → Nat} {i : Nat} (hi : i < 2) : jMet l yJ0_isLatin1_aae02 cJ0_isLatin1_aae02 1 (some .boolean) (1, 64) adK adV [.ref (adK i)] (fun v => v = some (.int 1)) := by
  refine jent jm_isLatin1 (Nat.le_of_ble_eq_true rfl) ?_
  intro p e s m below meth c ls B hl ret1 ret0
  have B0 := B
  obtain ⟨b1, b2, b3, b4, b5, b6, b7⟩ := B
  obtain ⟨hs, hjr, hz, hq⟩ := b6
  have rf : va_S (va_A [] s.heap.size) s.heap s.heap [] := va_S.rf
  refine va_gets b1 b2 hz rf b4 (b5 _ jf_compact) (fun _ h => h) (by decide +kernel) ?_
  refine lv_if_eq b1 b2 (tgt := 17) (off := 14) (by decide +kernel) (by decide) (fun z => absurd z (by decide)) (fun _ => ?_)
  refine lv_aload_n b1 b2 (k := 0) (by decide +kernel) rfl (lv_at hl 0 rfl) ?_
  refine vk_getf b1 b2 (hs.1 i hi).2.1 rf b4 (b5 _ jf_coder) (fun _ h => h) (by decide +kernel) ?_
  refine lv_if_ne b1 b2 (tgt := 17) (off := 7) (by decide +kernel) (by decide) (fun z => absurd rfl z) (fun _ => ?_)
  refine lv_iconst b1 b2 (n := 1) (by decide +kernel) rfl ?_
  refine lv_goto b1 b2 (tgt := 18) (off := 4) (by decide +kernel) (by decide) ?_
  exact ret1 18 [] ls 1 .boolean rf rfl (by decide) (by decide +kernel) rfl

theorem jshr {i : Nat} (hi : i < 2) : (Int32.ofNat (zsLen.getD i 0)) >>> ((0 : Int32) &&& 31) = Int32.ofNat (zsLen.getD i 0) := by
  rcases Nat.lt_or_ge i 1 with h | h
  · have h : i = 0 := by omega
    subst h; decide +kernel
  · have h : i = 1 := by omega
    subst h; decide +kernel
theorem j_length {l : Launch} {adK adV : Nat → Nat} {i : Nat} (hi : i < 2) : jMet l yJ0_length_8abf5 cJ0_length_8abf5 1 (some .int) (2, 84) adK adV [.ref (adK i)] (fun v => v = some (.int (Int32.ofNat (zsLen.getD i 0)))) := by
  refine jent jm_length (Nat.le_of_ble_eq_true rfl) ?_
  intro p e s m below meth c ls B hl ret1 ret0
  have B0 := B
  obtain ⟨b1, b2, b3, b4, b5, b6, b7⟩ := B
  obtain ⟨hs, hjr, hz, hq⟩ := b6
  have rf : va_S (va_A [] s.heap.size) s.heap s.heap [] := va_S.rf
  refine lv_aload_n b1 b2 (k := 0) (by decide +kernel) rfl (lv_at hl 0 rfl) ?_
  refine vk_getf b1 b2 (hs.1 i hi).2.2.1 rf b4 (b5 _ jf_value) (fun _ h => h) (by decide +kernel) ?_
  refine va_tlen b1 b2 (hs.1 i hi).2.2.2 rf rfl (by decide +kernel) ?_
  refine lv_aload_n b1 b2 (k := 0) (by decide +kernel) rfl (lv_at hl 0 rfl) ?_
  refine jvirt (As := []) (rs := [.int (Int32.ofNat (zsLen.getD i 0))]) B0.F rf hl.1 jm_coder rfl (by decide +kernel) jl_len_coder ji_coder je_coder hi rfl (Nat.le_of_ble_eq_true rfl) ⟨by decide, by decide⟩ (j_coder hi) ?_
  intro v locs hv hS
  subst hv
  refine lv_ishr b1 b2 (by decide +kernel) ?_
  rw [jshr hi]
  exact ret1 10 locs ls _ .int hS rfl rfl (by decide +kernel) rfl

theorem j_PcheckIndex {l : Launch} {adK adV : Nat → Nat} {x n : Int32} {f : Value} (h0 : ¬ x < 0) (hn : x < n) (hf : f = .null ∨ ∃ t, f = .ref t) : jMet l yJ3_checkIndex_8e157 cJ3_checkIndex_8e157 3 (some .int) (1, 64) adK adV [.int x, .int n, f] (fun v => v = some (.int x)) := by
  refine jent jm_PcheckIndex (by rcases hf with rfl | ⟨t, rfl⟩ <;> exact Nat.le_of_ble_eq_true rfl) ?_
  intro p e s m below meth c ls B hl ret1 ret0
  have B0 := B
  obtain ⟨b1, b2, b3, b4, b5, b6, b7⟩ := B
  obtain ⟨hs, hjr, hz, hq⟩ := b6
  have rf : va_S (va_A [] s.heap.size) s.heap s.heap [] := va_S.rf
  refine lv_iload_n b1 b2 (k := 0) (by decide +kernel) rfl (lv_at hl 0 rfl) ?_
  refine lv_if_lt b1 b2 (tgt := 9) (off := 8) (by decide +kernel) (by decide) (fun z => absurd z h0) (fun _ => ?_)
  refine lv_iload_n b1 b2 (k := 0) (by decide +kernel) rfl (lv_at hl 0 rfl) ?_
  refine lv_iload_n b1 b2 (k := 1) (by decide +kernel) rfl (lv_at hl 1 rfl) ?_
  refine lv_icmp_lt b1 b2 (tgt := 16) (off := 10) (by decide +kernel) (by decide) (fun _ => ?_) (fun z => absurd hn z)
  refine lv_iload_n b1 b2 (k := 0) (by decide +kernel) rfl (lv_at hl 0 rfl) ?_
  exact ret1 17 [] ls x .int rf rfl rfl (by decide +kernel) rfl

theorem j_checkIndex {l : Launch} {adK adV : Nat → Nat} {x n : Int32} (h0 : ¬ x < 0) (hn : x < n) : jMet l yJ0_checkIndex_df160 cJ0_checkIndex_df160 2 none (2, 86) adK adV [.int x, .int n] (fun v => v = none) := by
  refine jent jm_checkIndex (Nat.le_of_ble_eq_true rfl) ?_
  intro p e s m below meth c ls B hl ret1 ret0
  have B0 := B
  obtain ⟨b1, b2, b3, b4, b5, b6, b7⟩ := B
  obtain ⟨hs, hjr, hz, hq⟩ := b6
  have rf : va_S (va_A [] s.heap.size) s.heap s.heap [] := va_S.rf
  refine lv_iload_n b1 b2 (k := 0) (by decide +kernel) rfl (lv_at hl 0 rfl) ?_
  refine lv_iload_n b1 b2 (k := 1) (by decide +kernel) rfl (lv_at hl 1 rfl) ?_
  have go : ∀ f : Value, (f = .null ∨ ∃ t, f = .ref t) → va_Z "jdk/internal/util/Preconditions" "SIOOBE_FORMATTER" "Ljava/util/function/BiFunction;" f (va_A [] s.heap.size) s s.heap → jW l (2, 86) (fun v => v = none) p e s m [.int x, .int n] below meth c [] (F0 m 2 ls [.int n, .int x]) := by
    intro f hf hZ
    refine va_gets b1 b2 hZ rf b4 (b5 _ jf_siobe) (fun _ h => h) (by decide +kernel) ?_
    refine jstat (As := [.int x, .int n, f]) (rs := []) B0.F rf hl.1 jm_PcheckIndex (by decide +kernel) jl_s_Pcheck js_PcheckIndex rfl (Nat.le_of_ble_eq_true rfl) ⟨by decide, by decide⟩ (j_PcheckIndex h0 hn hf) ?_
    intro v locs hv hS
    subst hv
    refine lv_pop b1 b2 (by decide +kernel) rfl ?_
    exact ret0 9 locs ls hS rfl (by decide +kernel) rfl
  rcases hq with h | ⟨t, h⟩
  · exact go .null (Or.inl rfl) h
  · exact go (.ref t) (Or.inr ⟨t, rfl⟩) h

theorem jvin {x : Int32} {n : Nat} (hn : n < 2 ^ 31) (h0 : ¬ x < 0) (h1 : x < Int32.ofNat n) : vp_in x n := by
  have e1 : (Int32.ofNat n).toInt = n := Int32.toInt_ofNat_of_lt hn
  have e2 : x.toInt < n := by
    rw [Int32.lt_iff_toInt_lt, e1] at h1
    exact h1
  have e3 : x.toNatClampNeg = x.toInt.toNat := rfl
  have e4 : 0 ≤ x.toInt := by
    rw [Int32.lt_iff_toInt_lt] at h0
    have : ¬ x.toInt < 0 := h0
    omega
  intro z
  rcases z with z | z
  · exact h0 z
  · rw [e3] at z
    omega
theorem jln {i : Nat} (hi : i < 2) : zsLen.getD i 0 < 2 ^ 31 := by
  rcases Nat.lt_or_ge i 1 with h | h
  · have h : i = 0 := by omega
    subst h; decide
  · have h : i = 1 := by omega
    subst h; decide
theorem jch (b : Int32) : ((b &&& 255).toUInt32 % 65536).toInt32 = b &&& 255 := sc_c2 _
theorem jcb (b : Int32) : 0 ≤ (b &&& 255).toInt ∧ (b &&& 255).toInt ≤ 255 := by
  obtain ⟨j, hj, e2⟩ := pk_andE b (m := 255) 8 (by decide)
  have e3 : (nI j).toInt = (j : Int) := nI_toInt (by omega)
  rw [e2, e3]
  omega
theorem jnc (b : Int32) : narrow .char (.int (b &&& 255)) = .int (b &&& 255) := sc_nar _
def jC (v : Option Value) : Prop := ∃ b : Int32, v = some (.int (b &&& 255))
theorem j_LcharAt {l : Launch} {adK adV : Nat → Nat} {i : Nat} (hi : i < 2) {x : Int32} (h0 : ¬ x < 0) (h1 : x < Int32.ofNat (zsLen.getD i 0)) : jMet l yJ1_charAt_3b067 cJ1_charAt_3b067 2 (some .char) (3, 107) adK adV [.ref (adV i), .int x] jC := by
  refine jent jm_LcharAt (Nat.le_of_ble_eq_true rfl) ?_
  intro p e s m below meth c ls B hl ret1 ret0
  have B0 := B
  obtain ⟨b1, b2, b3, b4, b5, b6, b7⟩ := B
  obtain ⟨hs, hjr, hz, hq⟩ := b6
  have rf : va_S (va_A [] s.heap.size) s.heap s.heap [] := va_S.rf
  refine lv_iload_n b1 b2 (k := 1) (by decide +kernel) rfl (lv_at hl 1 rfl) ?_
  refine lv_aload_n b1 b2 (k := 0) (by decide +kernel) rfl (lv_at hl 0 rfl) ?_
  refine va_tlen b1 b2 (hs.1 i hi).2.2.2 rf rfl (by decide +kernel) ?_
  refine jstat (As := [.int x, .int (Int32.ofNat (zsLen.getD i 0))]) (rs := []) B0.F rf hl.1 jm_checkIndex (by decide +kernel) jl_L_check js_checkIndex rfl (Nat.le_of_ble_eq_true rfl) ⟨by decide, by decide⟩ (j_checkIndex h0 h1) ?_
  intro v locs hv hS
  subst hv
  refine lv_aload_n b1 b2 (k := 0) (by decide +kernel) rfl (lv_at hl 0 rfl) ?_
  refine lv_iload_n b1 b2 (k := 1) (by decide +kernel) rfl (lv_at hl 1 rfl) ?_
  refine va_tb b1 b2 (hs.1 i hi).2.2.2 hS (jvin (jln hi) h0 h1) rfl (by decide +kernel) ?_
  refine lv_sipush b1 b2 (n := 255) (by decide +kernel) rfl ?_
  refine lv_iand b1 b2 (by decide +kernel) ?_
  refine lv_i2c b1 b2 (by decide +kernel) (jch _) ?_
  exact ret1 14 locs ls _ .char hS rfl (jnc _) (by decide +kernel) ⟨_, rfl⟩

theorem j_charAt {l : Launch} {adK adV : Nat → Nat} {i : Nat} (hi : i < 2) {x : Int32} (h0 : ¬ x < 0) (h1 : x < Int32.ofNat (zsLen.getD i 0)) : jMet l yJ0_charAt_5068e cJ0_charAt_5068e 2 (some .char) (4, 128) adK adV [.ref (adK i), .int x] jC := by
  refine jent jm_charAt (Nat.le_of_ble_eq_true rfl) ?_
  intro p e s m below meth c ls B hl ret1 ret0
  have B0 := B
  obtain ⟨b1, b2, b3, b4, b5, b6, b7⟩ := B
  obtain ⟨hs, hjr, hz, hq⟩ := b6
  have rf : va_S (va_A [] s.heap.size) s.heap s.heap [] := va_S.rf
  refine lv_aload_n b1 b2 (k := 0) (by decide +kernel) rfl (lv_at hl 0 rfl) ?_
  refine jvirt (As := []) (rs := []) B0.F rf hl.1 jm_isLatin1 rfl (by decide +kernel) jl_c_isL ji_isLatin1 je_isLatin1 hi rfl (Nat.le_of_ble_eq_true rfl) ⟨by decide, by decide⟩ (j_isLatin1 hi) ?_
  intro v locs hv hS
  subst hv
  refine lv_if_eq b1 b2 (tgt := 16) (off := 12) (by decide +kernel) (by decide) (fun z => absurd z (by decide)) (fun _ => ?_)
  refine lv_aload_n b1 b2 (k := 0) (by decide +kernel) rfl (lv_at hl 0 rfl) ?_
  refine vk_getf b1 b2 (hs.1 i hi).2.2.1 hS b4 (b5 _ jf_value) (fun _ h => h) (by decide +kernel) ?_
  refine lv_iload_n b1 b2 (k := 1) (by decide +kernel) rfl (lv_at hl 1 rfl) ?_
  refine jstat (As := [.ref (adV i), .int x]) (rs := []) B0.F hS hl.1 jm_LcharAt (by decide +kernel) jl_c_LcharAt js_LcharAt rfl (Nat.le_of_ble_eq_true rfl) ⟨by decide, by decide⟩ (j_LcharAt hi h0 h1) ?_
  intro v locs hv hS
  obtain ⟨b, rfl⟩ := hv
  exact ret1 15 locs ls _ .char hS rfl (jnc _) (by decide +kernel) ⟨_, rfl⟩

theorem jw_init_T : Jvm.Cond.initialized "NightLights$Tape" ∈ xGd := inG 115 (by decide +kernel) rfl
theorem jm_kind : jM yX8_kindOfWord cX8_kindOfWord 7 (some .int) 1 := ⟨inG 605 (by decide +kernel) rfl, jw_init_T, by decide +kernel, by decide +kernel, by decide +kernel, by decide +kernel⟩
theorem jt_kind : Jvm.Cond.methodLink "NightLights$Tape" 44 yX8_kindOfWord ∈ xGd := inG 603 (by decide +kernel) rfl
theorem js_kind : Jvm.Cond.static yX8_kindOfWord ∈ xGd := inG 604 (by decide +kernel) rfl
theorem jk_32 : Jvm.Cond.constantLong "NightLights$Tape" 61 32 ∈ xGd := inG 602 (by decide +kernel) rfl
theorem lvs {ls : Array Slot} {n : Nat} {a b : List (Nat × Value)} (h : lv_has ls n a) (hs : ∀ q ∈ b, q ∈ a) : lv_has ls n b := ⟨h.1, h.2.1, fun q hq => h.2.2 q (hs q hq)⟩
def jI (v : Option Value) : Prop := ∃ b : Int32, v = some (.int b)
theorem j_canEncode {l : Launch} {adK adV : Nat → Nat} {x : Int32} : jMet l yJ1_canEncode_9a6ad cJ1_canEncode_9a6ad 1 (some .boolean) (1, 64) adK adV [.int x] jI := by
  refine jent jm_canEncode (Nat.le_of_ble_eq_true rfl) ?_
  intro p e s m below meth c ls B hl ret1 ret0
  have B0 := B
  obtain ⟨b1, b2, b3, b4, b5, b6, b7⟩ := B
  obtain ⟨hs, hjr, hz, hq⟩ := b6
  have rf : va_S (va_A [] s.heap.size) s.heap s.heap [] := va_S.rf
  have r0 : jW l (1, 64) jI p e s m [.int x] below meth c [] (F0 m 15 ls []) := by
    refine lv_iconst b1 b2 (n := 0) (by decide +kernel) rfl ?_
    exact ret1 16 [] ls 0 .boolean rf rfl (by decide) (by decide +kernel) ⟨_, rfl⟩
  refine lv_iload_n b1 b2 (k := 0) (by decide +kernel) rfl (lv_at hl 0 rfl) ?_
  refine lv_if_lt b1 b2 (tgt := 15) (off := 14) (by decide +kernel) (by decide) (fun z => r0) (fun _ => ?_)
  refine lv_iload_n b1 b2 (k := 0) (by decide +kernel) rfl (lv_at hl 0 rfl) ?_
  refine lv_sipush b1 b2 (n := 255) (by decide +kernel) rfl ?_
  refine lv_icmp_gt b1 b2 (tgt := 15) (off := 7) (by decide +kernel) (by decide) (fun z => r0) (fun _ => ?_)
  refine lv_iconst b1 b2 (n := 1) (by decide +kernel) rfl ?_
  refine lv_goto b1 b2 (tgt := 16) (off := 4) (by decide +kernel) (by decide) ?_
  exact ret1 16 [] ls 1 .boolean rf rfl (by decide) (by decide +kernel) ⟨_, rfl⟩

theorem j_indexOfChar {l : Launch} {adK adV : Nat → Nat} {i : Nat} (hi : i < 2) {ch : Int32} : jMet l yJ1_indexOfChar_4cfef cJ1_indexOfChar_4cfef 6 (some .int) (1, 64) adK adV [.ref (adV i), .int ch, .int 0, .int (Int32.ofNat (zsLen.getD i 0))] jI := by
  refine jent jm_indexOfChar (Nat.le_of_ble_eq_true rfl) ?_
  intro p e s m below meth c ls B hl ret1 ret0
  have B0 := B
  obtain ⟨b1, b2, b3, b4, b5, b6, b7⟩ := B
  obtain ⟨hs, hjr, hz, hq⟩ := b6
  have rf : va_S (va_A [] s.heap.size) s.heap s.heap [] := va_S.rf
  refine lv_iload_n b1 b2 (k := 1) (by decide +kernel) rfl (lv_at hl 1 rfl) ?_
  refine lv_i2b b1 b2 (by decide +kernel) rfl ?_
  refine lv_istore b1 b2 (i := 4) (by decide +kernel) hl (by decide) rfl ?_
  intro ls2 hl2
  refine lv_iload_n b1 b2 (k := 2) (by decide +kernel) rfl (lv_at hl2 3 rfl) ?_
  refine lv_istore b1 b2 (i := 5) (by decide +kernel) hl2 (by decide) rfl ?_
  intro ls3 hl3
  have hl3 : lv_has ls3 6 [(5, .int (Int32.ofNat 0)), (4, .int ch.toInt8.toInt32), (0, .ref (adV i)), (1, .int ch), (2, .int 0), (3, .int (Int32.ofNat (zsLen.getD i 0)))] := hl3
  have hn : zsLen.getD i 0 ≤ 81 := by
    rcases Nat.lt_or_ge i 1 with h | h
    · have h : i = 0 := by omega
      subst h; decide
    · have h : i = 1 := by omega
      subst h; decide
  have hT := (hs.1 i hi).2.2.2
  obtain ⟨N, hN⟩ : ∃ N, zsLen.getD i 0 = N := ⟨_, rfl⟩
  rw [hN] at hl3 hn hT
  have key : ∀ (k j : Nat) (ls : Array Slot), N - j < k → j ≤ N → lv_has ls 6 [(5, .int (Int32.ofNat j)), (4, .int ch.toInt8.toInt32), (0, .ref (adV i)), (1, .int ch), (2, .int 0), (3, .int (Int32.ofNat N))] → jW l (1, 64) jI p e s m [.ref (adV i), .int ch, .int 0, .int (Int32.ofNat (zsLen.getD i 0))] below meth c [] (F0 m 7 ls []) := by
    intro k
    induction k with
    | zero => intro j ls h; exact absurd h (Nat.not_lt_zero _)
    | succ k ih =>
    intro j ls hk hj hl
    have ej : (Int32.ofNat j).toInt = j := Int32.toInt_ofNat_of_lt (by omega)
    have eN : (Int32.ofNat N).toInt = N := Int32.toInt_ofNat_of_lt (by omega)
    refine lv_iload b1 b2 (i := 5) (by decide +kernel) (lv_at hl 0 rfl) ?_
    refine lv_iload_n b1 b2 (k := 3) (by decide +kernel) rfl (lv_at hl 5 rfl) ?_
    refine lv_icmp_ge b1 b2 (tgt := 31) (off := 21) (by decide +kernel) (by decide) (fun z => ?_) (fun z => ?_)
    · refine lv_iconst b1 b2 (n := -1) (by decide +kernel) rfl ?_
      exact ret1 32 [] ls _ .int rf rfl rfl (by decide +kernel) ⟨_, rfl⟩
    · have hjN : j < N := by
        rw [Int32.le_iff_toInt_le, ej, eN] at z
        omega
      refine lv_aload_n b1 b2 (k := 0) (by decide +kernel) rfl (lv_at hl 2 rfl) ?_
      refine lv_iload b1 b2 (i := 5) (by decide +kernel) (lv_at hl 0 rfl) ?_
      refine va_tb b1 b2 hT rf (jvin (by omega) (by rw [Int32.lt_iff_toInt_lt, ej]; show ¬ (j : Int) < 0; omega) (by rw [Int32.lt_iff_toInt_lt, ej, eN]; omega)) rfl (by decide +kernel) ?_
      refine lv_iload b1 b2 (i := 4) (by decide +kernel) (lv_at hl 1 rfl) ?_
      refine lv_icmp_ne b1 b2 (tgt := 25) (off := 6) (by decide +kernel) (by decide) (fun _ => ?_) (fun _ => ?_)
      · refine lv_iinc b1 b2 (n := 1) (i := 5) (k := 0) (v := Int32.ofNat (j + 1)) (by decide +kernel) hl rfl ?_ (by decide) rfl ?_
        · show Int32.ofNat j + 1 = Int32.ofNat (j + 1)
          rw [Int32.ofNat_add]
          rfl
        intro ls9 hl9
        refine lv_goto b1 b2 (tgt := 7) (off := -21) (by decide +kernel) (by decide) ?_
        exact ih (j + 1) ls9 (by omega) hjN hl9
      · refine lv_iload b1 b2 (i := 5) (by decide +kernel) (lv_at hl 0 rfl) ?_
        exact ret1 24 [] ls _ .int rf rfl rfl (by decide +kernel) ⟨_, rfl⟩
  exact key (N + 1) 0 ls3 (by omega) (Nat.zero_le _) hl3

theorem jmn {i : Nat} (hi : i < 2) : (if Int32.ofNat (zsLen.getD i 0) < Int32.ofNat (zsLen.getD i 0) then Int32.ofNat (zsLen.getD i 0) else Int32.ofNat (zsLen.getD i 0)) = Int32.ofNat (zsLen.getD i 0) := ite_self _
theorem j_LindexOf {l : Launch} {adK adV : Nat → Nat} {i : Nat} (hi : i < 2) {ch : Int32} : jMet l yJ1_indexOf_4cfef cJ1_indexOf_4cfef 4 (some .int) (2, 89) adK adV [.ref (adV i), .int ch, .int 0, .int (Int32.ofNat (zsLen.getD i 0))] jI := by
  refine jent jm_LindexOf (Nat.le_of_ble_eq_true rfl) ?_
  intro p e s m below meth c ls B hl ret1 ret0
  have B0 := B
  obtain ⟨b1, b2, b3, b4, b5, b6, b7⟩ := B
  obtain ⟨hs, hjr, hz, hq⟩ := b6
  have rf : va_S (va_A [] s.heap.size) s.heap s.heap [] := va_S.rf
  refine lv_iload_n b1 b2 (k := 1) (by decide +kernel) rfl (lv_at hl 1 rfl) ?_
  refine jstat (As := [.int ch]) (rs := []) B0.F rf hl.1 jm_canEncode (by decide +kernel) jl_L_can js_canEncode rfl (Nat.le_of_ble_eq_true rfl) ⟨by decide, by decide⟩ j_canEncode ?_
  intro v locs hv hS
  obtain ⟨b, rfl⟩ := hv
  refine lv_if_ne b1 b2 (tgt := 9) (off := 5) (by decide +kernel) (by decide) (fun _ => ?_) (fun _ => ?_)
  rotate_left
  · refine lv_iconst b1 b2 (n := -1) (by decide +kernel) rfl ?_
    exact ret1 8 locs ls _ .int hS rfl rfl (by decide +kernel) ⟨_, rfl⟩
  refine lv_iload_n b1 b2 (k := 2) (by decide +kernel) rfl (lv_at hl 2 rfl) ?_
  refine lv_iconst b1 b2 (n := 0) (by decide +kernel) rfl ?_
  refine va_mmax b1 b2 (by rw [b3]; exact hl.1.symm) b4 (b5 _ jl_max) (b5 _ w_xs) (b5 _ w_mi) (b5 _ w_xc) (by decide) (by decide) (Nat.zero_le _) (Nat.zero_le _) (by decide +kernel) ?_
  refine lv_istore_n b1 b2 (k := 2) (by decide +kernel) rfl hl (by decide) rfl ?_
  intro ls2 hl2
  have hl2 : lv_has ls2 4 [(2, .int 0), (0, .ref (adV i)), (1, .int ch), (3, .int (Int32.ofNat (zsLen.getD i 0)))] := hl2
  refine lv_iload_n b1 b2 (k := 3) (by decide +kernel) rfl (lv_at hl2 3 rfl) ?_
  refine lv_aload_n b1 b2 (k := 0) (by decide +kernel) rfl (lv_at hl2 1 rfl) ?_
  refine va_tlen b1 b2 (hs.1 i hi).2.2.2 hS rfl (by decide +kernel) ?_
  refine va_mmin b1 b2 (by rw [b3]; exact hl2.1.symm) b4 (b5 _ jl_min) (b5 _ w_ns) (b5 _ w_mi) (b5 _ w_nc) (by decide) (by decide) (Nat.zero_le _) (Nat.zero_le _) (by decide +kernel) ?_
  refine lv_istore_n b1 b2 (k := 3) (by decide +kernel) rfl hl2 (by decide) rfl ?_
  intro ls3 hl3
  rw [ite_self] at hl3
  have hl3 : lv_has ls3 4 [(3, .int (Int32.ofNat (zsLen.getD i 0))), (2, .int 0), (0, .ref (adV i)), (1, .int ch)] := hl3
  refine lv_iload_n b1 b2 (k := 2) (by decide +kernel) rfl (lv_at hl3 1 rfl) ?_
  refine lv_iload_n b1 b2 (k := 3) (by decide +kernel) rfl (lv_at hl3 0 rfl) ?_
  refine lv_icmp_lt b1 b2 (tgt := 29) (off := 5) (by decide +kernel) (by decide) (fun _ => ?_) (fun _ => ?_)
  rotate_left
  · refine lv_iconst b1 b2 (n := -1) (by decide +kernel) rfl ?_
    exact ret1 28 locs ls3 _ .int hS rfl rfl (by decide +kernel) ⟨_, rfl⟩
  refine lv_aload_n b1 b2 (k := 0) (by decide +kernel) rfl (lv_at hl3 2 rfl) ?_
  refine lv_iload_n b1 b2 (k := 1) (by decide +kernel) rfl (lv_at hl3 3 rfl) ?_
  refine lv_iload_n b1 b2 (k := 2) (by decide +kernel) rfl (lv_at hl3 1 rfl) ?_
  refine lv_iload_n b1 b2 (k := 3) (by decide +kernel) rfl (lv_at hl3 0 rfl) ?_
  refine jstat (As := [.ref (adV i), .int ch, .int 0, .int (Int32.ofNat (zsLen.getD i 0))]) (rs := []) B0.F hS hl3.1 jm_indexOfChar (by decide +kernel) jl_L_ioc js_indexOfChar rfl (Nat.le_of_ble_eq_true rfl) ⟨by decide, by decide⟩ (j_indexOfChar hi) ?_
  intro v locs hv hS
  obtain ⟨b, rfl⟩ := hv
  exact ret1 36 locs ls3 _ .int hS rfl rfl (by decide +kernel) ⟨_, rfl⟩

theorem j_indexOf2 {l : Launch} {adK adV : Nat → Nat} {i : Nat} (hi : i < 2) {ch : Int32} : jMet l yJ0_indexOf_7cf53 cJ0_indexOf_7cf53 3 (some .int) (3, 112) adK adV [.ref (adK i), .int ch, .int 0] jI := by
  refine jent jm_indexOf2 (Nat.le_of_ble_eq_true rfl) ?_
  intro p e s m below meth c ls B hl ret1 ret0
  have B0 := B
  obtain ⟨b1, b2, b3, b4, b5, b6, b7⟩ := B
  obtain ⟨hs, hjr, hz, hq⟩ := b6
  have rf : va_S (va_A [] s.heap.size) s.heap s.heap [] := va_S.rf
  refine lv_aload_n b1 b2 (k := 0) (by decide +kernel) rfl (lv_at hl 0 rfl) ?_
  refine jvirt (As := []) (rs := []) B0.F rf hl.1 jm_isLatin1 rfl (by decide +kernel) jl_c_isL ji_isLatin1 je_isLatin1 hi rfl (Nat.le_of_ble_eq_true rfl) ⟨by decide, by decide⟩ (j_isLatin1 hi) ?_
  intro v locs hv hS
  subst hv
  refine lv_if_eq b1 b2 (tgt := 23) (off := 19) (by decide +kernel) (by decide) (fun z => absurd z (by decide)) (fun _ => ?_)
  refine lv_aload_n b1 b2 (k := 0) (by decide +kernel) rfl (lv_at hl 0 rfl) ?_
  refine vk_getf b1 b2 (hs.1 i hi).2.2.1 hS b4 (b5 _ jf_value) (fun _ h => h) (by decide +kernel) ?_
  refine lv_iload_n b1 b2 (k := 1) (by decide +kernel) rfl (lv_at hl 1 rfl) ?_
  refine lv_iload_n b1 b2 (k := 2) (by decide +kernel) rfl (lv_at hl 2 rfl) ?_
  refine lv_aload_n b1 b2 (k := 0) (by decide +kernel) rfl (lv_at hl 0 rfl) ?_
  refine jvirt (As := []) (rs := [.int 0, .int ch, .ref (adV i)]) B0.F hS hl.1 jm_length rfl (by decide +kernel) jl_i_len ji_length je_length hi rfl (Nat.le_of_ble_eq_true rfl) ⟨by decide, by decide⟩ (j_length hi) ?_
  intro v locs hv hS
  subst hv
  refine jstat (As := [.ref (adV i), .int ch, .int 0, .int (Int32.ofNat (zsLen.getD i 0))]) (rs := []) B0.F hS hl.1 jm_LindexOf (by decide +kernel) jl_i_L js_LindexOf rfl (Nat.le_of_ble_eq_true rfl) ⟨by decide, by decide⟩ (j_LindexOf hi) ?_
  intro v locs hv hS
  obtain ⟨b, rfl⟩ := hv
  refine lv_goto b1 b2 (tgt := 36) (off := 16) (by decide +kernel) (by decide) ?_
  exact ret1 36 locs ls _ .int hS rfl rfl (by decide +kernel) ⟨_, rfl⟩

theorem j_indexOf1 {l : Launch} {adK adV : Nat → Nat} {i : Nat} (hi : i < 2) {ch : Int32} : jMet l yJ0_indexOf_0f7a4 cJ0_indexOf_0f7a4 2 (some .int) (4, 134) adK adV [.ref (adK i), .int ch] jI := by
  refine jent jm_indexOf1 (Nat.le_of_ble_eq_true rfl) ?_
  intro p e s m below meth c ls B hl ret1 ret0
  have B0 := B
  obtain ⟨b1, b2, b3, b4, b5, b6, b7⟩ := B
  obtain ⟨hs, hjr, hz, hq⟩ := b6
  have rf : va_S (va_A [] s.heap.size) s.heap s.heap [] := va_S.rf
  refine lv_aload_n b1 b2 (k := 0) (by decide +kernel) rfl (lv_at hl 0 rfl) ?_
  refine lv_iload_n b1 b2 (k := 1) (by decide +kernel) rfl (lv_at hl 1 rfl) ?_
  refine lv_iconst b1 b2 (n := 0) (by decide +kernel) rfl ?_
  refine jvirt (As := [.int ch, .int 0]) (rs := []) B0.F rf hl.1 jm_indexOf2 rfl (by decide +kernel) jl_i_i2 ji_indexOf2 je_indexOf2 hi rfl (Nat.le_of_ble_eq_true rfl) ⟨by decide, by decide⟩ (j_indexOf2 hi) ?_
  intro v locs hv hS
  obtain ⟨b, rfl⟩ := hv
  exact ret1 6 locs ls _ .int hS rfl rfl (by decide +kernel) ⟨_, rfl⟩

set_option maxHeartbeats 2000000 in
theorem j_kind {l : Launch} {adK adV : Nat → Nat} {L : Int64} : jMet l yX8_kindOfWord cX8_kindOfWord 7 (some .int) (5, 149) adK adV [.long L] jI := by
  refine jent jm_kind (Nat.le_of_ble_eq_true rfl) ?_
  intro p e s m below meth c ls B hl ret1 ret0
  have B0 := B
  obtain ⟨b1, b2, b3, b4, b5, b6, b7⟩ := B
  obtain ⟨hs, hjr, hz, hq⟩ := b6
  have rf : va_S (va_A [] s.heap.size) s.heap s.heap [] := va_S.rf
  have key : ∀ (k j : Nat) (w : Int32) (x : Int64) (ls : Array Slot) (locs : List Loc), 81 - j < k → j ≤ 81 → va_S (va_A [] s.heap.size) s.heap s.heap locs → lv_has ls 7 [(5, .int (Int32.ofNat j)), (4, .int w), (2, .long x), (0, .long L)] → jW l (5, 149) jI p e s m [.long L] below meth c locs (F0 m 10 ls []) := by
    intro k
    induction k with
    | zero => intro j w x ls locs h; exact absurd h (Nat.not_lt_zero _)
    | succ k ih =>
    intro j w x ls locs hk hj hS hl
    have ej : (Int32.ofNat j).toInt = j := Int32.toInt_ofNat_of_lt (by omega)
    have e81 : (Int32.ofNat 81).toInt = 81 := by decide
    refine lv_iload b1 b2 (i := 5) (by decide +kernel) (lv_at hl 0 rfl) ?_
    refine va_ldcS b1 b2 b4 hjr.1 (by decide +kernel) ?_
    refine jvirt (As := []) (rs := [.int (Int32.ofNat j)]) B0.F hS hl.1 jm_length rfl (by decide +kernel) jt_len ji_length je_length (show 0 < 2 by decide) rfl (Nat.le_of_ble_eq_true rfl) ⟨by decide, by decide⟩ (j_length (by decide)) ?_
    intro v locs2 hv hS2
    subst hv
    show jW l (5, 149) jI p e s m [.long L] below meth c locs2 (F0 m 17 ls [.int (Int32.ofNat 81), .int (Int32.ofNat j)])
    refine lv_icmp_ge b1 b2 (tgt := 72) (off := 55) (by decide +kernel) (by decide) (fun z => ?_) (fun z => ?_)
    · refine lv_iconst b1 b2 (n := 3) (by decide +kernel) rfl ?_
      exact ret1 73 locs2 ls _ .int hS2 rfl rfl (by decide +kernel) ⟨_, rfl⟩
    have hj8 : j < 81 := by
      rw [Int32.le_iff_toInt_le, ej, e81] at z
      omega
    have o1 : 81 - (j + 1) < k := by omega
    have eS : Int32.ofNat j + Int32.ofInt 1 = Int32.ofNat (j + 1) := by
      rw [Int32.ofNat_add]
      rfl
    refine va_ldcS b1 b2 b4 hjr.1 (by decide +kernel) ?_
    refine lv_iload b1 b2 (i := 5) (by decide +kernel) (lv_at hl 0 rfl) ?_
    refine jvirt (As := [.int (Int32.ofNat j)]) (rs := []) B0.F hS2 hl.1 jm_charAt rfl (by decide +kernel) jt_charAt ji_charAt je_charAt (show 0 < 2 by decide) rfl (Nat.le_of_ble_eq_true rfl) ⟨by decide, by decide⟩ (j_charAt (i := 0) (by decide) (by rw [Int32.lt_iff_toInt_lt, ej]; show ¬ (j : Int) < 0; omega) (by show Int32.ofNat j < Int32.ofNat 81; rw [Int32.lt_iff_toInt_lt, ej, e81]; omega)) ?_
    intro v locs3 hv hS3
    obtain ⟨b, rfl⟩ := hv
    refine lv_istore b1 b2 (i := 6) (by decide +kernel) hl (by decide) rfl ?_
    intro ls2 hl2
    refine lv_iload b1 b2 (i := 6) (by decide +kernel) (lv_at hl2 0 rfl) ?_
    refine lv_bipush b1 b2 (n := 32) (by decide +kernel) rfl ?_
    refine lv_icmp_eq b1 b2 (tgt := 52) (off := 19) (by decide +kernel) (by decide) (fun z => ?_) (fun z => ?_)
    · refine lv_lload_n b1 b2 (k := 2) (by decide +kernel) rfl (lv_at hl2 3 rfl) ?_
      refine lv_lload_n b1 b2 (k := 0) (by decide +kernel) rfl (lv_at hl2 4 rfl) ?_
      refine W.lcmp b1 b2 (by decide +kernel) ?_
      refine lv_if_ne b1 b2 (tgt := 61) (off := 6) (by decide +kernel) (by decide) (fun _ => ?_) (fun _ => ?_)
      · refine lv_lconst b1 b2 (n := 0) (by decide +kernel) rfl ?_
        refine lv_lstore_n b1 b2 (k := 2) (by decide +kernel) rfl hl2 (by decide) rfl ?_
        intro ls3 hl3
        refine lv_iinc b1 b2 (n := 1) (i := 4) (k := 3) (by decide +kernel) hl3 rfl rfl (by decide) rfl ?_
        intro ls4 hl4
        refine lv_iinc b1 b2 (n := 1) (i := 5) (k := 3) (by decide +kernel) hl4 rfl eS (by decide) rfl ?_
        intro ls5 hl5
        refine lv_goto b1 b2 (tgt := 10) (off := -59) (by decide +kernel) (by decide) ?_
        obtain ⟨w2, y, hl5⟩ : ∃ (w2 : Int32) (y : Int64), lv_has ls5 7 [(5, .int (Int32.ofNat (j + 1))), (4, .int w2), (2, .long y), (6, .int (b &&& 255)), (0, .long L)] := ⟨_, _, hl5⟩
        refine ih (j + 1) w2 y ls5 locs3 o1 hj8 hS3 (lvs hl5 (fun q hq => ?_))
        simp only [List.mem_cons, List.not_mem_nil, or_false] at hq ⊢
        rcases hq with h | h | h | h
        · exact Or.inl h
        · exact Or.inr (Or.inl h)
        · exact Or.inr (Or.inr (Or.inl h))
        · exact Or.inr (Or.inr (Or.inr (Or.inr h)))
      · refine lv_iload b1 b2 (i := 4) (by decide +kernel) (lv_at hl2 2 rfl) ?_
        exact ret1 60 locs3 ls2 _ .int hS3 rfl rfl (by decide +kernel) ⟨_, rfl⟩
    · refine lv_lload_n b1 b2 (k := 2) (by decide +kernel) rfl (lv_at hl2 3 rfl) ?_
      refine lv_ldc2 b1 b2 b4 (b5 _ jk_32) (by decide +kernel) ?_
      refine lv_lmul b1 b2 (by decide +kernel) ?_
      refine lv_iload b1 b2 (i := 6) (by decide +kernel) (lv_at hl2 0 rfl) ?_
      refine lv_bipush b1 b2 (n := 96) (by decide +kernel) rfl ?_
      refine lv_isub b1 b2 (by decide +kernel) ?_
      refine lv_i2l b1 b2 (by decide +kernel) rfl ?_
      refine lv_ladd b1 b2 (by decide +kernel) ?_
      refine lv_lstore_n b1 b2 (k := 2) (by decide +kernel) rfl hl2 (by decide) rfl ?_
      intro ls3 hl3
      refine lv_goto b1 b2 (tgt := 66) (off := 17) (by decide +kernel) (by decide) ?_
      refine lv_iinc b1 b2 (n := 1) (i := 5) (k := 2) (by decide +kernel) hl3 rfl eS (by decide) rfl ?_
      intro ls5 hl5
      refine lv_goto b1 b2 (tgt := 10) (off := -59) (by decide +kernel) (by decide) ?_
      obtain ⟨y, hl5⟩ : ∃ (y : Int64), lv_has ls5 7 [(5, .int (Int32.ofNat (j + 1))), (2, .long y), (6, .int (b &&& 255)), (4, .int w), (0, .long L)] := ⟨_, hl5⟩
      refine ih (j + 1) w y ls5 locs3 o1 hj8 hS3 (lvs hl5 (fun q hq => ?_))
      simp only [List.mem_cons, List.not_mem_nil, or_false] at hq ⊢
      rcases hq with h | h | h | h
      · exact Or.inl h
      · exact Or.inr (Or.inr (Or.inr (Or.inl h)))
      · exact Or.inr (Or.inl h)
      · exact Or.inr (Or.inr (Or.inr (Or.inr h)))
  refine lv_lconst b1 b2 (n := 0) (by decide +kernel) rfl ?_
  refine lv_lstore_n b1 b2 (k := 2) (by decide +kernel) rfl hl (by decide) rfl ?_
  intro ls1 hl1
  refine lv_sipush b1 b2 (n := 200) (by decide +kernel) rfl ?_
  refine lv_istore b1 b2 (i := 4) (by decide +kernel) hl1 (by decide) rfl ?_
  intro ls2 hl2
  refine lv_iconst b1 b2 (n := 0) (by decide +kernel) rfl ?_
  refine lv_istore b1 b2 (i := 5) (by decide +kernel) hl2 (by decide) rfl ?_
  intro ls3 hl3
  exact key 82 0 _ _ ls3 [] (by decide) (by decide) rf hl3

