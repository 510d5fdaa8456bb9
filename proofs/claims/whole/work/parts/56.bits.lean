/-! ===== the bits of a word, as numbers ===== -/
theorem nI_m (n : Nat) : nI n = nI (n % 4294967296) := by
  apply Int32.toBitVec_inj.1
  show BitVec.ofNat 32 n = BitVec.ofNat 32 (n % 4294967296)
  apply BitVec.eq_of_toNat_eq
  simp
theorem na_2 (n : Nat) : n &&& 2 = n / 2 % 2 * 2 := by
  have h1 : n &&& 3 = n % 4 := Nat.and_two_pow_sub_one_eq_mod n 2
  have h2 : n &&& 2 = (n &&& 3) &&& 2 := by rw [Nat.and_assoc]; rfl
  have h3 : ∀ m, m < 4 → m &&& 2 = m / 2 % 2 * 2 := by decide
  rw [h2, h1, h3 _ (by omega)]
  omega
theorem na_4 (n : Nat) : n &&& 4 = n / 4 % 2 * 4 := by
  have h1 : n &&& 7 = n % 8 := Nat.and_two_pow_sub_one_eq_mod n 3
  have h2 : n &&& 4 = (n &&& 7) &&& 4 := by rw [Nat.and_assoc]; rfl
  have h3 : ∀ m, m < 8 → m &&& 4 = m / 4 % 2 * 4 := by decide
  rw [h2, h1, h3 _ (by omega)]
  omega
theorem l0 {n : Nat} (h : n < 18446744073709551616) : (lN n = 0) = (n = 0) := propext ⟨fun e => by
  have := congrArg (fun x : Int64 => x.toBitVec.toNat) e
  have h2 : (lN n).toBitVec.toNat = n := wb_tn h
  rw [h2] at this
  exact this, fun e => by rw [e]; rfl⟩
theorem x_type {n : Nat} (h : n < 18446744073709551616) : pX0_type (lN n) = nI (n % 4) := by
  unfold pX0_type
  rw [lN_i, nI_m, pk_andN (by omega) 2 rfl]
  congr 1
  omega
theorem y_a3 {n : Nat} (h : n < 18446744073709551616) : lN n &&& 3 = lN (n % 4) := wb_mask (k := 2) h (by omega)
theorem y_a7 {n : Nat} (h : n < 18446744073709551616) : lN n &&& 7 = lN (n % 8) := wb_mask (k := 3) h (by omega)
theorem y_a2 {n : Nat} (h : n < 18446744073709551616) : (lN n &&& 2 = 0) = (n / 2 % 2 = 0) := by
  rw [ll2, wb_and h (by omega), l0 (by rw [na_2]; omega), na_2]
  exact propext ⟨fun q => by omega, fun q => by omega⟩
theorem y_4 {n : Nat} (h : n < 18446744073709551616) : (lN n &&& 4 = 0) = (n / 4 % 2 = 0) := by
  rw [ll4, wb_and h (by omega), l0 (by rw [na_4]; omega), na_4]
  exact propext ⟨fun q => by omega, fun q => by omega⟩
theorem x_isSL {n : Nat} (h : n < 18446744073709551616) : pX0_isStructOrList (lN n) = if n = 0 ∨ 2 ≤ n % 4 then nI 0 else nI 1 := by
  unfold pX0_isStructOrList
  simp only [l0 h, y_a2 h]
  by_cases h1 : n = 0
  · simp [h1]; rfl
  · by_cases h2 : n / 2 % 2 = 0
    · rw [if_neg h1, if_pos h2, if_neg (by omega)]; rfl
    · rw [if_neg h1, if_neg h2, if_pos (by omega)]; rfl
theorem y_isPad {n : Nat} (h : n < 18446744073709551616) : pX6_isPad (lN n) = if n = 0 ∨ 2 ≤ n % 4 then nI 0 else nI 1 := by
  unfold pX6_isPad
  simp only [l0 h, y_a3 h]
  by_cases h1 : n = 0
  · simp [h1]; rfl
  · by_cases h2 : 2 ≤ n % 4
    · rw [if_neg h1, ll2, if_pos ((pk_lLE (a := 2) (by omega) (by omega)).mpr h2), if_pos (Or.inr h2)]; rfl
    · rw [if_neg h1, ll2, if_neg (fun q => h2 ((pk_lLE (a := 2) (by omega) (by omega)).mp q)), if_neg (by omega)]; rfl
theorem x_two {n : Nat} (h : n < 18446744073709551616) : pX0_hasTwoWordPad (lN n) = if n / 4 % 2 = 0 then nI 0 else nI 1 := by
  unfold pX0_hasTwoWordPad
  simp only [y_4 h]
  rfl
theorem y_s32 {n : Nat} (h : n < 18446744073709551616) : ((lN n).toUInt64 >>> ((32 : Int32).toInt64.toUInt64 &&& Int64.toUInt64 63)).toInt64 = lN (n / 4294967296) := wb_shr (k := 32) h (by omega)
theorem y_s35 {n : Nat} (h : n < 18446744073709551616) : ((lN n).toUInt64 >>> ((35 : Int32).toInt64.toUInt64 &&& Int64.toUInt64 63)).toInt64 = lN (n / 34359738368) := wb_shr (k := 35) h (by omega)
theorem y_s48 {n : Nat} (h : n < 18446744073709551616) : ((lN n).toUInt64 >>> ((48 : Int32).toInt64.toUInt64 &&& Int64.toUInt64 63)).toInt64 = lN (n / 281474976710656) := wb_shr (k := 48) h (by omega)
theorem y_s3 {n : Nat} (h : n < 18446744073709551616) : ((lN n).toUInt64 >>> ((3 : Int32).toInt64.toUInt64 &&& Int64.toUInt64 63)).toInt64 = lN (n / 8) := wb_shr (k := 3) h (by omega)
theorem y_s2 {n : Nat} (h : n < 18446744073709551616) : ((lN n).toUInt64 >>> ((2 : Int32).toInt64.toUInt64 &&& Int64.toUInt64 63)).toInt64 = lN (n / 4) := wb_shr (k := 2) h (by omega)
theorem y_m29 {n : Nat} (h : n < 18446744073709551616) : lN n &&& 536870911 = lN (n % 536870912) := wb_mask (k := 29) h (by omega)
theorem y_m30 {n : Nat} (h : n < 18446744073709551616) : lN n &&& 1073741823 = lN (n % 1073741824) := wb_mask (k := 30) h (by omega)
theorem y_m16 {n : Nat} (h : n < 18446744073709551616) : lN n &&& 65535 = lN (n % 65536) := wb_mask (k := 16) h (by omega)
theorem x_dw {n : Nat} (h : n < 18446744073709551616) : pX0_dataWords (lN n) = nI (n / 4294967296 % 65536) := by
  unfold pX0_dataWords
  rw [y_s32 h, lN_i, pk_andN (by omega) 16 rfl]
theorem x_lk {n : Nat} (h : n < 18446744073709551616) : pX0_listKind (lN n) = nI (n / 4294967296 % 8) := by
  unfold pX0_listKind
  rw [y_s32 h, lN_i, pk_andN (by omega) 3 rfl]
theorem x_pt {n : Nat} (h : n < 18446744073709551616) : pX0_pointers (lN n) = nI (n / 281474976710656) := by
  unfold pX0_pointers
  rw [y_s48 h, lN_i]
theorem x_ln {n : Nat} (h : n < 18446744073709551616) : pX0_listNumber (lN n) = nI (n / 34359738368) := by
  unfold pX0_listNumber
  rw [y_s35 h, lN_i]
theorem x_fs {n : Nat} (h : n < 18446744073709551616) : pX0_farSegment (lN n) = if 4 ≤ n / 4294967296 then -1 else nI (n / 4294967296) := by
  unfold pX0_farSegment
  rw [y_s32 h, lN_i]
  by_cases q : 4 ≤ n / 4294967296
  · rw [if_pos q, ll4, if_pos ((pk_lLE (a := 4) (by omega) (by omega)).mpr q)]
  · rw [if_neg q, ll4, if_neg (fun e => q ((pk_lLE (a := 4) (by omega) (by omega)).mp e))]
theorem x_fw {n : Nat} (h : n < 18446744073709551616) : pX0_farWord (lN n) = nI (n / 8 % 536870912) := by
  unfold pX0_farWord
  rw [lN_i, nI_m, pk_ushrN (by omega) _ 3 rfl]
  congr 1
  omega
theorem x_tc {n : Nat} (h : n < 18446744073709551616) : pX0_tagCount (lN n) = nI (n / 4 % 1073741824) := by
  unfold pX0_tagCount
  rw [lN_i, nI_m, pk_ushrN (by omega) _ 2 rfl]
  congr 1
  omega
theorem xy_off (w : Int64) : pX0_offset w = pX6_offset w := rfl
/-! .. as rules -/
def iM1 : Int32 := -1
theorem iM1_n : iM1 < 0 := by decide
theorem cx_two0 {n : Nat} (h : n < 18446744073709551616) (q : n / 4 % 2 = 0) : pX0_hasTwoWordPad (lN n) = nI 0 := by rw [x_two h, if_pos q]
theorem cx_two1 {n : Nat} (h : n < 18446744073709551616) (q : n / 4 % 2 = 1) : pX0_hasTwoWordPad (lN n) = nI 1 := by rw [x_two h, if_neg (by omega)]
theorem cx_sl0 {n : Nat} (h : n < 18446744073709551616) (q : n = 0 ∨ 2 ≤ n % 4) : pX0_isStructOrList (lN n) = nI 0 := by rw [x_isSL h, if_pos q]
theorem cx_sl1 {n : Nat} (h : n < 18446744073709551616) (q : n ≠ 0) (q2 : n % 4 < 2) : pX0_isStructOrList (lN n) = nI 1 := by rw [x_isSL h, if_neg (by omega)]
theorem cy_p0 {n : Nat} (h : n < 18446744073709551616) (q : n = 0 ∨ 2 ≤ n % 4) : pX6_isPad (lN n) = nI 0 := by rw [y_isPad h, if_pos q]
theorem cy_p1 {n : Nat} (h : n < 18446744073709551616) (q : n ≠ 0) (q2 : n % 4 < 2) : pX6_isPad (lN n) = nI 1 := by rw [y_isPad h, if_neg (by omega)]
theorem cx_fs1 {n : Nat} (h : n < 18446744073709551616) (q : 4 ≤ n / 4294967296) : pX0_farSegment (lN n) = iM1 := by rw [x_fs h, if_pos q]; rfl
theorem cx_fs0 {n : Nat} (h : n < 18446744073709551616) (q : n / 4294967296 < 4) : pX0_farSegment (lN n) = nI (n / 4294967296) := by rw [x_fs h, if_neg (by omega)]
theorem cy_4T {n : Nat} (h : n < 18446744073709551616) (q : n / 4 % 2 = 0) : (lN n &&& lN 4 = lN 0) = True := by
  have := y_4 h
  rw [ll4, ll0] at this
  rw [this]; exact eq_true q
theorem cy_4F {n : Nat} (h : n < 18446744073709551616) (q : n / 4 % 2 = 1) : (lN n &&& lN 4 = lN 0) = False := by
  have := y_4 h
  rw [ll4, ll0] at this
  rw [this]; exact eq_false (by omega)
theorem cy_32 {n : Nat} (h : n < 18446744073709551616) : ((lN n).toUInt64 >>> ((lN 32).toUInt64 &&& (lN 63).toUInt64)).toInt64 = lN (n / 4294967296) := y_s32 h
theorem cy_35 {n : Nat} (h : n < 18446744073709551616) : ((lN n).toUInt64 >>> ((lN 35).toUInt64 &&& (lN 63).toUInt64)).toInt64 = lN (n / 34359738368) := y_s35 h
theorem cy_48 {n : Nat} (h : n < 18446744073709551616) : ((lN n).toUInt64 >>> ((lN 48).toUInt64 &&& (lN 63).toUInt64)).toInt64 = lN (n / 281474976710656) := y_s48 h
theorem cy_s3 {n : Nat} (h : n < 18446744073709551616) : ((lN n).toUInt64 >>> ((lN 3).toUInt64 &&& (lN 63).toUInt64)).toInt64 = lN (n / 8) := y_s3 h
theorem cy_s2 {n : Nat} (h : n < 18446744073709551616) : ((lN n).toUInt64 >>> ((lN 2).toUInt64 &&& (lN 63).toUInt64)).toInt64 = lN (n / 4) := y_s2 h
theorem cy_m29 {n : Nat} (h : n < 18446744073709551616) : lN n &&& 536870911 = lN (n % 536870912) := y_m29 h
theorem cy_m30 {n : Nat} (h : n < 18446744073709551616) : lN n &&& 1073741823 = lN (n % 1073741824) := y_m30 h
theorem cy_m16 {n : Nat} (h : n < 18446744073709551616) : lN n &&& lN 65535 = lN (n % 65536) := y_m16 h
theorem cy_a3 {n : Nat} (h : n < 18446744073709551616) : lN n &&& lN 3 = lN (n % 4) := y_a3 h
theorem cy_a7 {n : Nat} (h : n < 18446744073709551616) : lN n &&& lN 7 = lN (n % 8) := y_a7 h
