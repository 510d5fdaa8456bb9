/-! ===== rules: long numbers ===== -/
theorem wb_tb (n : Nat) : (lN n).toBitVec = BitVec.ofNat 64 n := rfl
theorem wb_inj {a b : Int64} (h : a.toBitVec = b.toBitVec) : a = b := Int64.toBitVec_inj.mp h
theorem wb_tn {n : Nat} (h : n < 2 ^ 64) : (lN n).toBitVec.toNat = n := by rw [wb_tb, BitVec.toNat_ofNat, Nat.mod_eq_of_lt h]
theorem wb_of (x : Int64) : ∃ n, n < 2 ^ 64 ∧ x = lN n := ⟨x.toBitVec.toNat, x.toBitVec.isLt, wb_inj (by rw [wb_tb]; simp)⟩
theorem wb_of32 (x : Int32) : ∃ n, n < 2 ^ 32 ∧ x = nI n := ⟨x.toBitVec.toNat, x.toBitVec.isLt, Int32.toBitVec_inj.mp (by show _ = BitVec.ofNat 32 _; simp)⟩
theorem wb_c : ∀ k, k < 64 → ((nI k).toInt64 &&& 63) = lN k := by decide +kernel
theorem wb_cu : ∀ k, k < 64 → ((nI k).toInt64.toUInt64 &&& Int64.toUInt64 63) = UInt64.ofNat k := by decide +kernel
theorem wb_sm : ∀ k, k < 64 → (BitVec.ofNat 64 k).smod 64 = BitVec.ofNat 64 k := by decide +kernel
theorem wb_pw {a b : Nat} (h : a ≤ b) : 2 ^ b = 2 ^ a * 2 ^ (b - a) := by rw [← Nat.pow_add]; congr 1; omega
theorem wb_lt2 {a b : Nat} (h : a < b) : 2 ^ a < 2 ^ b := Nat.pow_lt_pow_right (by decide) h
theorem wb_mod (n : Nat) : lN n = lN (n % 2 ^ 64) := wb_inj (by rw [wb_tb, wb_tb]; apply BitVec.eq_of_toNat_eq; rw [BitVec.toNat_ofNat, BitVec.toNat_ofNat, Nat.mod_mod])
theorem wb_shr {n k : Nat} (hn : n < 2 ^ 64) (hk : k < 64) : ((lN n).toUInt64 >>> ((nI k).toInt64.toUInt64 &&& Int64.toUInt64 63)).toInt64 = lN (n / 2 ^ k) := by
  rw [wb_cu k hk]
  apply wb_inj
  apply BitVec.eq_of_toNat_eq
  show ((lN n).toUInt64 >>> UInt64.ofNat k).toNat = (BitVec.ofNat 64 _).toNat
  have h1 : (UInt64.ofNat k).toNat = k := by
    show (BitVec.ofNat 64 k).toNat = k
    rw [BitVec.toNat_ofNat, Nat.mod_eq_of_lt (by omega)]
  have h2 : (lN n).toUInt64.toNat = n := wb_tn hn
  rw [UInt64.toNat_shiftRight, h1, h2, Nat.mod_eq_of_lt hk, Nat.shiftRight_eq_div_pow, BitVec.toNat_ofNat, Nat.mod_eq_of_lt (Nat.lt_of_le_of_lt (Nat.div_le_self _ _) hn)]
theorem wb_shl (n : Nat) {k : Nat} (hk : k < 64) : lN n <<< ((nI k).toInt64 &&& 63) = lN (n * 2 ^ k) := by
  rw [wb_c k hk]
  apply wb_inj
  rw [Int64.toBitVec_shiftLeft, wb_tb, wb_tb, wb_tb, wb_sm k hk]
  apply BitVec.eq_of_toNat_eq
  rw [BitVec.shiftLeft_eq', BitVec.toNat_shiftLeft, BitVec.toNat_ofNat, BitVec.toNat_ofNat, BitVec.toNat_ofNat, Nat.mod_eq_of_lt (show k < 2 ^ 64 by omega), Nat.shiftLeft_eq, Nat.mul_mod, Nat.mod_mod, ← Nat.mul_mod]
theorem wb_and {a b : Nat} (ha : a < 2 ^ 64) (hb : b < 2 ^ 64) : lN a &&& lN b = lN (a &&& b) := by
  apply wb_inj
  rw [Int64.toBitVec_and, wb_tb, wb_tb, wb_tb]
  apply BitVec.eq_of_toNat_eq
  rw [BitVec.toNat_and, BitVec.toNat_ofNat, BitVec.toNat_ofNat, BitVec.toNat_ofNat, Nat.mod_eq_of_lt ha, Nat.mod_eq_of_lt hb, Nat.mod_eq_of_lt (Nat.and_lt_two_pow _ hb)]
theorem wb_or {a b : Nat} (ha : a < 2 ^ 64) (hb : b < 2 ^ 64) : lN a ||| lN b = lN (a ||| b) := by
  apply wb_inj
  rw [Int64.toBitVec_or, wb_tb, wb_tb, wb_tb]
  apply BitVec.eq_of_toNat_eq
  rw [BitVec.toNat_or, BitVec.toNat_ofNat, BitVec.toNat_ofNat, BitVec.toNat_ofNat, Nat.mod_eq_of_lt ha, Nat.mod_eq_of_lt hb, Nat.mod_eq_of_lt (Nat.or_lt_two_pow ha hb)]
theorem wb_mask {n k : Nat} (hn : n < 2 ^ 64) (hk : k < 64) : lN n &&& lN (2 ^ k - 1) = lN (n % 2 ^ k) := by
  rw [wb_and hn (by have := wb_lt2 hk; omega), Nat.and_two_pow_sub_one_eq_mod]
theorem wb_a1 {n : Nat} (hn : n < 2 ^ 64) : lN n &&& 1 = lN (n % 2) := wb_mask (k := 1) hn (by decide)
theorem wb_bit {n k : Nat} (hn : n < 2 ^ 64) (hk : k < 64) : ((lN n).toUInt64 >>> ((nI k).toInt64.toUInt64 &&& Int64.toUInt64 63)).toInt64 &&& 1 = lN (n / 2 ^ k % 2) := by
  rw [wb_shr hn hk, wb_a1 (Nat.lt_of_le_of_lt (Nat.div_le_self _ _) hn)]
theorem wb_xor {q k : Nat} (hk : k < 63) (h : 2 ^ k ≤ q) (h2 : q < 2 ^ (k + 1)) : lN q ^^^ lN (2 ^ k) = lN (q - 2 ^ k) := by
  obtain ⟨r, rfl⟩ : ∃ r, q = 2 ^ k + r := ⟨q - 2 ^ k, by omega⟩
  have hr : r < 2 ^ k := by rw [Nat.pow_succ] at h2; omega
  have hx : (2 ^ k + r) ^^^ 2 ^ k = r := by
    apply Nat.eq_of_testBit_eq
    intro i
    rw [Nat.testBit_xor, Nat.testBit_two_pow]
    rcases Nat.lt_trichotomy i k with h | h | h
    · rw [Nat.testBit_two_pow_add_gt h]
      simp [show ¬ k = i by omega]
    · subst h
      rw [Nat.testBit_two_pow_add_eq]
      simp
    · have a1 : 2 ^ (k + 1) ≤ 2 ^ i := Nat.pow_le_pow_right (by decide) h
      rw [Nat.testBit_lt_two_pow (show 2 ^ k + r < 2 ^ i by omega), Nat.testBit_lt_two_pow (show r < 2 ^ i by omega)]
      simp [show ¬ k = i by omega]
  have b1 := wb_lt2 (show k + 1 < 64 by omega)
  have b2 := wb_lt2 (show k < 64 by omega)
  apply wb_inj
  rw [Int64.toBitVec_xor, wb_tb, wb_tb, wb_tb]
  apply BitVec.eq_of_toNat_eq
  rw [BitVec.toNat_xor, BitVec.toNat_ofNat, BitVec.toNat_ofNat, BitVec.toNat_ofNat, Nat.mod_eq_of_lt (by omega : 2 ^ k + r < 2 ^ 64), Nat.mod_eq_of_lt b2, hx, Nat.add_sub_cancel_left, Nat.mod_eq_of_lt (by omega)]
/-! ===== lN: masks, 'or' of parts that don't overlap is a sum ===== -/
theorem ll0 : (0 : Int64) = lN 0 := rfl
theorem ll1 : (1 : Int64) = lN 1 := rfl
theorem ll2 : (2 : Int64) = lN 2 := rfl
theorem ll3 : (3 : Int64) = lN 3 := rfl
theorem ll4 : (4 : Int64) = lN 4 := rfl
theorem ll7 : (7 : Int64) = lN 7 := rfl
theorem ll63 : (63 : Int64) = lN 63 := rfl
theorem ll64 : (64 : Int64) = lN 64 := rfl
theorem ll65535 : (65535 : Int64) = lN 65535 := rfl
theorem lltT {a b : Nat} (h : a < b) (hb : b < 9223372036854775808) : (lN a < lN b) = True := eq_true ((pk_lLT (by omega) (by omega)).mpr h)
theorem lltF {a b : Nat} (h : b ≤ a) (ha : a < 9223372036854775808) : (lN a < lN b) = False := eq_false fun q => by have := (pk_lLT (by omega) (by omega)).mp q; omega
theorem lleT {a b : Nat} (h : a ≤ b) (hb : b < 9223372036854775808) : (lN a ≤ lN b) = True := eq_true ((pk_lLE (by omega) (by omega)).mpr h)
theorem lleF {a b : Nat} (h : b < a) (ha : a < 9223372036854775808) : (lN a ≤ lN b) = False := eq_false fun q => by have := (pk_lLE (by omega) (by omega)).mp q; omega
theorem leqT {a b : Nat} (h : a = b) : (lN a = lN b) = True := eq_true (by rw [h])
theorem leqF {a b : Nat} (h : a ≠ b) (ha : a < 9223372036854775808) (hb : b < 9223372036854775808) : (lN a = lN b) = False := eq_false fun q => h ((pk_lEQ (by omega) (by omega)).mp q)
theorem and_m1 (x : Int64) : x &&& (-1) = x := wb_inj (by
  rw [Int64.toBitVec_and]
  show x.toBitVec &&& BitVec.allOnes 64 = x.toBitVec
  exact BitVec.and_allOnes)
theorem and_0 (x : Int64) : x &&& (0 : Int64) = 0 := wb_inj (by
  rw [Int64.toBitVec_and]
  show x.toBitVec &&& 0#64 = 0#64
  exact BitVec.and_zero)
theorem eb_c : ∀ k, k < 7 → pX0_elementBits (nI k) = some (nI (zbw (k + 1))) := by decide
theorem eb_m : ∀ k, k < 8 → pX6_bits (nI k) = nI (zbw (k + 1)) := by decide
theorem sm64 (p : Nat) : p - p / 64 * 64 = p % 64 := by omega
/-- an element of w bits at bit p of a row of words -/
def zel (w : Nat) (x : Int64) (p : Nat) : Int64 := if w = 64 then (x.toUInt64 >>> ((lN (p % 64)).toUInt64 &&& Int64.toUInt64 63)).toInt64 else (x.toUInt64 >>> ((lN (p % 64)).toUInt64 &&& Int64.toUInt64 63)).toInt64 &&& (((1 : Int64) <<< (lN w &&& 63)) - 1)
theorem c_flat {Z : CZ} {u : CS} {v : MS} {cn : Nat → Nat} (hM : gMSG Z u v cn) {a sh sg bg k w : Nat} (g0 : Uf u 0 a = nI sh) (g4 : Uf u 4 a = nI sg) (g5 : Uf u 5 a = nI bg) (h1 : 1 ≤ sh) (h2 : sh ≤ 7) (hw : zbw sh = w) (hs : sg < 4) (hb : bg + k * w / 64 < cn sg) (hk : k < 1073741824) (hw2 : w ≤ 64) : pX3_flatElement Z u a (nI k) = some (zel w (Vr v 1 (64 * sg + (bg + k * w / 64))) (k * w)) := by
  have hc := (hM sg hs).1
  have hkw : k * w ≤ k * 64 := Nat.mul_le_mul_left _ hw2
  have e1 : pX0_elementBits (nI sh - nI 1) = some (nI w) := by
    rw [pk_sub h1, eb_c _ (by omega), show sh - 1 + 1 = sh by omega, hw]
  have e2 := c_at hM hs hb
  have e3 : (nI k).toInt64 * (nI w).toInt64 = lN (k * w) := by rw [nI_l (by omega), nI_l (by omega), lN_mul]
  have e4 : lN (k * w) / 64 = lN (k * w / 64) := pk_lDiv (b := 64) (by omega) (by omega) (by omega)
  have e5 : lN (k * w) - lN (k * w / 64) * 64 = lN (k * w % 64) := by
    rw [ll64, lN_mul, lN_sub (by omega), sm64]
  unfold pX3_flatElement
  rw [g0, g4, g5, il1, e1]
  simp only [Option.bind_some, e3, e4, lN_i, nI_add, e2, e5]
  rw [nI_l (by omega)]
  unfold zel pX0_lowest
  by_cases h : w = 64
  · rw [if_pos h, h, if_neg (by decide), and_m1]
  · rw [if_neg h, il64, if_pos (nI_lt (by omega) (by omega)), nI_l (by omega)]
theorem m_flat {v : MS} {j sh co sg bg k w : Nat} (r0 : Va v 14 j = nI sh) (r1 : Va v 17 j = nI co) (r4 : Va v 15 j = nI sg) (r5 : Va v 16 j = nI bg) (h1 : 2 ≤ sh) (h2 : sh ≤ 6) (hw : zbw sh = w) (hs : sg < 4) (hb : bg + k * w / 64 < 64) (hk : k < co) (hco : co < 1073741824) (hw2 : w ≤ 64) (hj : j < 16) : pX6_data_56 v (nI j) (nI k) 0 = some (tI v 0 0, zel w (Vr v 1 (64 * sg + (bg + k * w / 64))) (k * w)) := by
  have hkw : k * w ≤ k * 64 := Nat.mul_le_mul_left _ hw2
  have e1 : pX6_bits (nI sh - 1) = nI w := by
    rw [il1, pk_sub (by omega), eb_m _ (by omega), show sh - 1 + 1 = sh by omega, hw]
  have e3 : (nI k).toInt64 * (nI w).toInt64 = lN (k * w) := by rw [nI_l (by omega), nI_l (by omega), lN_mul]
  have e4 : lN (k * w) / 64 = lN (k * w / 64) := pk_lDiv (b := 64) (by omega) (by omega) (by omega)
  have e5 : lN (k * w) - lN (k * w / 64) * 64 = lN (k * w % 64) := by
    rw [ll64, lN_mul, lN_sub (by omega), sm64]
  have e6 : inb (nI j) 16 = true := inT hj (by omega)
  have e7 : (nI j).toNatClampNeg = j := nI_clamp (by omega)
  have e8 : ¬ nI sh = 1 := fun q => by have := (nI_eq (b := 1) (by omega) (by omega)).mp q; omega
  have e9 : ¬ nI sh = 0 := fun q => by have := (nI_eq (b := 0) (by omega) (by omega)).mp q; omega
  have e10 : nI k < nI co := nI_lt hk (by omega)
  have e11 : (64 : Int32) * nI sg + nI bg + nI (k * w / 64) = nI (64 * sg + (bg + k * w / 64)) := by
    rw [il64, pk_mul, nI_add, nI_add, Nat.add_assoc]
  unfold pX6_data_56
  simp only [e6, e7, r0, r1, r4, r5, e8, e9, e10, if_true, if_false, Option.bind_some, e1, e3, e4, e5, lN_i, e11]
  rw [inT (by omega) (by omega), nI_clamp (by omega), nI_l (by omega), nI_l (by omega)]
  unfold zel
  by_cases h : w = 64
  · subst h
    simp only [if_true]
    rfl
  · have e12 : ¬ nI w = 64 := fun q => by have := (nI_eq (b := 64) (by omega) (by omega)).mp q; omega
    simp only [if_true, e12, if_false, h]
theorem T_data {Z : CZ} {u : CS} {v : MS} (hR : Rel Z u v) (a1 a2 : Int32) : ∃ res v' b, pX5_data Z u a1 a2 = some res ∧ pX6_data v a1 a2 = some (v', b) ∧ zBoth Z lco2 [1, 2, 5] res v' b := by
  have hRx := fun x => Rel_0 hR x
  obtain ⟨hd, cn, hn, l, b, fn, kn, hM, ⟨q1, q2, q3, q4, q5, q6, q7⟩, hB, hF, hK⟩ := hR
  rcases z_hcase a1 q1 with h | ⟨j, hj, rfl⟩
  · refine ⟨(u, .inl 2), tI v 0 1, 0, ?_, ?_, Or.inl ⟨u, 2, rfl, by decide, ?_, hRx 1⟩⟩
    · simp [pX5_data, c_reqH0 q3 q1 h]
    · simp [pX6_data, m_isH0 q4 q1 h, pX6_data_56]
    · simp [vi_I]; rfl
  · obtain ⟨sh, co, po, ed, sg, bg, dp, ⟨o1, o2, o3, o4, o5, o6, o7, o8, o9⟩, b2, b3, ⟨g0, g1, g2, g3, g4, g5, g6⟩, ⟨r0, r1, r2, r3, r4, r5, r6⟩⟩ := q7 j hj
    have e1 : pX5_requireHandle Z u (nI j) = some (u, .inr (Zh Z j)) := c_reqH q3 q1 hj
    have e2 : pX6_isHandle v (nI j) = 1 := m_isH q4 q1 hj
    have e3 : inb (nI j) 16 = true := inT (by omega) (by omega)
    have e4 : (nI j).toNatClampNeg = j := nI_clamp (by omega)
    obtain ⟨c1, c2, c3, c4⟩ := hM sg o2
    by_cases s7 : 7 ≤ sh
    · refine ⟨(u, .inl 5), tI v 0 2, 0, ?_, ?_, Or.inl ⟨u, 5, rfl, by decide, ?_, hRx 2⟩⟩
      · by_cases s8 : sh = 7 <;> simp (disch := omega) [pX5_data, e1, g0, il0, il1, il2, il3, il4, il5, il6, il7, il8, il10, il16, il31, il32, il48, il35, il63, il64, ltT, ltF, leT, leF, eqT, eqF, inT, nI_clamp, nI_add, pk_sub, pk_mul]
      · simp (disch := omega) [pX6_data, pX6_data_56, e2, e3, e4, r0, il0, il1, il2, il3, il4, il5, il6, il7, il8, il10, il16, il31, il32, il48, il35, il63, il64, ltT, ltF, leT, leF, eqT, eqF, inT, nI_clamp, nI_add, pk_sub, pk_mul]
      · simp [vi_I]; rfl
    rcases negI a2 with h | ⟨k, hk, rfl⟩
    · refine ⟨(u, .inl 1), tI v 0 3, 0, ?_, ?_, Or.inl ⟨u, 1, rfl, by decide, ?_, hRx 3⟩⟩
      · simp (disch := omega) [pX5_data, e1, g0, pX5_requireElement, il0, il1, il2, il3, il4, il5, il6, il7, il8, il10, il16, il31, il32, il48, il35, il63, il64, ltT, ltF, leT, leF, eqT, eqF, inT, nI_clamp, nI_add, pk_sub, pk_mul, ngT h]
      · simp (disch := omega) [pX6_data, pX6_data_51, pX6_data_56, e2, e3, e4, r0, il0, il1, il2, il3, il4, il5, il6, il7, il8, il10, il16, il31, il32, il48, il35, il63, il64, ltT, ltF, leT, leF, eqT, eqF, inT, nI_clamp, nI_add, pk_sub, pk_mul, ngT h]
      · simp [vi_I]; rfl
    by_cases s0 : sh = 0
    · subst s0
      by_cases hk2 : k < co
      · have h7 := (o7 rfl).1
        refine ⟨(u, .inr (Vr v 1 (64 * sg + bg + k))), tI v 0 0, Vr v 1 (64 * sg + bg + k), ?_, ?_, Or.inr ⟨u, rfl, by simp [vi_I], hRx 0⟩⟩
        · have := c4 (bg + k) (by omega)
          simp (disch := omega) [pX5_data, e1, g0, g1, g4, g5, pX5_requireElement, pX3_at, il0, il1, il2, il3, il4, il5, il6, il7, il8, il10, il16, il31, il32, il48, il35, il63, il64, ltT, ltF, leT, leF, eqT, eqF, inT, nI_clamp, nI_add, pk_sub, pk_mul, c2, this]
          congr 1
          omega
        · simp (disch := omega) [pX6_data, pX6_data_55, pX6_data_56, e2, e3, e4, r0, r1, r4, r5, il0, il1, il2, il3, il4, il5, il6, il7, il8, il10, il16, il31, il32, il48, il35, il63, il64, ltT, ltF, leT, leF, eqT, eqF, inT, nI_clamp, nI_add, pk_sub, pk_mul]
      · refine ⟨(u, .inr 0), tI v 0 0, 0, ?_, ?_, Or.inr ⟨u, rfl, by simp [vi_I], hRx 0⟩⟩
        · simp (disch := omega) [pX5_data, e1, g0, g1, pX5_requireElement, il0, il1, il2, il3, il4, il5, il6, il7, il8, il10, il16, il31, il32, il48, il35, il63, il64, ltT, ltF, leT, leF, eqT, eqF, inT, nI_clamp, nI_add, pk_sub, pk_mul]
        · simp (disch := omega) [pX6_data, pX6_data_55, pX6_data_56, e2, e3, e4, r0, r1, il0, il1, il2, il3, il4, il5, il6, il7, il8, il10, il16, il31, il32, il48, il35, il63, il64, ltT, ltF, leT, leF, eqT, eqF, inT, nI_clamp, nI_add, pk_sub, pk_mul]
    · by_cases hk2 : k < co
      · obtain ⟨h8a, h8b, h8c⟩ := o8 (by omega) (by omega)
        have s16 : sh = 1 ∨ sh = 2 ∨ sh = 3 ∨ sh = 4 ∨ sh = 5 ∨ sh = 6 := by omega
        rcases s16 with rfl | rfl | rfl | rfl | rfl | rfl
        · have e5 : ∃ x, pX3_at Z u (nI sg) (nI bg) = some x := by
            by_cases hb : bg < cn sg
            · exact ⟨_, c_at hM o2 hb⟩
            · exact ⟨0, by simp (disch := omega) [pX3_at, il0, il1, il2, il3, il4, il5, il6, il7, il8, il10, il16, il31, il32, il48, il35, il63, il64, ltT, ltF, leT, leF, eqT, eqF, inT, nI_clamp, nI_add, pk_sub, pk_mul, c2]⟩
          obtain ⟨x, e5⟩ := e5
          refine ⟨(u, .inr 0), tI v 0 0, 0, ?_, ?_, Or.inr ⟨u, rfl, by simp [vi_I], hRx 0⟩⟩
          · have e6 : pX0_lowest (nI 0) = 0 := by decide
            have e7 : (lN 0).toInt32 = nI 0 := rfl
            simp (disch := omega) [pX5_data, e1, g0, g1, g4, g5, pX5_requireElement, pX3_flatElement, il0, il1, il2, il3, il4, il5, il6, il7, il8, il10, il16, il31, il32, il48, il35, il63, il64, ltT, ltF, leT, leF, eqT, eqF, inT, nI_clamp, nI_add, pk_sub, pk_mul, eb_c, zbw, lltT, lltF, lleT, lleF, leqT, leqF, lN_add, lN_mul, lN_sub, lN_i, nI_l, pk_lDiv, ll64, e5, e6, and_0]
          · simp (disch := omega) [pX6_data, pX6_data_55, pX6_data_56, e2, e3, e4, r0, r1, il0, il1, il2, il3, il4, il5, il6, il7, il8, il10, il16, il31, il32, il48, il35, il63, il64, ltT, ltF, leT, leF, eqT, eqF, inT, nI_clamp, nI_add, pk_sub, pk_mul]
        · have hb : bg + k * zbw 2 / 64 < cn sg := by
            simp only [zbw] at h8c ⊢
            omega
          refine ⟨(u, .inr (zel (zbw 2) (Vr v 1 (64 * sg + (bg + k * zbw 2 / 64))) (k * zbw 2))), tI v 0 0, _, ?_, ?_, Or.inr ⟨u, rfl, by simp [vi_I], hRx 0⟩⟩
          · have e9 := c_flat hM g0 g4 g5 (by omega) (by omega) rfl o2 hb (by omega) (by decide)
            simp (disch := omega) [pX5_data, e1, g0, g1, e9, pX5_requireElement, il0, il1, il2, il3, il4, il5, il6, il7, il8, il10, il16, il31, il32, il48, il35, il63, il64, ltT, ltF, leT, leF, eqT, eqF, inT, nI_clamp, nI_add, pk_sub, pk_mul]
          · have e9 := m_flat (k := k) r0 r1 r4 r5 (by omega) (by omega) rfl o2 (by omega) hk2 o4 (by decide) (show j < 16 by omega)
            rw [← e9]
            simp (disch := omega) [pX6_data, pX6_data_55, e2, e3, e4, r0, r1, il0, il1, il2, il3, il4, il5, il6, il7, il8, il10, il16, il31, il32, il48, il35, il63, il64, ltT, ltF, leT, leF, eqT, eqF, inT, nI_clamp, nI_add, pk_sub, pk_mul]
        · have hb : bg + k * zbw 3 / 64 < cn sg := by
            simp only [zbw] at h8c ⊢
            omega
          refine ⟨(u, .inr (zel (zbw 3) (Vr v 1 (64 * sg + (bg + k * zbw 3 / 64))) (k * zbw 3))), tI v 0 0, _, ?_, ?_, Or.inr ⟨u, rfl, by simp [vi_I], hRx 0⟩⟩
          · have e9 := c_flat hM g0 g4 g5 (by omega) (by omega) rfl o2 hb (by omega) (by decide)
            simp (disch := omega) [pX5_data, e1, g0, g1, e9, pX5_requireElement, il0, il1, il2, il3, il4, il5, il6, il7, il8, il10, il16, il31, il32, il48, il35, il63, il64, ltT, ltF, leT, leF, eqT, eqF, inT, nI_clamp, nI_add, pk_sub, pk_mul]
          · have e9 := m_flat (k := k) r0 r1 r4 r5 (by omega) (by omega) rfl o2 (by omega) hk2 o4 (by decide) (show j < 16 by omega)
            rw [← e9]
            simp (disch := omega) [pX6_data, pX6_data_55, e2, e3, e4, r0, r1, il0, il1, il2, il3, il4, il5, il6, il7, il8, il10, il16, il31, il32, il48, il35, il63, il64, ltT, ltF, leT, leF, eqT, eqF, inT, nI_clamp, nI_add, pk_sub, pk_mul]
        · have hb : bg + k * zbw 4 / 64 < cn sg := by
            simp only [zbw] at h8c ⊢
            omega
          refine ⟨(u, .inr (zel (zbw 4) (Vr v 1 (64 * sg + (bg + k * zbw 4 / 64))) (k * zbw 4))), tI v 0 0, _, ?_, ?_, Or.inr ⟨u, rfl, by simp [vi_I], hRx 0⟩⟩
          · have e9 := c_flat hM g0 g4 g5 (by omega) (by omega) rfl o2 hb (by omega) (by decide)
            simp (disch := omega) [pX5_data, e1, g0, g1, e9, pX5_requireElement, il0, il1, il2, il3, il4, il5, il6, il7, il8, il10, il16, il31, il32, il48, il35, il63, il64, ltT, ltF, leT, leF, eqT, eqF, inT, nI_clamp, nI_add, pk_sub, pk_mul]
          · have e9 := m_flat (k := k) r0 r1 r4 r5 (by omega) (by omega) rfl o2 (by omega) hk2 o4 (by decide) (show j < 16 by omega)
            rw [← e9]
            simp (disch := omega) [pX6_data, pX6_data_55, e2, e3, e4, r0, r1, il0, il1, il2, il3, il4, il5, il6, il7, il8, il10, il16, il31, il32, il48, il35, il63, il64, ltT, ltF, leT, leF, eqT, eqF, inT, nI_clamp, nI_add, pk_sub, pk_mul]
        · have hb : bg + k * zbw 5 / 64 < cn sg := by
            simp only [zbw] at h8c ⊢
            omega
          refine ⟨(u, .inr (zel (zbw 5) (Vr v 1 (64 * sg + (bg + k * zbw 5 / 64))) (k * zbw 5))), tI v 0 0, _, ?_, ?_, Or.inr ⟨u, rfl, by simp [vi_I], hRx 0⟩⟩
          · have e9 := c_flat hM g0 g4 g5 (by omega) (by omega) rfl o2 hb (by omega) (by decide)
            simp (disch := omega) [pX5_data, e1, g0, g1, e9, pX5_requireElement, il0, il1, il2, il3, il4, il5, il6, il7, il8, il10, il16, il31, il32, il48, il35, il63, il64, ltT, ltF, leT, leF, eqT, eqF, inT, nI_clamp, nI_add, pk_sub, pk_mul]
          · have e9 := m_flat (k := k) r0 r1 r4 r5 (by omega) (by omega) rfl o2 (by omega) hk2 o4 (by decide) (show j < 16 by omega)
            rw [← e9]
            simp (disch := omega) [pX6_data, pX6_data_55, e2, e3, e4, r0, r1, il0, il1, il2, il3, il4, il5, il6, il7, il8, il10, il16, il31, il32, il48, il35, il63, il64, ltT, ltF, leT, leF, eqT, eqF, inT, nI_clamp, nI_add, pk_sub, pk_mul]
        · have hb : bg + k * zbw 6 / 64 < cn sg := by
            simp only [zbw] at h8c ⊢
            omega
          refine ⟨(u, .inr (zel (zbw 6) (Vr v 1 (64 * sg + (bg + k * zbw 6 / 64))) (k * zbw 6))), tI v 0 0, _, ?_, ?_, Or.inr ⟨u, rfl, by simp [vi_I], hRx 0⟩⟩
          · have e9 := c_flat hM g0 g4 g5 (by omega) (by omega) rfl o2 hb (by omega) (by decide)
            simp (disch := omega) [pX5_data, e1, g0, g1, e9, pX5_requireElement, il0, il1, il2, il3, il4, il5, il6, il7, il8, il10, il16, il31, il32, il48, il35, il63, il64, ltT, ltF, leT, leF, eqT, eqF, inT, nI_clamp, nI_add, pk_sub, pk_mul]
          · have e9 := m_flat (k := k) r0 r1 r4 r5 (by omega) (by omega) rfl o2 (by omega) hk2 o4 (by decide) (show j < 16 by omega)
            rw [← e9]
            simp (disch := omega) [pX6_data, pX6_data_55, e2, e3, e4, r0, r1, il0, il1, il2, il3, il4, il5, il6, il7, il8, il10, il16, il31, il32, il48, il35, il63, il64, ltT, ltF, leT, leF, eqT, eqF, inT, nI_clamp, nI_add, pk_sub, pk_mul]
      · refine ⟨(u, .inl 1), tI v 0 3, 0, ?_, ?_, Or.inl ⟨u, 1, rfl, by decide, ?_, hRx 3⟩⟩
        · simp (disch := omega) [pX5_data, e1, g0, g1, pX5_requireElement, il0, il1, il2, il3, il4, il5, il6, il7, il8, il10, il16, il31, il32, il48, il35, il63, il64, ltT, ltF, leT, leF, eqT, eqF, inT, nI_clamp, nI_add, pk_sub, pk_mul]
        · simp (disch := omega) [pX6_data, pX6_data_51, pX6_data_56, e2, e3, e4, r0, r1, il0, il1, il2, il3, il4, il5, il6, il7, il8, il10, il16, il31, il32, il48, il35, il63, il64, ltT, ltF, leT, leF, eqT, eqF, inT, nI_clamp, nI_add, pk_sub, pk_mul]
        · simp [vi_I]; rfl
