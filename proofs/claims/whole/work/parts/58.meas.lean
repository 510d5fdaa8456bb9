/-! ===== an object's measures ===== -/
def obK (sh co po ed ct : Nat) : Prop := 1 ≤ ct ∧ ct ≤ 1073741824 ∧ (sh = 0 → co + po ≤ ct) ∧ (1 ≤ sh → sh ≤ 7 → (co * zbw sh + 63) / 64 ≤ ct) ∧ (sh = 8 → co * (ed + po) + 1 ≤ ct ∧ co + 1 ≤ ct)
def zMea (cn : Nat → Nat) (a sg : Nat) (r : CS × (Nat ⊕ Int32)) (w : MS) (c : Int32) : Prop :=
  (r.2 = .inl 3 ∧ c = 2) ∨ (r.2 = .inl 1 ∧ c = 1) ∨ (c = 0 ∧ ∃ sh co po ed bg ct cr : Nat, obOk cn sh co po ed sg bg ∧ obK sh co po ed ct ∧ r.2 = .inr (nI ct) ∧
    (Uf r.1 0 a = nI sh ∧ Uf r.1 1 a = nI co ∧ Uf r.1 2 a = nI po ∧ Uf r.1 3 a = nI ed ∧ Uf r.1 4 a = nI sg ∧ Uf r.1 5 a = nI bg) ∧
    (Vi w 5 = nI sh ∧ Vi w 6 = nI sg ∧ Vi w 7 = nI bg ∧ Vl w 8 = lN co ∧ Vi w 9 = nI ed ∧ Vi w 10 = nI po) ∧ (sh ≤ 7 → Vl w 11 = lN (if sh = 0 then co + po else (co * zbw sh + 63) / 64)) ∧ Vl w 12 = lN cr ∧ ct = (if cr = 0 then 1 else cr))
theorem hw_F (Z : CZ) (u : CS) (k a : Nat) (x : Int32) (p q r : Int32) : pX3_hasWords Z (sF u k a x) p q r = pX3_hasWords Z u p q r := rfl
theorem r4_F (Z : CZ) (u : CS) (k a : Nat) (x : Int32) (p : Nat) (q : Int32) : pX4_at Z (sF u k a x) p q = pX4_at Z u p q := rfl
theorem r3_F (Z : CZ) (u : CS) (k a : Nat) (x : Int32) (p q : Int32) : pX3_at Z (sF u k a x) p q = pX3_at Z u p q := rfl
theorem rw_F (Z : CZ) (u : CS) (k a : Nat) (x : Int32) (p : Int32) : pX3_row Z (sF u k a x) p = pX3_row Z u p := rfl
theorem x_wf {n w : Nat} (hn : n < 1073741824) (hw : w ≤ 64) : pX0_wordsFor (nI n) (nI w) = nI ((n * w + 63) / 64) := by
  have h : n * w ≤ n * 64 := Nat.mul_le_mul_left _ hw
  unfold pX0_wordsFor
  rw [nI_l (by omega), nI_l (by omega), lN_mul, ll63, lN_add, ll64, pk_lDiv (by omega) (by omega) (by omega), lN_i]
theorem i_max {n : Nat} (h : n < 2147483648) : (if nI n < nI 1 then nI 1 else nI n) = nI (if n = 0 then 1 else n) := by
  by_cases q : n = 0
  · subst q; rfl
  · rw [if_neg q, if_neg (nI_nlt (by omega) h)]
theorem z_mStruct {Z : CZ} {u : CS} {v : MS} {cn : Nat → Nat} (hM : gMSG Z u v cn) {sg a n bg : Nat} (hs : sg < 4) (h4 : Uf u 4 a = nI sg) (h5 : Uf u 5 a = nI bg) (h6 : Vi v 6 = nI sg) (h7 : Vi v 7 = nI bg) (hn : n < 18446744073709551616) (ht : n % 4 = 0) (hb : bg ≤ cn sg) :
    ∃ r w c, pX3_measure Z u (lN n) a = some r ∧ pX6_measure v (lN n) = some (w, c) ∧ zfr a u r.1 ∧ mfr v w ∧ zMea cn a sg r w c := by
  obtain ⟨c1, c2, c3, c4⟩ := hM sg hs
  generalize hD : n / 4294967296 % 65536 = D
  generalize hP : n / 281474976710656 = P
  have hcw := c_hasWords (Z := Z) (b := D + P) hs c2 c1 (show bg < 2147483648 by omega) (by omega)
  have hz : ∀ x, zfr a u (sF (sF (sF (sF u 0 a (nI 0)) 1 a (nI D)) 2 a (nI P)) 3 a x) := fun x => zfr_F (zfr_F (zfr_F (zfr_F (zfr_r a u) _ _) _ _) _ _) _ _
  have hm : mfr v (tL (tL (tI (tL (tI (tI (tI v 9 (nI 0)) 10 (nI 0)) 5 (nI 0)) 8 (lN D)) 10 (nI P)) 11 (lN (D + P))) 12 (lN (D + P))) := mfr_L (mfr_L (mfr_I (mfr_L (mfr_I (mfr_I (mfr_I (mfr_r v) (by omega) _) (by omega) _) (by omega) _) _ _) (by omega) _) _ _) _ _
  by_cases hf : bg + (D + P) ≤ cn sg
  · rw [if_pos (by omega)] at hcw
    refine ⟨(sF (sF (sF (sF u 0 a (nI 0)) 1 a (nI D)) 2 a (nI P)) 3 a (nI 0), .inr (nI (if D + P = 0 then 1 else D + P))), tL (tL (tI (tL (tI (tI (tI v 9 (nI 0)) 10 (nI 0)) 5 (nI 0)) 8 (lN D)) 10 (nI P)) 11 (lN (D + P))) 12 (lN (D + P)), 0, ?_, ?_, hz _, hm, Or.inr (Or.inr ⟨rfl, 0, D, P, 0, bg, _, D + P, ?_, ?_, rfl, ⟨?_, ?_, ?_, ?_, ?_, ?_⟩, ⟨?_, ?_, ?_, ?_, ?_, ?_⟩, ?_, ?_, rfl⟩)⟩
    · rw [← i_max (by omega)]
      simp (disch := omega) [pX3_measure, pX3_measureStruct, x_type, cx_two0, cx_two1, cx_sl0, cx_sl1, cx_fs1, cx_fs0, x_dw, x_pt, x_lk, x_ln, x_fw, x_tc, ht, hD, hP, il0, il1, il2, il3, il4, il5, il6, il7, il8, il10, il16, il31, il32, il48, il35, il63, il64, ltT, ltF, leT, leF, eqT, eqF, inT, nI_clamp, nI_add, pk_sub, pk_mul, uf_F, us_F, uc_F, ui_F, uf_S, us_S, uc_S, ui_S, uf_C, us_C, uc_C, ui_C, uf_I, us_I, uc_I, ui_I, hw_F, h4, h5, hcw]
    · simp (disch := omega) [pX6_measure, cy_p0, cy_p1, cy_4T, cy_4F, cy_32, cy_35, cy_48, cy_s3, cy_s2, cy_m29, cy_m30, cy_m16, cy_a3, cy_a7, ht, hD, hP, il0, il1, il2, il3, il4, il5, il6, il7, il8, il10, il16, il31, il32, il48, il35, il63, il64, ltT, ltF, leT, leF, eqT, eqF, inT, nI_clamp, nI_add, pk_sub, pk_mul, vi_I, vl_I, va_I, vr_I, vi_L, vl_L, va_L, vr_L, vi_A, vl_A, vA_A, vr_A, vi_R, vl_R, va_R, vr_R, ll0, ll1, ll2, ll3, ll4, ll7, ll63, ll64, ll65535, lltT, lltF, lleT, lleF, leqT, leqF, lN_add, lN_mul, lN_sub, lN_i, nI_l, pk_lDiv, h6, h7, c3]
    · exact ⟨by omega, hs, hb, by omega, by omega, by omega, fun _ => ⟨by omega, rfl⟩, fun q => absurd q (by omega), fun q => absurd q (by omega)⟩
    · refine ⟨by split <;> omega, by split <;> omega, fun _ => by split <;> omega, fun q => absurd q (by omega), fun q => absurd q (by omega)⟩
    all_goals simp [uf_F, us_F, uc_F, ui_F, uf_S, us_S, uc_S, ui_S, uf_C, us_C, uc_C, ui_C, uf_I, us_I, uc_I, ui_I, vi_I, vl_I, va_I, vr_I, vi_L, vl_L, va_L, vr_L, vi_A, vl_A, vA_A, vr_A, vi_R, vl_R, va_R, vr_R, h4, h5, h6, h7]
  · rw [if_neg (by omega)] at hcw
    refine ⟨(sF (sF (sF (sF u 0 a (nI 0)) 1 a (nI D)) 2 a (nI P)) 3 a (nI 0), .inl 1), tL (tL (tI (tL (tI (tI (tI v 9 (nI 0)) 10 (nI 0)) 5 (nI 0)) 8 (lN D)) 10 (nI P)) 11 (lN (D + P))) 12 (lN (D + P)), 1, ?_, ?_, hz _, hm, Or.inr (Or.inl ⟨rfl, rfl⟩)⟩
    · simp (disch := omega) [pX3_measure, pX3_measureStruct, x_type, cx_two0, cx_two1, cx_sl0, cx_sl1, cx_fs1, cx_fs0, x_dw, x_pt, x_lk, x_ln, x_fw, x_tc, ht, hD, hP, il0, il1, il2, il3, il4, il5, il6, il7, il8, il10, il16, il31, il32, il48, il35, il63, il64, ltT, ltF, leT, leF, eqT, eqF, inT, nI_clamp, nI_add, pk_sub, pk_mul, uf_F, us_F, uc_F, ui_F, uf_S, us_S, uc_S, ui_S, uf_C, us_C, uc_C, ui_C, uf_I, us_I, uc_I, ui_I, hw_F, h4, h5, hcw]
    · simp (disch := omega) [pX6_measure, cy_p0, cy_p1, cy_4T, cy_4F, cy_32, cy_35, cy_48, cy_s3, cy_s2, cy_m29, cy_m30, cy_m16, cy_a3, cy_a7, ht, hD, hP, il0, il1, il2, il3, il4, il5, il6, il7, il8, il10, il16, il31, il32, il48, il35, il63, il64, ltT, ltF, leT, leF, eqT, eqF, inT, nI_clamp, nI_add, pk_sub, pk_mul, vi_I, vl_I, va_I, vr_I, vi_L, vl_L, va_L, vr_L, vi_A, vl_A, vA_A, vr_A, vi_R, vl_R, va_R, vr_R, ll0, ll1, ll2, ll3, ll4, ll7, ll63, ll64, ll65535, lltT, lltF, lleT, lleF, leqT, leqF, lN_add, lN_mul, lN_sub, lN_i, nI_l, pk_lDiv, h6, h7, c3]
theorem zbw_f : ∀ k, k < 7 → zbw (k + 1) ≤ 64 ∧ (k ≠ 0 → 1 ≤ zbw (k + 1)) := by decide
theorem z_mPlain {Z : CZ} {u : CS} {v : MS} {cn : Nat → Nat} (hM : gMSG Z u v cn) {sg a n bg : Nat} (hs : sg < 4) (h4 : Uf u 4 a = nI sg) (h5 : Uf u 5 a = nI bg) (h6 : Vi v 6 = nI sg) (h7 : Vi v 7 = nI bg) (hn : n < 18446744073709551616) (ht : n % 4 = 1) (hk : n / 4294967296 % 8 < 7) (hb : bg ≤ cn sg) :
    ∃ r w c, pX3_measure Z u (lN n) a = some r ∧ pX6_measure v (lN n) = some (w, c) ∧ zfr a u r.1 ∧ mfr v w ∧ zMea cn a sg r w c := by
  obtain ⟨c1, c2, c3, c4⟩ := hM sg hs
  generalize hK : n / 4294967296 % 8 = k at hk
  generalize hN : n / 34359738368 = m
  have hm3 : m < 536870912 := by omega
  obtain ⟨w1, w2⟩ := zbw_f k hk
  have ew1 := eb_c k hk
  have ew2 := eb_m k (by omega)
  have ew0 : k = 0 → zbw (k + 1) = 0 := fun q => by rw [q]; rfl
  have ew6 : k = 6 → zbw (k + 1) = 64 := fun q => by rw [q]; rfl
  have ebz : zbw (1 + k) = zbw (k + 1) := by rw [Nat.add_comm]
  generalize hw : zbw (k + 1) = w at w1 w2 ew1 ew2 ew0 ew6 ebz
  have hmw : m * w ≤ m * 64 := Nat.mul_le_mul_left _ w1
  have ewf := x_wf (n := m) (w := w) (by omega) w1
  generalize hS : (m * w + 63) / 64 = S at ewf
  have hS2 : S ≤ m := by omega
  have hcw := c_hasWords (Z := Z) (b := S) hs c2 c1 (show bg < 2147483648 by omega) (by omega)
  have hz : zfr a u (sF (sF (sF (sF u 0 a (nI (1 + k))) 1 a (nI m)) 2 a (nI 0)) 3 a (nI 0)) := zfr_F (zfr_F (zfr_F (zfr_F (zfr_r a u) _ _) _ _) _ _) _ _
  have hm : ∀ x, mfr v (tL (tL (tL (tI (tI (tI v 9 (nI 0)) 10 (nI 0)) 5 (nI (1 + k))) 8 (lN m)) 11 (lN S)) 12 x) := fun x => mfr_L (mfr_L (mfr_L (mfr_I (mfr_I (mfr_I (mfr_r v) (by omega) _) (by omega) _) (by omega) _) _ _) _ _) _ _
  have em : pX6_measure v (lN n) = pX6_measure_173 (tL (tI (tI (tI v 9 (nI 0)) 10 (nI 0)) 5 (nI (1 + k))) 8 (lN m)) (nI (cn sg - bg)) (nI k) (lN S) := by
    by_cases k6 : k = 6
    · have hSm : S = m := by have := ew6 k6; subst this; omega
      simp (disch := omega) [pX6_measure, cy_p0, cy_p1, cy_4T, cy_4F, cy_32, cy_35, cy_48, cy_s3, cy_s2, cy_m29, cy_m30, cy_m16, cy_a3, cy_a7, ht, hK, hN, il0, il1, il2, il3, il4, il5, il6, il7, il8, il10, il16, il31, il32, il48, il35, il63, il64, ltT, ltF, leT, leF, eqT, eqF, inT, nI_clamp, nI_add, pk_sub, pk_mul, vi_I, vl_I, va_I, vr_I, vi_L, vl_L, va_L, vr_L, vi_A, vl_A, vA_A, vr_A, vi_R, vl_R, va_R, vr_R, ll0, ll1, ll2, ll3, ll4, ll7, ll63, ll64, ll65535, lltT, lltF, lleT, lleF, leqT, leqF, lN_add, lN_mul, lN_sub, lN_i, nI_l, pk_lDiv, h6, h7, c3, hSm]
    · have e9 : lN (m * w + 63) / lN 64 = lN S := by rw [pk_lDiv (by omega) (by omega) (by omega), hS]
      simp (disch := omega) [pX6_measure, cy_p0, cy_p1, cy_4T, cy_4F, cy_32, cy_35, cy_48, cy_s3, cy_s2, cy_m29, cy_m30, cy_m16, cy_a3, cy_a7, ht, hK, hN, il0, il1, il2, il3, il4, il5, il6, il7, il8, il10, il16, il31, il32, il48, il35, il63, il64, ltT, ltF, leT, leF, eqT, eqF, inT, nI_clamp, nI_add, pk_sub, pk_mul, vi_I, vl_I, va_I, vr_I, vi_L, vl_L, va_L, vr_L, vi_A, vl_A, vA_A, vr_A, vi_R, vl_R, va_R, vr_R, ll0, ll1, ll3, ll7, ll63, ll64, lltT, lltF, lleT, lleF, leqT, leqF, lN_add, lN_mul, lN_i, nI_l, ew2, e9, h6, h7, c3]
  have em2 : ∃ cr, (if k = 0 then m else S) = cr ∧ pX6_measure v (lN n) = if S ≤ cn sg - bg then some (tL (tL (tL (tI (tI (tI v 9 (nI 0)) 10 (nI 0)) 5 (nI (1 + k))) 8 (lN m)) 11 (lN S)) 12 (lN cr), 0) else some (tL (tL (tL (tI (tI (tI v 9 (nI 0)) 10 (nI 0)) 5 (nI (1 + k))) 8 (lN m)) 11 (lN S)) 12 (lN cr), 1) := by
    refine ⟨_, rfl, ?_⟩
    rw [em]
    have e9 : nI k = 7 ↔ False := ⟨fun q => by have := (nI_eq (b := 7) (by omega) (by omega)).mp q; omega, False.elim⟩
    by_cases k0 : k = 0
    · subst k0
      by_cases q : S ≤ cn sg - bg <;> simp (disch := omega) [pX6_measure_173, pX6_measure_193, pX6_measure_212, il0, il1, il2, il3, il4, il5, il6, il7, il8, il10, il16, il31, il32, il48, il35, il63, il64, ltT, ltF, leT, leF, eqT, eqF, inT, nI_clamp, nI_add, pk_sub, pk_mul, vi_I, vl_I, va_I, vr_I, vi_L, vl_L, va_L, vr_L, vi_A, vl_A, vA_A, vr_A, vi_R, vl_R, va_R, vr_R, ll0, ll1, ll2, ll3, ll4, ll7, ll63, ll64, ll65535, lltT, lltF, lleT, lleF, leqT, leqF, lN_add, lN_mul, lN_sub, lN_i, nI_l, pk_lDiv, q]
    · by_cases q : S ≤ cn sg - bg <;> simp (disch := omega) [pX6_measure_173, pX6_measure_193, pX6_measure_212, il0, il1, il2, il3, il4, il5, il6, il7, il8, il10, il16, il31, il32, il48, il35, il63, il64, ltT, ltF, leT, leF, eqT, eqF, inT, nI_clamp, nI_add, pk_sub, pk_mul, vi_I, vl_I, va_I, vr_I, vi_L, vl_L, va_L, vr_L, vi_A, vl_A, vA_A, vr_A, vi_R, vl_R, va_R, vr_R, ll0, ll1, ll2, ll3, ll4, ll7, ll63, ll64, ll65535, lltT, lltF, lleT, lleF, leqT, leqF, lN_add, lN_mul, lN_sub, lN_i, nI_l, pk_lDiv, q, k0]
  obtain ⟨cr, hcr, em2⟩ := em2
  by_cases hf : bg + S ≤ cn sg
  · rw [if_pos (by omega)] at hcw
    rw [if_pos (by omega)] at em2
    refine ⟨(sF (sF (sF (sF u 0 a (nI (1 + k))) 1 a (nI m)) 2 a (nI 0)) 3 a (nI 0), .inr (nI (if cr = 0 then 1 else cr))), _, 0, ?_, em2, hz, hm _, Or.inr (Or.inr ⟨rfl, 1 + k, m, 0, 0, bg, _, cr, ?_, ?_, rfl, ⟨?_, ?_, ?_, ?_, ?_, ?_⟩, ⟨?_, ?_, ?_, ?_, ?_, ?_⟩, ?_, ?_, rfl⟩)⟩
    · by_cases k0 : k = 0
      · have hw0 := ew0 k0
        rw [if_pos k0] at hcr
        rw [← hcr, ← i_max (by omega)]
        subst k0
        simp (disch := omega) [pX3_measure, pX3_measurePlainList, x_type, cx_two0, cx_two1, cx_sl0, cx_sl1, cx_fs1, cx_fs0, x_dw, x_pt, x_lk, x_ln, x_fw, x_tc, ht, hK, hN, il0, il1, il2, il3, il4, il5, il6, il7, il8, il10, il16, il31, il32, il48, il35, il63, il64, ltT, ltF, leT, leF, eqT, eqF, inT, nI_clamp, nI_add, pk_sub, pk_mul, uf_F, us_F, uc_F, ui_F, uf_S, us_S, uc_S, ui_S, uf_C, us_C, uc_C, ui_C, uf_I, us_I, uc_I, ui_I, hw_F, h4, h5, hcw, ew1, ewf]
      · have hw0 := w2 k0
        rw [if_neg k0] at hcr
        rw [← hcr, ← i_max (by omega)]
        simp (disch := omega) [pX3_measure, pX3_measurePlainList, x_type, cx_two0, cx_two1, cx_sl0, cx_sl1, cx_fs1, cx_fs0, x_dw, x_pt, x_lk, x_ln, x_fw, x_tc, ht, hK, hN, il0, il1, il2, il3, il4, il5, il6, il7, il8, il10, il16, il31, il32, il48, il35, il63, il64, ltT, ltF, leT, leF, eqT, eqF, inT, nI_clamp, nI_add, pk_sub, pk_mul, uf_F, us_F, uc_F, ui_F, uf_S, us_S, uc_S, ui_S, uf_C, us_C, uc_C, ui_C, uf_I, us_I, uc_I, ui_I, hw_F, h4, h5, hcw, ew1, ewf]
    · exact ⟨by omega, hs, hb, by omega, by omega, by omega, fun q => absurd q (by omega), fun _ _ => ⟨rfl, rfl, by rw [ebz, hS]; omega⟩, fun q => absurd q (by omega)⟩
    · have hSc : S ≤ cr ∧ cr < 536870912 := by
        by_cases k0 : k = 0
        · rw [if_pos k0] at hcr; omega
        · rw [if_neg k0] at hcr; omega
      refine ⟨by split <;> omega, by split <;> omega, fun q => absurd q (by omega), fun _ _ => by rw [ebz, hS]; split <;> omega, fun q => absurd q (by omega)⟩
    all_goals simp [uf_F, us_F, uc_F, ui_F, uf_S, us_S, uc_S, ui_S, uf_C, us_C, uc_C, ui_C, uf_I, us_I, uc_I, ui_I, vi_I, vl_I, va_I, vr_I, vi_L, vl_L, va_L, vr_L, vi_A, vl_A, vA_A, vr_A, vi_R, vl_R, va_R, vr_R, h4, h5, h6, h7, ebz, hS]
  · rw [if_neg (by omega)] at hcw
    rw [if_neg (by omega)] at em2
    refine ⟨(sF (sF (sF (sF u 0 a (nI (1 + k))) 1 a (nI m)) 2 a (nI 0)) 3 a (nI 0), .inl 1), _, 1, ?_, em2, hz, hm _, Or.inr (Or.inl ⟨rfl, rfl⟩)⟩
    simp (disch := omega) [pX3_measure, pX3_measurePlainList, x_type, cx_two0, cx_two1, cx_sl0, cx_sl1, cx_fs1, cx_fs0, x_dw, x_pt, x_lk, x_ln, x_fw, x_tc, ht, hK, hN, il0, il1, il2, il3, il4, il5, il6, il7, il8, il10, il16, il31, il32, il48, il35, il63, il64, ltT, ltF, leT, leF, eqT, eqF, inT, nI_clamp, nI_add, pk_sub, pk_mul, uf_F, us_F, uc_F, ui_F, uf_S, us_S, uc_S, ui_S, uf_C, us_C, uc_C, ui_C, uf_I, us_I, uc_I, ui_I, hw_F, h4, h5, hcw, ew1, ewf]
theorem z_mTag {Z : CZ} {u : CS} {v : MS} {cn : Nat → Nat} (hM : gMSG Z u v cn) {sg a n bg : Nat} (hs : sg < 4) (h4 : Uf u 4 a = nI sg) (h5 : Uf u 5 a = nI bg) (h6 : Vi v 6 = nI sg) (h7 : Vi v 7 = nI bg) (hn : n < 18446744073709551616) (ht : n % 4 = 1) (hk : n / 4294967296 % 8 = 7) (hb : bg ≤ cn sg) :
    ∃ r w c, pX3_measure Z u (lN n) a = some r ∧ pX6_measure v (lN n) = some (w, c) ∧ zfr a u r.1 ∧ mfr v w ∧ zMea cn a sg r w c := by
  obtain ⟨c1, c2, c3, c4⟩ := hM sg hs
  generalize hN : n / 34359738368 = m
  have hm3 : m < 536870912 := by omega
  have hcw := c_hasWords (Z := Z) (b := m + 1) hs c2 c1 (show bg < 2147483648 by omega) (by omega)
  have hm0 : mfr v (tL (tL (tL (tI (tI (tI v 9 (nI 0)) 10 (nI 0)) 5 (nI 8)) 8 (lN m)) 11 (lN m)) 12 (lN m)) := mfr_L (mfr_L (mfr_L (mfr_I (mfr_I (mfr_I (mfr_r v) (by omega) _) (by omega) _) (by omega) _) _ _) _ _) _ _
  have em : pX6_measure v (lN n) = if m + 1 ≤ cn sg - bg then pX6_measureTag (tL (tL (tL (tI (tI (tI v 9 (nI 0)) 10 (nI 0)) 5 (nI 8)) 8 (lN m)) 11 (lN m)) 12 (lN m)) else some (tL (tL (tL (tI (tI (tI v 9 (nI 0)) 10 (nI 0)) 5 (nI 8)) 8 (lN m)) 11 (lN m)) 12 (lN m), 1) := by
    have eb : ∀ o : Option (MS × Int32), (o.bind fun x => some (x.1, x.2)) = o := fun o => by cases o <;> rfl
    by_cases q : m + 1 ≤ cn sg - bg
    · rw [if_pos q]
      simp (disch := omega) [pX6_measure, pX6_measure_173, pX6_measure_193, pX6_measure_212, cy_p0, cy_p1, cy_4T, cy_4F, cy_32, cy_35, cy_48, cy_s3, cy_s2, cy_m29, cy_m30, cy_m16, cy_a3, cy_a7, ht, hk, hN, il0, il1, il2, il3, il4, il5, il6, il7, il8, il10, il16, il31, il32, il48, il35, il63, il64, ltT, ltF, leT, leF, eqT, eqF, inT, nI_clamp, nI_add, pk_sub, pk_mul, vi_I, vl_I, va_I, vr_I, vi_L, vl_L, va_L, vr_L, vi_A, vl_A, vA_A, vr_A, vi_R, vl_R, va_R, vr_R, ll0, ll1, ll2, ll3, ll4, ll7, ll63, ll64, ll65535, lltT, lltF, lleT, lleF, leqT, leqF, lN_add, lN_mul, lN_sub, lN_i, nI_l, pk_lDiv, h6, h7, c3, eb]
    · rw [if_neg q]
      simp (disch := omega) [pX6_measure, pX6_measure_173, pX6_measure_193, pX6_measure_212, cy_p0, cy_p1, cy_4T, cy_4F, cy_32, cy_35, cy_48, cy_s3, cy_s2, cy_m29, cy_m30, cy_m16, cy_a3, cy_a7, ht, hk, hN, il0, il1, il2, il3, il4, il5, il6, il7, il8, il10, il16, il31, il32, il48, il35, il63, il64, ltT, ltF, leT, leF, eqT, eqF, inT, nI_clamp, nI_add, pk_sub, pk_mul, vi_I, vl_I, va_I, vr_I, vi_L, vl_L, va_L, vr_L, vi_A, vl_A, vA_A, vr_A, vi_R, vl_R, va_R, vr_R, ll0, ll1, ll2, ll3, ll4, ll7, ll63, ll64, ll65535, lltT, lltF, lleT, lleF, leqT, leqF, lN_add, lN_mul, lN_sub, lN_i, nI_l, pk_lDiv, h6, h7, c3, eb]
  by_cases hf : bg + (m + 1) ≤ cn sg
  · rw [if_pos (by omega)] at hcw
    rw [if_pos (by omega)] at em
    obtain ⟨t, htg, et⟩ := wb_of (Vr v 1 (64 * sg + bg))
    have ht2 : t < 18446744073709551616 := htg
    have et1 : pX3_at Z u (nI sg) (nI bg) = some (lN t) := by rw [c_at hM hs (show bg < cn sg by omega), et]
    have hzu : zfr a u (sF u 0 a (nI 8)) := zfr_F (zfr_r a u) _ _
    generalize hC : t / 4 % 1073741824 = C
    generalize hD : t / 4294967296 % 65536 = D
    generalize hP : t / 281474976710656 = P
    have hC2 : C < 1073741824 := by omega
    have hD2 : D < 65536 := by omega
    have hP2 : P < 65536 := by omega
    have hCD : C * (D + P) ≤ 1073741824 * 131072 := Nat.mul_le_mul (by omega) (by omega)
    have emT : pX6_measureTag (tL (tL (tL (tI (tI (tI v 9 (nI 0)) 10 (nI 0)) 5 (nI 8)) 8 (lN m)) 11 (lN m)) 12 (lN m)) = some (tL (tI (tI (tL (tI (tL (tL (tL (tI (tI (tI v 9 (nI 0)) 10 (nI 0)) 5 (nI 8)) 8 (lN m)) 11 (lN m)) 12 (lN m)) 7 (nI (bg + 1))) 8 (lN C)) 9 (nI D)) 10 (nI P)) 12 (lN ((if C ≤ m then m else C) + 1)), if t % 4 = 0 ∧ C * (D + P) ≤ m then 0 else 2) := by
      by_cases q1 : C ≤ m
      · by_cases q2 : t % 4 = 0
        · by_cases q3 : C * (D + P) ≤ m <;> simp (disch := omega) [-Int64.toInt32_and, pX6_measureTag, cy_p0, cy_p1, cy_4T, cy_4F, cy_32, cy_35, cy_48, cy_s3, cy_s2, cy_m29, cy_m30, cy_m16, cy_a3, cy_a7, hC, hD, hP, il0, il1, il2, il3, il4, il5, il6, il7, il8, il10, il16, il31, il32, il48, il35, il63, il64, ltT, ltF, leT, leF, eqT, eqF, inT, nI_clamp, nI_add, pk_sub, pk_mul, vi_I, vl_I, va_I, vr_I, vi_L, vl_L, va_L, vr_L, vi_A, vl_A, vA_A, vr_A, vi_R, vl_R, va_R, vr_R, ll0, ll1, ll2, ll3, ll4, ll7, ll63, ll64, ll65535, lltT, lltF, lleT, lleF, leqT, leqF, lN_add, lN_mul, lN_sub, lN_i, nI_l, pk_lDiv, h6, h7, et, q1, q2, q3]
        · simp (disch := omega) [-Int64.toInt32_and, pX6_measureTag, cy_p0, cy_p1, cy_4T, cy_4F, cy_32, cy_35, cy_48, cy_s3, cy_s2, cy_m29, cy_m30, cy_m16, cy_a3, cy_a7, hC, hD, hP, il0, il1, il2, il3, il4, il5, il6, il7, il8, il10, il16, il31, il32, il48, il35, il63, il64, ltT, ltF, leT, leF, eqT, eqF, inT, nI_clamp, nI_add, pk_sub, pk_mul, vi_I, vl_I, va_I, vr_I, vi_L, vl_L, va_L, vr_L, vi_A, vl_A, vA_A, vr_A, vi_R, vl_R, va_R, vr_R, ll0, ll1, ll2, ll3, ll4, ll7, ll63, ll64, ll65535, lltT, lltF, lleT, lleF, leqT, leqF, lN_add, lN_mul, lN_sub, lN_i, nI_l, pk_lDiv, h6, h7, et, q1, q2]
      · by_cases q2 : t % 4 = 0
        · by_cases q3 : C * (D + P) ≤ m <;> simp (disch := omega) [-Int64.toInt32_and, pX6_measureTag, cy_p0, cy_p1, cy_4T, cy_4F, cy_32, cy_35, cy_48, cy_s3, cy_s2, cy_m29, cy_m30, cy_m16, cy_a3, cy_a7, hC, hD, hP, il0, il1, il2, il3, il4, il5, il6, il7, il8, il10, il16, il31, il32, il48, il35, il63, il64, ltT, ltF, leT, leF, eqT, eqF, inT, nI_clamp, nI_add, pk_sub, pk_mul, vi_I, vl_I, va_I, vr_I, vi_L, vl_L, va_L, vr_L, vi_A, vl_A, vA_A, vr_A, vi_R, vl_R, va_R, vr_R, ll0, ll1, ll2, ll3, ll4, ll7, ll63, ll64, ll65535, lltT, lltF, lleT, lleF, leqT, leqF, lN_add, lN_mul, lN_sub, lN_i, nI_l, pk_lDiv, h6, h7, et, q1, q2, q3]
        · simp (disch := omega) [-Int64.toInt32_and, pX6_measureTag, cy_p0, cy_p1, cy_4T, cy_4F, cy_32, cy_35, cy_48, cy_s3, cy_s2, cy_m29, cy_m30, cy_m16, cy_a3, cy_a7, hC, hD, hP, il0, il1, il2, il3, il4, il5, il6, il7, il8, il10, il16, il31, il32, il48, il35, il63, il64, ltT, ltF, leT, leF, eqT, eqF, inT, nI_clamp, nI_add, pk_sub, pk_mul, vi_I, vl_I, va_I, vr_I, vi_L, vl_L, va_L, vr_L, vi_A, vl_A, vA_A, vr_A, vi_R, vl_R, va_R, vr_R, ll0, ll1, ll2, ll3, ll4, ll7, ll63, ll64, ll65535, lltT, lltF, lleT, lleF, leqT, leqF, lN_add, lN_mul, lN_sub, lN_i, nI_l, pk_lDiv, h6, h7, et, q1, q2]
    have hm1 : mfr v (tL (tI (tI (tL (tI (tL (tL (tL (tI (tI (tI v 9 (nI 0)) 10 (nI 0)) 5 (nI 8)) 8 (lN m)) 11 (lN m)) 12 (lN m)) 7 (nI (bg + 1))) 8 (lN C)) 9 (nI D)) 10 (nI P)) 12 (lN ((if C ≤ m then m else C) + 1))) := mfr_L (mfr_I (mfr_I (mfr_L (mfr_I hm0 (by omega) _) _ _) (by omega) _) (by omega) _) _ _
    rw [emT] at em
    by_cases q2 : t % 4 = 0
    · have hz : zfr a u (sF (sF (sF (sF (sF u 0 a (nI 8)) 5 a (nI (bg + 1))) 1 a (nI C)) 3 a (nI D)) 2 a (nI P)) := zfr_F (zfr_F (zfr_F (zfr_F hzu _ _) _ _) _ _) _ _
      by_cases q3 : C * (D + P) ≤ m
      · rw [if_pos (show t % 4 = 0 ∧ C * (D + P) ≤ m from ⟨q2, q3⟩)] at em
        have hct : (if nI m < nI C then nI C else nI m) + nI 1 = nI ((if C ≤ m then m else C) + 1) := by
          by_cases q : C ≤ m
          · rw [if_pos q, if_neg (nI_nlt q (by omega)), nI_add]
          · rw [if_neg q, if_pos (nI_lt (by omega) (by omega)), nI_add]
        refine ⟨(sF (sF (sF (sF (sF u 0 a (nI 8)) 5 a (nI (bg + 1))) 1 a (nI C)) 3 a (nI D)) 2 a (nI P), .inr (nI ((if C ≤ m then m else C) + 1))), _, 0, ?_, em, hz, hm1, Or.inr (Or.inr ⟨rfl, 8, C, P, D, bg + 1, _, (if C ≤ m then m else C) + 1, ?_, ?_, rfl, ⟨?_, ?_, ?_, ?_, ?_, ?_⟩, ⟨?_, ?_, ?_, ?_, ?_, ?_⟩, ?_, ?_, ?_⟩)⟩
        · rw [← hct]
          simp (disch := omega) [pX3_measure, pX3_measureStructList, x_type, cx_two0, cx_two1, cx_sl0, cx_sl1, cx_fs1, cx_fs0, x_dw, x_pt, x_lk, x_ln, x_fw, x_tc, ht, hk, hN, hC, hD, hP, il0, il1, il2, il3, il4, il5, il6, il7, il8, il10, il16, il31, il32, il48, il35, il63, il64, ltT, ltF, leT, leF, eqT, eqF, inT, nI_clamp, nI_add, pk_sub, pk_mul, lltT, lltF, lleT, lleF, leqT, leqF, lN_add, lN_mul, lN_sub, lN_i, nI_l, pk_lDiv, uf_F, us_F, uc_F, ui_F, uf_S, us_S, uc_S, ui_S, uf_C, us_C, uc_C, ui_C, uf_I, us_I, uc_I, ui_I, hw_F, r3_F, h4, h5, hcw, et1, q2]
        · exact ⟨by omega, hs, by omega, by omega, by omega, by omega, fun q => absurd q (by omega), fun _ q => absurd q (by omega), fun _ => by omega⟩
        · refine ⟨by omega, by split <;> omega, fun q => absurd q (by omega), fun _ q => absurd q (by omega), fun _ => by split <;> omega⟩
        · simp [uf_F, us_F, uc_F, ui_F, uf_S, us_S, uc_S, ui_S, uf_C, us_C, uc_C, ui_C, uf_I, us_I, uc_I, ui_I, vi_I, vl_I, va_I, vr_I, vi_L, vl_L, va_L, vr_L, vi_A, vl_A, vA_A, vr_A, vi_R, vl_R, va_R, vr_R, h4, h5, h6, h7]
        · simp [uf_F, us_F, uc_F, ui_F, uf_S, us_S, uc_S, ui_S, uf_C, us_C, uc_C, ui_C, uf_I, us_I, uc_I, ui_I, vi_I, vl_I, va_I, vr_I, vi_L, vl_L, va_L, vr_L, vi_A, vl_A, vA_A, vr_A, vi_R, vl_R, va_R, vr_R, h4, h5, h6, h7]
        · simp [uf_F, us_F, uc_F, ui_F, uf_S, us_S, uc_S, ui_S, uf_C, us_C, uc_C, ui_C, uf_I, us_I, uc_I, ui_I, vi_I, vl_I, va_I, vr_I, vi_L, vl_L, va_L, vr_L, vi_A, vl_A, vA_A, vr_A, vi_R, vl_R, va_R, vr_R, h4, h5, h6, h7]
        · simp [uf_F, us_F, uc_F, ui_F, uf_S, us_S, uc_S, ui_S, uf_C, us_C, uc_C, ui_C, uf_I, us_I, uc_I, ui_I, vi_I, vl_I, va_I, vr_I, vi_L, vl_L, va_L, vr_L, vi_A, vl_A, vA_A, vr_A, vi_R, vl_R, va_R, vr_R, h4, h5, h6, h7]
        · simp [uf_F, us_F, uc_F, ui_F, uf_S, us_S, uc_S, ui_S, uf_C, us_C, uc_C, ui_C, uf_I, us_I, uc_I, ui_I, vi_I, vl_I, va_I, vr_I, vi_L, vl_L, va_L, vr_L, vi_A, vl_A, vA_A, vr_A, vi_R, vl_R, va_R, vr_R, h4, h5, h6, h7]
        · simp [uf_F, us_F, uc_F, ui_F, uf_S, us_S, uc_S, ui_S, uf_C, us_C, uc_C, ui_C, uf_I, us_I, uc_I, ui_I, vi_I, vl_I, va_I, vr_I, vi_L, vl_L, va_L, vr_L, vi_A, vl_A, vA_A, vr_A, vi_R, vl_R, va_R, vr_R, h4, h5, h6, h7]
        · simp [uf_F, us_F, uc_F, ui_F, uf_S, us_S, uc_S, ui_S, uf_C, us_C, uc_C, ui_C, uf_I, us_I, uc_I, ui_I, vi_I, vl_I, va_I, vr_I, vi_L, vl_L, va_L, vr_L, vi_A, vl_A, vA_A, vr_A, vi_R, vl_R, va_R, vr_R, h4, h5, h6, h7]
        · simp [uf_F, us_F, uc_F, ui_F, uf_S, us_S, uc_S, ui_S, uf_C, us_C, uc_C, ui_C, uf_I, us_I, uc_I, ui_I, vi_I, vl_I, va_I, vr_I, vi_L, vl_L, va_L, vr_L, vi_A, vl_A, vA_A, vr_A, vi_R, vl_R, va_R, vr_R, h4, h5, h6, h7]
        · simp [uf_F, us_F, uc_F, ui_F, uf_S, us_S, uc_S, ui_S, uf_C, us_C, uc_C, ui_C, uf_I, us_I, uc_I, ui_I, vi_I, vl_I, va_I, vr_I, vi_L, vl_L, va_L, vr_L, vi_A, vl_A, vA_A, vr_A, vi_R, vl_R, va_R, vr_R, h4, h5, h6, h7]
        · simp [uf_F, us_F, uc_F, ui_F, uf_S, us_S, uc_S, ui_S, uf_C, us_C, uc_C, ui_C, uf_I, us_I, uc_I, ui_I, vi_I, vl_I, va_I, vr_I, vi_L, vl_L, va_L, vr_L, vi_A, vl_A, vA_A, vr_A, vi_R, vl_R, va_R, vr_R, h4, h5, h6, h7]
        · simp [uf_F, us_F, uc_F, ui_F, uf_S, us_S, uc_S, ui_S, uf_C, us_C, uc_C, ui_C, uf_I, us_I, uc_I, ui_I, vi_I, vl_I, va_I, vr_I, vi_L, vl_L, va_L, vr_L, vi_A, vl_A, vA_A, vr_A, vi_R, vl_R, va_R, vr_R, h4, h5, h6, h7]
        · simp [uf_F, us_F, uc_F, ui_F, uf_S, us_S, uc_S, ui_S, uf_C, us_C, uc_C, ui_C, uf_I, us_I, uc_I, ui_I, vi_I, vl_I, va_I, vr_I, vi_L, vl_L, va_L, vr_L, vi_A, vl_A, vA_A, vr_A, vi_R, vl_R, va_R, vr_R, h4, h5, h6, h7]
        · intro q; omega
        · simp [uf_F, us_F, uc_F, ui_F, uf_S, us_S, uc_S, ui_S, uf_C, us_C, uc_C, ui_C, uf_I, us_I, uc_I, ui_I, vi_I, vl_I, va_I, vr_I, vi_L, vl_L, va_L, vr_L, vi_A, vl_A, vA_A, vr_A, vi_R, vl_R, va_R, vr_R, h4, h5, h6, h7]
        · rw [if_neg (show ¬ (if C ≤ m then m else C) + 1 = 0 by omega)]
      · rw [if_neg (show ¬ (t % 4 = 0 ∧ C * (D + P) ≤ m) from fun q => q3 q.2)] at em
        refine ⟨(sF (sF (sF (sF (sF u 0 a (nI 8)) 5 a (nI (bg + 1))) 1 a (nI C)) 3 a (nI D)) 2 a (nI P), .inl 3), _, 2, ?_, em, hz, hm1, Or.inl ⟨rfl, rfl⟩⟩
        simp (disch := omega) [pX3_measure, pX3_measureStructList, x_type, cx_two0, cx_two1, cx_sl0, cx_sl1, cx_fs1, cx_fs0, x_dw, x_pt, x_lk, x_ln, x_fw, x_tc, ht, hk, hN, hC, hD, hP, il0, il1, il2, il3, il4, il5, il6, il7, il8, il10, il16, il31, il32, il48, il35, il63, il64, ltT, ltF, leT, leF, eqT, eqF, inT, nI_clamp, nI_add, pk_sub, pk_mul, lltT, lltF, lleT, lleF, leqT, leqF, lN_add, lN_mul, lN_sub, lN_i, nI_l, pk_lDiv, uf_F, us_F, uc_F, ui_F, uf_S, us_S, uc_S, ui_S, uf_C, us_C, uc_C, ui_C, uf_I, us_I, uc_I, ui_I, hw_F, r3_F, h4, h5, hcw, et1, q2]
    · rw [if_neg (show ¬ (t % 4 = 0 ∧ C * (D + P) ≤ m) from fun q => q2 q.1)] at em
      refine ⟨(sF u 0 a (nI 8), .inl 3), _, 2, ?_, em, hzu, hm1, Or.inl ⟨rfl, rfl⟩⟩
      simp (disch := omega) [pX3_measure, pX3_measureStructList, x_type, cx_two0, cx_two1, cx_sl0, cx_sl1, cx_fs1, cx_fs0, x_dw, x_pt, x_lk, x_ln, x_fw, x_tc, ht, hk, hN, hC, hD, hP, il0, il1, il2, il3, il4, il5, il6, il7, il8, il10, il16, il31, il32, il48, il35, il63, il64, ltT, ltF, leT, leF, eqT, eqF, inT, nI_clamp, nI_add, pk_sub, pk_mul, lltT, lltF, lleT, lleF, leqT, leqF, lN_add, lN_mul, lN_sub, lN_i, nI_l, pk_lDiv, uf_F, us_F, uc_F, ui_F, uf_S, us_S, uc_S, ui_S, uf_C, us_C, uc_C, ui_C, uf_I, us_I, uc_I, ui_I, hw_F, r3_F, h4, h5, hcw, et1, q2]
  · rw [if_neg (by omega)] at hcw
    rw [if_neg (by omega)] at em
    refine ⟨(sF u 0 a (nI 8), .inl 1), _, 1, ?_, em, zfr_F (zfr_r a u) 0 (nI 8), hm0, Or.inr (Or.inl ⟨rfl, rfl⟩)⟩
    simp (disch := omega) [pX3_measure, pX3_measureStructList, x_type, cx_two0, cx_two1, cx_sl0, cx_sl1, cx_fs1, cx_fs0, x_dw, x_pt, x_lk, x_ln, x_fw, x_tc, ht, hk, hN, il0, il1, il2, il3, il4, il5, il6, il7, il8, il10, il16, il31, il32, il48, il35, il63, il64, ltT, ltF, leT, leF, eqT, eqF, inT, nI_clamp, nI_add, pk_sub, pk_mul, uf_F, us_F, uc_F, ui_F, uf_S, us_S, uc_S, ui_S, uf_C, us_C, uc_C, ui_C, uf_I, us_I, uc_I, ui_I, hw_F, h4, h5, hcw]
/-- .. where it begins nowhere -/
theorem z_mBad {Z : CZ} {u : CS} {a n : Nat} (hn : n < 18446744073709551616) (ht : n % 4 < 2) (hw : ∀ x : Nat, x < 2147483648 → pX3_hasWords Z u (Uf u 4 a) (Uf u 5 a) (nI x) = some (nI 0)) : ∃ r, pX3_measure Z u (lN n) a = some r ∧ zfr a u r.1 ∧ r.2 = .inl 1 := by
  by_cases t : n % 4 = 0
  · refine ⟨(sF (sF (sF (sF u 0 a (nI 0)) 1 a (nI (n / 4294967296 % 65536))) 2 a (nI (n / 281474976710656))) 3 a (nI 0), .inl 1), ?_, zfr_F (zfr_F (zfr_F (zfr_F (zfr_r a u) 0 (nI 0)) 1 (nI (n / 4294967296 % 65536))) 2 (nI (n / 281474976710656))) 3 (nI 0), rfl⟩
    have := hw (n / 4294967296 % 65536 + n / 281474976710656) (by omega)
    simp (disch := omega) [pX3_measure, pX3_measureStruct, x_type, cx_two0, cx_two1, cx_sl0, cx_sl1, cx_fs1, cx_fs0, x_dw, x_pt, x_lk, x_ln, x_fw, x_tc, t, il0, il1, il2, il3, il4, il5, il6, il7, il8, il10, il16, il31, il32, il48, il35, il63, il64, ltT, ltF, leT, leF, eqT, eqF, inT, nI_clamp, nI_add, pk_sub, pk_mul, uf_F, us_F, uc_F, ui_F, uf_S, us_S, uc_S, ui_S, uf_C, us_C, uc_C, ui_C, uf_I, us_I, uc_I, ui_I, hw_F, this]
  · have t1 : n % 4 = 1 := by omega
    by_cases k7 : n / 4294967296 % 8 = 7
    · refine ⟨(sF u 0 a (nI 8), .inl 1), ?_, zfr_F (zfr_r a u) 0 (nI 8), rfl⟩
      have := hw (n / 34359738368 + 1) (by omega)
      simp (disch := omega) [pX3_measure, pX3_measureStructList, x_type, cx_two0, cx_two1, cx_sl0, cx_sl1, cx_fs1, cx_fs0, x_dw, x_pt, x_lk, x_ln, x_fw, x_tc, t1, k7, il0, il1, il2, il3, il4, il5, il6, il7, il8, il10, il16, il31, il32, il48, il35, il63, il64, ltT, ltF, leT, leF, eqT, eqF, inT, nI_clamp, nI_add, pk_sub, pk_mul, uf_F, us_F, uc_F, ui_F, uf_S, us_S, uc_S, ui_S, uf_C, us_C, uc_C, ui_C, uf_I, us_I, uc_I, ui_I, hw_F, this]
    · generalize hK : n / 4294967296 % 8 = k at k7
      generalize hN : n / 34359738368 = m
      have hk : k < 7 := by omega
      obtain ⟨w1, w2⟩ := zbw_f k hk
      have ew1 := eb_c k hk
      have ewf := x_wf (n := m) (w := zbw (k + 1)) (by omega) w1
      have hmw : m * zbw (k + 1) ≤ m * 64 := Nat.mul_le_mul_left _ w1
      have := hw ((m * zbw (k + 1) + 63) / 64) (by omega)
      refine ⟨(sF (sF (sF (sF u 0 a (nI (1 + k))) 1 a (nI m)) 2 a (nI 0)) 3 a (nI 0), .inl 1), ?_, zfr_F (zfr_F (zfr_F (zfr_F (zfr_r a u) 0 (nI (1 + k))) 1 (nI m)) 2 (nI 0)) 3 (nI 0), rfl⟩
      simp (disch := omega) [pX3_measure, pX3_measurePlainList, x_type, cx_two0, cx_two1, cx_sl0, cx_sl1, cx_fs1, cx_fs0, x_dw, x_pt, x_lk, x_ln, x_fw, x_tc, t1, hK, hN, il0, il1, il2, il3, il4, il5, il6, il7, il8, il10, il16, il31, il32, il48, il35, il63, il64, ltT, ltF, leT, leF, eqT, eqF, inT, nI_clamp, nI_add, pk_sub, pk_mul, uf_F, us_F, uc_F, ui_F, uf_S, us_S, uc_S, ui_S, uf_C, us_C, uc_C, ui_C, uf_I, us_I, uc_I, ui_I, hw_F, ew1, ewf, this]
