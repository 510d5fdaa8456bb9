/-! ===== what finding leaves as it was ===== -/
def zfr (a : Nat) (u u' : CS) : Prop := u'.2 = u.2 ∧ ∀ k b, b ≠ a → Uf u' k b = Uf u k b
def mfr (v w : MS) : Prop := w.2.2 = v.2.2 ∧ ∀ k, k ≠ 5 → k ≠ 6 → k ≠ 7 → k ≠ 9 → k ≠ 10 → Vi w k = Vi v k
theorem zfr_r (a : Nat) (u : CS) : zfr a u u := ⟨rfl, fun _ _ _ => rfl⟩
theorem zfr_t {a : Nat} {u u' u'' : CS} (h : zfr a u u') (h2 : zfr a u' u'') : zfr a u u'' := ⟨h2.1.trans h.1, fun k b n => (h2.2 k b n).trans (h.2 k b n)⟩
theorem zfr_F {a : Nat} {u u' : CS} (h : zfr a u u') (k : Nat) (x : Int32) : zfr a u (sF u' k a x) := ⟨h.1, fun k' b n => by
  rw [uf_F, if_neg (by intro q; exact n q.2)]
  exact h.2 k' b n⟩
theorem mfr_r (v : MS) : mfr v v := ⟨rfl, fun _ _ _ _ _ _ => rfl⟩
theorem mfr_t {v v' v'' : MS} (h : mfr v v') (h2 : mfr v' v'') : mfr v v'' := ⟨h2.1.trans h.1, fun k a b c d e => (h2.2 k a b c d e).trans (h.2 k a b c d e)⟩
theorem mfr_I {v w : MS} (h : mfr v w) {k : Nat} (hk : k = 5 ∨ k = 6 ∨ k = 7 ∨ k = 9 ∨ k = 10) (x : Int32) : mfr v (tI w k x) := ⟨h.1, fun j a b c d e => by
  rw [vi_I, if_neg (by omega)]
  exact h.2 j a b c d e⟩
theorem mfr_L {v w : MS} (h : mfr v w) (k : Nat) (x : Int64) : mfr v (tL w k x) := ⟨h.1, fun j a b c d e => h.2 j a b c d e⟩
theorem gMSG_zm {Z : CZ} {u u' : CS} {v v' : MS} {cn : Nat → Nat} {a : Nat} (h : gMSG Z u v cn) (h1 : zfr a u u') (h2 : mfr v v') : gMSG Z u' v' cn := gMSG_fr h (fun s _ => by rw [show Us u' = Us u from congrArg Prod.fst h1.1]) (fun s _ => by rw [show Uc u' = Uc u from congrArg (fun x => x.2.1) h1.1]) (by rw [show Va v' = Va v from congrArg Prod.fst h2.1]) (by rw [show Vr v' = Vr v from congrArg Prod.snd h2.1])
/-! ===== where a pointer leads ===== -/
def zLoc (a : Nat) (r : CS × (Nat ⊕ Int64)) (w : MS) (c : Int32) : Prop :=
  (r.2 = .inl 3 ∧ c = 2) ∨ (r.2 = .inl 1 ∧ c = 1) ∨ (∃ n : Nat, n < 18446744073709551616 ∧ n % 4 < 2 ∧ r.2 = .inr (lN n) ∧ c = 1 ∧ Uf r.1 4 a = iM1) ∨ (∃ sg n : Nat, sg < 4 ∧ n < 18446744073709551616 ∧ n % 4 < 2 ∧ r.2 = .inr (lN n) ∧ c = 0 ∧ Uf r.1 4 a = nI sg ∧ Vi w 6 = nI sg ∧ Vi w 7 = Uf r.1 5 a ∧ Vl w 11 = lN n)
theorem z_locate {Z : CZ} {u : CS} {v : MS} {cn : Nat → Nat} (hM : gMSG Z u v cn) {s i a : Nat} (hs : s < 4) (hi : i < cn s) (hw : Vr v 1 (64 * s + i) ≠ 0) :
    ∃ r w c, pX3_locate Z u (nI s) (nI i) a = some r ∧ pX6_follow v (nI s) (nI i) = some (w, c) ∧ zfr a u r.1 ∧ mfr v w ∧ zLoc a r w c := by
  obtain ⟨n, hn, e⟩ := wb_of (Vr v 1 (64 * s + i))
  have e1 := c_at hM hs hi
  have hc := (hM s hs).1
  rw [e] at e1
  have hn0 : n ≠ 0 := fun q => hw (by rw [e, q]; rfl)
  have hn2 : n < 18446744073709551616 := hn
  have e2 : pX6_follow v (nI s) (nI i) = if (2 : Int64) ≤ lN n &&& 3 then (if lN n &&& (4 : Int64) = 0 then pX6_follow_78 (tL (tI (tI v 6 (nI s)) 7 (nI i + 1 + pX6_offset (lN n))) 11 (lN n)) (lN n) (lN (n / 4294967296)) (lN (n / 8 % 536870912)) 0 else pX6_follow_78 (tL (tI (tI v 6 (nI s)) 7 (nI i + 1 + pX6_offset (lN n))) 11 (lN n)) (lN n) (lN (n / 4294967296)) (lN (n / 8 % 536870912)) 1) else some (tL (tI (tI v 6 (nI s)) 7 (nI i + 1 + pX6_offset (lN n))) 11 (lN n), 0) := by
    unfold pX6_follow
    rw [il64, pk_mul, nI_add, inT (by omega) (by omega), nI_clamp (by omega), e]
    simp only [Option.bind_some, if_true, y_s32 hn2, y_s3 hn2, y_m29 (show n / 8 < 18446744073709551616 by omega)]
  have e3 : ∀ x, pX6_follow_78 (tL (tI (tI v 6 (nI s)) 7 (nI i + 1 + pX6_offset (lN n))) 11 (lN n)) (lN n) (lN (n / 4294967296)) (lN (n / 8 % 536870912)) x = pX6_follow_97 (tL (tI (tI v 6 (nI s)) 7 (nI i + 1 + pX6_offset (lN n))) 11 (lN n)) (lN (n / 4294967296)) (lN (n / 8 % 536870912)) x (if n % 4 = 2 then 1 else 0) := fun x => by
    unfold pX6_follow_78
    rw [y_a3 hn2]
    by_cases q : n % 4 = 2
    · rw [q, if_pos rfl]; rfl
    · rw [if_neg q, if_neg (show ¬ lN (n % 4) = (2 : Int64) from fun z => q ((pk_lEQ (b := 2) (by omega) (by omega)).mp z))]
  have hmv : mfr v (tL (tI (tI v 6 (nI s)) 7 (nI i + 1 + pX6_offset (lN n))) 11 (lN n)) := mfr_L (mfr_I (mfr_I (mfr_r v) (by omega) _) (by omega) _) _ _
  generalize hv1 : tL (tI (tI v 6 (nI s)) 7 (nI i + 1 + pX6_offset (lN n))) 11 (lN n) = v1 at e2 e3 hmv
  have hva : Va v1 = Va v := congrArg Prod.fst hmv.1
  have hvr : Vr v1 = Vr v := congrArg Prod.snd hmv.1
  by_cases t : n % 4 < 2
  · refine ⟨(sF (sF u 4 a (nI s)) 5 a (nI i + 1 + pX6_offset (lN n)), .inr (lN n)), v1, 0, ?_, ?_, zfr_F (zfr_F (zfr_r a u) _ _) _ _, hmv, Or.inr (Or.inr (Or.inr ⟨s, n, hs, hn2, t, rfl, rfl, by simp [uf_F], ?_, ?_, ?_⟩))⟩
    · simp (disch := omega) [pX3_locate, e1, x_type, cx_two0, cx_two1, cx_sl0, cx_sl1, cx_fs1, cx_fs0, x_dw, x_pt, x_lk, x_ln, x_fw, x_tc, pX3_locateNear, il0, il1, il2, il3, il4, il5, il6, il7, il8, il10, il16, il31, il32, il48, il35, il63, il64, ltT, ltF, leT, leF, eqT, eqF, inT, nI_clamp, nI_add, pk_sub, pk_mul, xy_off]
    · rw [e2, y_a3 hn2, if_neg (show ¬ (2 : Int64) ≤ lN (n % 4) from fun q => by have := (pk_lLE (a := 2) (by omega) (by omega)).mp q; omega)]
    · rw [← hv1]; simp [vi_I, vl_I, va_I, vr_I, vi_L, vl_L, va_L, vr_L, vi_A, vl_A, vA_A, vr_A, vi_R, vl_R, va_R, vr_R]
    · rw [← hv1]; simp [vi_I, vl_I, va_I, vr_I, vi_L, vl_L, va_L, vr_L, vi_A, vl_A, vA_A, vr_A, vi_R, vl_R, va_R, vr_R, uf_F]
    · rw [← hv1]; simp [vi_I, vl_I, va_I, vr_I, vi_L, vl_L, va_L, vr_L, vi_A, vl_A, vA_A, vr_A, vi_R, vl_R, va_R, vr_R]
  rw [y_a3 hn2, if_pos (show (2 : Int64) ≤ lN (n % 4) from (pk_lLE (a := 2) (by omega) (by omega)).mpr (by omega)), e3, e3] at e2
  by_cases t3 : n % 4 = 3
  · refine ⟨(u, .inl 3), v1, 2, ?_, ?_, zfr_r a u, hmv, Or.inl ⟨rfl, rfl⟩⟩
    · simp (disch := omega) [pX3_locate, e1, x_type, cx_two0, cx_two1, cx_sl0, cx_sl1, cx_fs1, cx_fs0, x_dw, x_pt, x_lk, x_ln, x_fw, x_tc, pX3_locateNear, il0, il1, il2, il3, il4, il5, il6, il7, il8, il10, il16, il31, il32, il48, il35, il63, il64, ltT, ltF, leT, leF, eqT, eqF, inT, nI_clamp, nI_add, pk_sub, pk_mul]
    · rw [if_neg (show ¬ n % 4 = 2 by omega)] at e2
      rw [e2]
      by_cases q : lN n &&& (4 : Int64) = 0 <;> simp [q, pX6_follow_97, pX6_follow_141]
  have t2 : n % 4 = 2 := by omega
  rw [if_pos t2] at e2
  by_cases hsg : 4 ≤ n / 4294967296
  · refine ⟨(u, .inl 1), v1, 1, ?_, ?_, zfr_r a u, hmv, Or.inr (Or.inl ⟨rfl, rfl⟩)⟩
    · rcases Nat.mod_two_eq_zero_or_one (n / 4) with q | q <;> simp (disch := omega) [pX3_locate, pX3_locate_62, e1, x_type, cx_two0, cx_two1, cx_sl0, cx_sl1, cx_fs1, cx_fs0, x_dw, x_pt, x_lk, x_ln, x_fw, x_tc, il0, il1, il2, il3, il4, il5, il6, il7, il8, il10, il16, il31, il32, il48, il35, il63, il64, ltT, ltF, leT, leF, eqT, eqF, inT, nI_clamp, nI_add, pk_sub, pk_mul, c_hasWordsN iM1_n, t2, q]
    · rw [e2]
      have q3 : (3 : Int64) < lN (n / 4294967296) := (pk_lLT (a := 3) (by omega) (by omega)).mpr (by omega)
      by_cases q : lN n &&& (4 : Int64) = 0 <;> simp [q, pX6_follow_97, q3]
  generalize hg : n / 4294967296 = sg at e2 hsg
  generalize ha : n / 8 % 536870912 = at' at e2
  have hsg2 : sg < 4 := by omega
  obtain ⟨c1, c2, c3, c4⟩ := hM sg hsg2
  have hat : at' < 536870912 := by omega
  have hcw := fun b hb => c_hasWords (Z := Z) (b := b) hsg2 c2 c1 (show at' < 2147483648 by omega) hb
  have q3 : ¬ (3 : Int64) < lN sg := fun z => by have := (pk_lLT (a := 3) (by omega) (by omega)).mp z; omega
  have e97 : ∀ t, t < 2 → pX6_follow_97 v1 (lN sg) (lN at') (nI t) 1 = if at' + t < cn sg then pX6_follow_141 v1 (lN sg) (lN at') (nI t) 1 else some (v1, 1) := fun t ht => by
    have h125 : ∀ y : Nat, y < 2 → pX6_follow_125 v1 (lN sg) (lN at') (nI t) 1 (lN y) (lN at') = if at' + y < cn sg then pX6_follow_141 v1 (lN sg) (lN at') (nI t) 1 else some (v1, 1) := fun y hy => by
      unfold pX6_follow_125
      rw [lN_i, inT (by omega) (by omega), nI_clamp (by omega), hva, c3, lN_add, nI_l (by omega)]
      by_cases q : at' + y < cn sg
      · rw [if_pos rfl, if_pos q, if_pos ((pk_lLT (by omega) (by omega)).mpr q)]
      · rw [if_pos rfl, if_neg q, if_neg (fun z => q ((pk_lLT (by omega) (by omega)).mp z))]
    unfold pX6_follow_97
    have ht2 : t = 0 ∨ t = 1 := by omega
    rcases ht2 with rfl | rfl
    · rw [if_neg (by decide), if_neg q3, if_pos (by decide), ll0, h125 0 (by omega)]
    · rw [if_neg (by decide), if_neg q3, if_neg (by decide), ll1, h125 1 (by omega)]
  rcases Nat.mod_two_eq_zero_or_one (n / 4) with q | q
  · have q4 : lN n &&& (4 : Int64) = 0 := by rw [y_4 hn2]; exact q
    rw [if_pos q4, il0, e97 0 (by omega)] at e2
    by_cases hpad : at' + 0 < cn sg
    · rw [if_pos hpad] at e2
      obtain ⟨p, hp, ep⟩ := wb_of (Vr v 1 (64 * sg + at'))
      have ep1 := c_at hM hsg2 (show at' < cn sg by omega)
      rw [ep] at ep1
      have hp2 : p < 18446744073709551616 := hp
      have hcw1 := hcw 1 (by omega)
      rw [if_pos (by omega)] at hcw1
      have e141 : pX6_follow_141 v1 (lN sg) (lN at') (nI 0) 1 = if pX6_isPad (lN p) = 0 then some (tL (tI (tI v1 6 (nI sg)) 7 (nI at' + 1 + pX6_offset (lN p))) 11 (lN p), 2) else some (tL (tI (tI v1 6 (nI sg)) 7 (nI at' + 1 + pX6_offset (lN p))) 11 (lN p), 0) := by
        unfold pX6_follow_141
        rw [lN_i, lN_i, il64, pk_mul, nI_add, inT (by omega) (by omega), nI_clamp (by omega), hvr, ep]
        rfl
      have hm2 : mfr v (tL (tI (tI v1 6 (nI sg)) 7 (nI at' + 1 + pX6_offset (lN p))) 11 (lN p)) := mfr_L (mfr_I (mfr_I hmv (by omega) _) (by omega) _) _ _
      by_cases hb : p = 0 ∨ 2 ≤ p % 4
      · refine ⟨(u, .inl 3), _, 2, ?_, ?_, zfr_r a u, hm2, Or.inl ⟨rfl, rfl⟩⟩
        · simp (disch := omega) [pX3_locate, pX3_locate_62, pX3_locateNear, e1, x_type, cx_two0, cx_two1, cx_sl0, cx_sl1, cx_fs1, cx_fs0, x_dw, x_pt, x_lk, x_ln, x_fw, x_tc, il0, il1, il2, il3, il4, il5, il6, il7, il8, il10, il16, il31, il32, il48, il35, il63, il64, ltT, ltF, leT, leF, eqT, eqF, inT, nI_clamp, nI_add, pk_sub, pk_mul, t2, hg, ha, hcw1, ep1]
        · rw [e2, e141, cy_p0 hp2 hb]; rfl
      · refine ⟨(sF (sF u 4 a (nI sg)) 5 a (nI at' + 1 + pX6_offset (lN p)), .inr (lN p)), _, 0, ?_, ?_, zfr_F (zfr_F (zfr_r a u) _ _) _ _, hm2, Or.inr (Or.inr (Or.inr ⟨sg, p, hsg2, hp2, by omega, rfl, rfl, by simp [uf_F], by simp [vi_I, vl_I, va_I, vr_I, vi_L, vl_L, va_L, vr_L, vi_A, vl_A, vA_A, vr_A, vi_R, vl_R, va_R, vr_R], by simp [vi_I, vl_I, va_I, vr_I, vi_L, vl_L, va_L, vr_L, vi_A, vl_A, vA_A, vr_A, vi_R, vl_R, va_R, vr_R, uf_F], by simp [vi_I, vl_I, va_I, vr_I, vi_L, vl_L, va_L, vr_L, vi_A, vl_A, vA_A, vr_A, vi_R, vl_R, va_R, vr_R]⟩))⟩
        · simp (disch := omega) [pX3_locate, pX3_locate_62, pX3_locateNear, e1, x_type, cx_two0, cx_two1, cx_sl0, cx_sl1, cx_fs1, cx_fs0, x_dw, x_pt, x_lk, x_ln, x_fw, x_tc, il0, il1, il2, il3, il4, il5, il6, il7, il8, il10, il16, il31, il32, il48, il35, il63, il64, ltT, ltF, leT, leF, eqT, eqF, inT, nI_clamp, nI_add, pk_sub, pk_mul, t2, hg, ha, hcw1, ep1, xy_off]
        · rw [e2, e141, cy_p1 hp2 (by omega) (by omega)]; rfl
    · rw [if_neg hpad] at e2
      have hcw1 := hcw 1 (by omega)
      rw [if_neg (by omega)] at hcw1
      refine ⟨(u, .inl 1), v1, 1, ?_, e2, zfr_r a u, hmv, Or.inr (Or.inl ⟨rfl, rfl⟩)⟩
      simp (disch := omega) [pX3_locate, pX3_locate_62, e1, x_type, cx_two0, cx_two1, cx_sl0, cx_sl1, cx_fs1, cx_fs0, x_dw, x_pt, x_lk, x_ln, x_fw, x_tc, il0, il1, il2, il3, il4, il5, il6, il7, il8, il10, il16, il31, il32, il48, il35, il63, il64, ltT, ltF, leT, leF, eqT, eqF, inT, nI_clamp, nI_add, pk_sub, pk_mul, t2, hg, ha, hcw1]
  · have q4 : ¬ lN n &&& (4 : Int64) = 0 := by rw [y_4 hn2]; omega
    rw [if_neg q4, show pX6_follow_97 v1 (lN sg) (lN at') 1 1 = pX6_follow_97 v1 (lN sg) (lN at') (nI 1) 1 from rfl, e97 1 (by omega)] at e2
    by_cases hpad : at' + 1 < cn sg
    · rw [if_pos hpad] at e2
      obtain ⟨p, hp, ep⟩ := wb_of (Vr v 1 (64 * sg + at'))
      have ep1 := c_at hM hsg2 (show at' < cn sg by omega)
      rw [ep] at ep1
      have hp2 : p < 18446744073709551616 := hp
      obtain ⟨x, hx, ex⟩ := wb_of (Vr v 1 (64 * sg + (at' + 1)))
      have ex1 := c_at hM hsg2 (show at' + 1 < cn sg by omega)
      rw [ex] at ex1
      have hx2 : x < 18446744073709551616 := hx
      have hcw1 := hcw 2 (by omega)
      rw [if_pos (by omega)] at hcw1
      have e141 : pX6_follow_141 v1 (lN sg) (lN at') (nI 1) 1 = if lN (p % 8) = 2 then (if pX6_isPad (lN x) = 0 then some (tL v1 11 (lN x), 2) else if lN (p / 4294967296) ≤ 3 then some (tI (tI (tL v1 11 (lN x)) 6 (nI (p / 4294967296))) 7 (nI (p / 8 % 536870912)), 0) else some (tL v1 11 (lN x), 1)) else some (tL v1 11 (lN x), 2) := by
        unfold pX6_follow_141
        rw [lN_i, lN_i, il64, pk_mul, nI_add, inT (by omega) (by omega), nI_clamp (by omega), hvr, ep, nI_1 (64 * sg + at'), Nat.add_assoc (64 * sg) at' 1, inT (by omega) (by omega), nI_clamp (by omega), ex]
        simp only [Option.bind_some, if_true, if_neg (show ¬ nI 1 = (0 : Int32) by decide), if_neg (show ¬ (1 : Int32) = (0 : Int32) by decide), y_a7 hp2, y_s32 hp2, y_s3 hp2, y_m29 (show p / 8 < 18446744073709551616 by omega), lN_i]
      have hm2 : mfr v (tL v1 11 (lN x)) := mfr_L hmv _ _
      by_cases hb : p % 8 = 2 ∧ x ≠ 0 ∧ x % 4 < 2
      · obtain ⟨b1, b2, b3⟩ := hb
        have e8 : lN (p % 8) = 2 := by rw [b1]; rfl
        rw [e141, if_pos e8, cy_p1 hx2 b2 b3, if_neg (show ¬ nI 1 = (0 : Int32) by decide)] at e2
        by_cases hp4 : 4 ≤ p / 4294967296
        · rw [if_neg (show ¬ lN (p / 4294967296) ≤ (3 : Int64) from fun z => by have := (pk_lLE (b := 3) (by omega) (by omega)).mp z; omega)] at e2
          refine ⟨(sF (sF u 4 a iM1) 5 a (nI (p / 8 % 536870912)), .inr (lN x)), _, 1, ?_, e2, zfr_F (zfr_F (zfr_r a u) _ _) _ _, hm2, Or.inr (Or.inr (Or.inl ⟨x, hx2, b3, rfl, rfl, by simp [uf_F]⟩))⟩
          simp (disch := omega) [pX3_locate, pX3_locate_62, pX3_locateFar, e1, x_type, cx_two0, cx_two1, cx_sl0, cx_sl1, cx_fs1, cx_fs0, x_dw, x_pt, x_lk, x_ln, x_fw, x_tc, il0, il1, il2, il3, il4, il5, il6, il7, il8, il10, il16, il31, il32, il48, il35, il63, il64, ltT, ltF, leT, leF, eqT, eqF, inT, nI_clamp, nI_add, pk_sub, pk_mul, t2, hg, ha, hcw1, ep1, ex1]
        · rw [if_pos (show lN (p / 4294967296) ≤ (3 : Int64) from (pk_lLE (b := 3) (by omega) (by omega)).mpr (by omega))] at e2
          refine ⟨(sF (sF u 4 a (nI (p / 4294967296))) 5 a (nI (p / 8 % 536870912)), .inr (lN x)), _, 0, ?_, e2, zfr_F (zfr_F (zfr_r a u) _ _) _ _, mfr_I (mfr_I hm2 (by omega) _) (by omega) _, Or.inr (Or.inr (Or.inr ⟨p / 4294967296, x, by omega, hx2, b3, rfl, rfl, by simp [uf_F], by simp [vi_I, vl_I, va_I, vr_I, vi_L, vl_L, va_L, vr_L, vi_A, vl_A, vA_A, vr_A, vi_R, vl_R, va_R, vr_R], by simp [vi_I, vl_I, va_I, vr_I, vi_L, vl_L, va_L, vr_L, vi_A, vl_A, vA_A, vr_A, vi_R, vl_R, va_R, vr_R, uf_F], by simp [vi_I, vl_I, va_I, vr_I, vi_L, vl_L, va_L, vr_L, vi_A, vl_A, vA_A, vr_A, vi_R, vl_R, va_R, vr_R]⟩))⟩
          simp (disch := omega) [pX3_locate, pX3_locate_62, pX3_locateFar, e1, x_type, cx_two0, cx_two1, cx_sl0, cx_sl1, cx_fs1, cx_fs0, x_dw, x_pt, x_lk, x_ln, x_fw, x_tc, il0, il1, il2, il3, il4, il5, il6, il7, il8, il10, il16, il31, il32, il48, il35, il63, il64, ltT, ltF, leT, leF, eqT, eqF, inT, nI_clamp, nI_add, pk_sub, pk_mul, t2, hg, ha, hcw1, ep1, ex1]
      · refine ⟨(u, .inl 3), _, 2, ?_, ?_, zfr_r a u, hm2, Or.inl ⟨rfl, rfl⟩⟩
        · by_cases b1 : p % 4 = 2
          · by_cases b0 : p / 4 % 2 = 0
            · simp (disch := omega) [pX3_locate, pX3_locate_62, pX3_locateFar, e1, x_type, cx_two0, cx_two1, cx_sl0, cx_sl1, cx_fs1, cx_fs0, x_dw, x_pt, x_lk, x_ln, x_fw, x_tc, il0, il1, il2, il3, il4, il5, il6, il7, il8, il10, il16, il31, il32, il48, il35, il63, il64, ltT, ltF, leT, leF, eqT, eqF, inT, nI_clamp, nI_add, pk_sub, pk_mul, t2, hg, ha, hcw1, ep1, ex1]
            · simp (disch := omega) [pX3_locate, pX3_locate_62, pX3_locateFar, e1, x_type, cx_two0, cx_two1, cx_sl0, cx_sl1, cx_fs1, cx_fs0, x_dw, x_pt, x_lk, x_ln, x_fw, x_tc, il0, il1, il2, il3, il4, il5, il6, il7, il8, il10, il16, il31, il32, il48, il35, il63, il64, ltT, ltF, leT, leF, eqT, eqF, inT, nI_clamp, nI_add, pk_sub, pk_mul, t2, hg, ha, hcw1, ep1, ex1]
          · simp (disch := omega) [pX3_locate, pX3_locate_62, pX3_locateFar, e1, x_type, cx_two0, cx_two1, cx_sl0, cx_sl1, cx_fs1, cx_fs0, x_dw, x_pt, x_lk, x_ln, x_fw, x_tc, il0, il1, il2, il3, il4, il5, il6, il7, il8, il10, il16, il31, il32, il48, il35, il63, il64, ltT, ltF, leT, leF, eqT, eqF, inT, nI_clamp, nI_add, pk_sub, pk_mul, t2, hg, ha, hcw1, ep1, ex1]
        · rw [e2]
          show pX6_follow_141 v1 (lN sg) (lN at') (nI 1) 1 = _
          rw [e141]
          by_cases b1 : p % 8 = 2
          · rw [if_pos (by rw [b1]; rfl), cy_p0 hx2 (by omega)]; rfl
          · rw [if_neg (show ¬ lN (p % 8) = (2 : Int64) from fun z => b1 ((pk_lEQ (b := 2) (by omega) (by omega)).mp z))]
    · rw [if_neg hpad] at e2
      have hcw1 := hcw 2 (by omega)
      rw [if_neg (by omega)] at hcw1
      refine ⟨(u, .inl 1), v1, 1, ?_, e2, zfr_r a u, hmv, Or.inr (Or.inl ⟨rfl, rfl⟩)⟩
      simp (disch := omega) [pX3_locate, pX3_locate_62, e1, x_type, cx_two0, cx_two1, cx_sl0, cx_sl1, cx_fs1, cx_fs0, x_dw, x_pt, x_lk, x_ln, x_fw, x_tc, il0, il1, il2, il3, il4, il5, il6, il7, il8, il10, il16, il31, il32, il48, il35, il63, il64, ltT, ltF, leT, leF, eqT, eqF, inT, nI_clamp, nI_add, pk_sub, pk_mul, t2, hg, ha, hcw1]
