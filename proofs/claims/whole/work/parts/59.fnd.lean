/-! ===== an object is found ===== -/
def obV (w : MS) (sh co po ed sg bg ct : Nat) : Prop := Vi w 5 = nI sh ∧ Vi w 6 = nI sg ∧ Vi w 7 = nI bg ∧ Vl w 8 = lN co ∧ Vi w 9 = nI ed ∧ Vi w 10 = nI po ∧ (sh ≤ 7 → Vl w 11 = lN (if sh = 0 then co + po else (co * zbw sh + 63) / 64)) ∧ Vl w 12 = lN ct
def ob6 (u : CS) (a : Nat) (sh co po ed sg bg : Nat) : Prop := Uf u 0 a = nI sh ∧ Uf u 1 a = nI co ∧ Uf u 2 a = nI po ∧ Uf u 3 a = nI ed ∧ Uf u 4 a = nI sg ∧ Uf u 5 a = nI bg
def zFnd (cn : Nat → Nat) (a : Nat) (r : CS × (Nat ⊕ Int32)) (w : MS) (c : Int32) : Prop :=
  (r.2 = .inl 3 ∧ c = 2) ∨ (r.2 = .inl 1 ∧ c = 1) ∨ (c = 0 ∧ ∃ sh co po ed sg bg ct : Nat, obOk cn sh co po ed sg bg ∧ obK sh co po ed ct ∧ r.2 = .inr (nI ct) ∧ ob6 r.1 a sh co po ed sg bg ∧ obV w sh co po ed sg bg ct)
theorem n_sneg {c b : Nat} (h : c < b) (hb : b < 2147483648) : ¬ (0 : Int32) ≤ nI c - nI b := fun q => by
  have e : nI c - nI b = -(nI (b - c)) := by rw [← pk_sub (by omega), Int32.neg_sub]
  rw [e] at q
  have h2 := Int32.le_iff_toInt_le.mp q
  rw [sb_negT (by omega)] at h2
  have h3 : (0 : Int32).toInt = 0 := rfl
  omega
def zlm (Z : CZ) (u : CS) (s i : Int32) (a : Nat) : Option (CS × (Nat ⊕ Int32)) := (pX3_locate Z u s i a).bind fun x => match x.2 with | .inl j => some (x.1, .inl j) | .inr p => pX3_measure Z x.1 p a
theorem z_meas {Z : CZ} {u : CS} {v : MS} {cn : Nat → Nat} (hM : gMSG Z u v cn) {sg a n : Nat} (hs : sg < 4) (h4 : Uf u 4 a = nI sg) (h6 : Vi v 6 = nI sg) (h7 : Vi v 7 = Uf u 5 a) (hn : n < 18446744073709551616) (ht : n % 4 < 2) :
    ∃ r w c, pX3_measure Z u (lN n) a = some r ∧ pX6_measure v (lN n) = some (w, c) ∧ zfr a u r.1 ∧ mfr v w ∧ zMea cn a sg r w c := by
  obtain ⟨c1, c2, c3, c4⟩ := hM sg hs
  rcases negI (Uf u 5 a) with h | ⟨bg, hbg, h5⟩
  · obtain ⟨r, e1, e2, e3⟩ := z_mBad (Z := Z) (u := u) (a := a) hn ht (fun x _ => by rw [h4]; exact c_hasWordsM hs c2 h)
    refine ⟨r, v, 1, e1, ?_, e2, mfr_r v, Or.inr (Or.inl ⟨e3, rfl⟩)⟩
    unfold pX6_measure
    rw [h6, h7, inT (by omega) (by omega)]
    simp [h]
  · by_cases hb : bg ≤ cn sg
    · have h7' : Vi v 7 = nI bg := h7.trans h5
      by_cases t0 : n % 4 = 0
      · exact z_mStruct hM hs h4 h5 h6 h7' hn t0 hb
      · by_cases k7 : n / 4294967296 % 8 = 7
        · exact z_mTag hM hs h4 h5 h6 h7' hn (by omega) k7 hb
        · exact z_mPlain hM hs h4 h5 h6 h7' hn (by omega) (by omega) hb
    · obtain ⟨r, e1, e2, e3⟩ := z_mBad (Z := Z) (u := u) (a := a) hn ht (fun x hx => by rw [h4, h5, c_hasWords hs c2 c1 hbg hx, if_neg (by omega)])
      refine ⟨r, v, 1, e1, ?_, e2, mfr_r v, Or.inr (Or.inl ⟨e3, rfl⟩)⟩
      unfold pX6_measure
      rw [h6, h7, h5, inT (by omega) (by omega), nI_clamp (by omega), c3]
      have q1 : ¬ nI bg < 0 := nI_pos hbg
      have q2 := n_sneg (show cn sg < bg by omega) hbg
      simp [q1, q2]
theorem z_lm {Z : CZ} {u : CS} {v : MS} {cn : Nat → Nat} (hM : gMSG Z u v cn) {s i a : Nat} (hs : s < 4) (hi : i < cn s) (hw : Vr v 1 (64 * s + i) ≠ 0) :
    ∃ r w c, zlm Z u (nI s) (nI i) a = some r ∧ pX6_locate v (nI s) (nI i) = some (w, c) ∧ zfr a u r.1 ∧ mfr v w ∧ zFnd cn a r w c := by
  obtain ⟨⟨u1, o1⟩, v1, c1, e1, e2, f1, f2, h⟩ := z_locate (a := a) hM hs hi hw
  have hlc : ∀ (w : MS) (c : Int32), ∃ w', (if (1 : Int64) ≤ Vl w 12 then ((some (Vl w 12)).bind fun y => some (tL w 12 y, c)) else some (tL w 12 1, c)) = some (w', c) ∧ mfr w w' := fun w c => by
    by_cases q : (1 : Int64) ≤ Vl w 12
    · exact ⟨tL w 12 (Vl w 12), by rw [if_pos q]; rfl, mfr_L (mfr_r w) _ _⟩
    · exact ⟨tL w 12 1, by rw [if_neg q], mfr_L (mfr_r w) _ _⟩
  have herr : c1 ≠ 0 → ∃ w', pX6_locate v (nI s) (nI i) = some (w', c1) ∧ mfr v w' := fun hc => by
    obtain ⟨w', e3, e4⟩ := hlc v1 c1
    refine ⟨w', ?_, mfr_t f2 e4⟩
    unfold pX6_locate
    rw [e2]
    simp only [Option.bind_some, if_neg hc] at e3 ⊢
    exact e3
  rcases h with ⟨h1, rfl⟩ | ⟨h1, rfl⟩ | ⟨n, hn, ht, h1, rfl, h2⟩ | ⟨sg, n, hsg, hn, ht, h1, rfl, h2, h3, h4, h5⟩
  · obtain ⟨w', e3, e4⟩ := herr (by decide)
    simp only at h1
    exact ⟨(u1, .inl 3), w', 2, by unfold zlm; rw [e1]; simp only [Option.bind_some, h1], e3, f1, e4, Or.inl ⟨rfl, rfl⟩⟩
  · obtain ⟨w', e3, e4⟩ := herr (by decide)
    simp only at h1
    exact ⟨(u1, .inl 1), w', 1, by unfold zlm; rw [e1]; simp only [Option.bind_some, h1], e3, f1, e4, Or.inr (Or.inl ⟨rfl, rfl⟩)⟩
  · obtain ⟨w', e3, e4⟩ := herr (by decide)
    simp only at h1
    simp only at h2
    obtain ⟨r, g1, g2, g3⟩ := z_mBad (Z := Z) (u := u1) (a := a) hn ht (fun x _ => by rw [h2]; exact c_hasWordsN iM1_n)
    exact ⟨r, w', 1, by unfold zlm; rw [e1]; simp only [Option.bind_some, h1]; exact g1, e3, zfr_t f1 g2, e4, Or.inr (Or.inl ⟨g3, rfl⟩)⟩
  · simp only at h1 h2 h4
    obtain ⟨r, w, c, g1, g2, g3, g4, g5⟩ := z_meas (gMSG_zm hM f1 f2) hsg h2 h3 h4 hn ht
    have ez : zlm Z u (nI s) (nI i) a = some r := by unfold zlm; rw [e1]; simp only [Option.bind_some, h1]; exact g1
    have el : pX6_locate v (nI s) (nI i) = if (1 : Int64) ≤ Vl w 12 then ((some (Vl w 12)).bind fun y => some (tL w 12 y, c)) else some (tL w 12 1, c) := by
      unfold pX6_locate
      rw [e2]
      simp only [Option.bind_some, if_true, h5, g2]
    rcases g5 with ⟨g5, rfl⟩ | ⟨g5, rfl⟩ | ⟨rfl, sh, co, po, ed, bg, ct, cr, k1, k2, k3, k4, ⟨m1, m2, m3, m4, m5, m6⟩, k6, k7, k8⟩
    · obtain ⟨w', e3, e4⟩ := hlc w 2
      exact ⟨r, w', 2, ez, el.trans e3, zfr_t f1 g3, mfr_t f2 (mfr_t g4 e4), Or.inl ⟨g5, rfl⟩⟩
    · obtain ⟨w', e3, e4⟩ := hlc w 1
      exact ⟨r, w', 1, ez, el.trans e3, zfr_t f1 g3, mfr_t f2 (mfr_t g4 e4), Or.inr (Or.inl ⟨g5, rfl⟩)⟩
    · have hcr : cr < 9223372036854775808 := by
        have := k2.2.1
        by_cases q : cr = 0
        · omega
        · rw [if_neg q] at k8; omega
      refine ⟨r, tL w 12 (lN ct), 0, ez, ?_, zfr_t f1 g3, mfr_t f2 (mfr_L g4 _ _), Or.inr (Or.inr ⟨rfl, sh, co, po, ed, sg, bg, ct, k1, k2, k3, k4, by simp [vi_I, vl_I, va_I, vr_I, vi_L, vl_L, va_L, vr_L, vi_A, vl_A, vA_A, vr_A, vi_R, vl_R, va_R, vr_R, m1], by simp [vi_I, vl_I, va_I, vr_I, vi_L, vl_L, va_L, vr_L, vi_A, vl_A, vA_A, vr_A, vi_R, vl_R, va_R, vr_R, m2], by simp [vi_I, vl_I, va_I, vr_I, vi_L, vl_L, va_L, vr_L, vi_A, vl_A, vA_A, vr_A, vi_R, vl_R, va_R, vr_R, m3], by simp [vi_I, vl_I, va_I, vr_I, vi_L, vl_L, va_L, vr_L, vi_A, vl_A, vA_A, vr_A, vi_R, vl_R, va_R, vr_R, m4], by simp [vi_I, vl_I, va_I, vr_I, vi_L, vl_L, va_L, vr_L, vi_A, vl_A, vA_A, vr_A, vi_R, vl_R, va_R, vr_R, m5], by simp [vi_I, vl_I, va_I, vr_I, vi_L, vl_L, va_L, vr_L, vi_A, vl_A, vA_A, vr_A, vi_R, vl_R, va_R, vr_R, m6], fun q => by simp [vi_I, vl_I, va_I, vr_I, vi_L, vl_L, va_L, vr_L, vi_A, vl_A, vA_A, vr_A, vi_R, vl_R, va_R, vr_R, k6 q], by simp [vi_I, vl_I, va_I, vr_I, vi_L, vl_L, va_L, vr_L, vi_A, vl_A, vA_A, vr_A, vi_R, vl_R, va_R, vr_R]⟩)⟩
      rw [el, k7]
      by_cases q : cr = 0
      · rw [if_pos q] at k8
        rw [q, if_neg (show ¬ (1 : Int64) ≤ lN 0 by decide), k8]
        rfl
      · rw [if_neg q] at k8
        rw [if_pos (show (1 : Int64) ≤ lN cr from (pk_lLE (a := 1) (by omega) (by omega)).mpr (by omega)), k8]
        rfl
theorem zlm_c {Z : CZ} {u u1 : CS} {s i : Int32} {a : Nat} {o : Nat ⊕ Int32} (h : zlm Z u s i a = some (u1, o)) : (∃ j, pX3_locate Z u s i a = some (u1, .inl j) ∧ o = .inl j) ∨ (∃ u2 p, pX3_locate Z u s i a = some (u2, .inr p) ∧ pX3_measure Z u2 p a = some (u1, o)) := by
  unfold zlm at h
  cases hl : pX3_locate Z u s i a with
  | none => rw [hl] at h; cases h
  | some x =>
    obtain ⟨x1, x2⟩ := x
    rw [hl] at h
    cases x2 with
    | inl k =>
      simp only [Option.bind_some, Option.some.injEq, Prod.mk.injEq] at h
      obtain ⟨rfl, rfl⟩ := h
      exact Or.inl ⟨k, rfl, rfl⟩
    | inr p => exact Or.inr ⟨x1, p, rfl, h⟩
/-- what an object of a pointer leads to -/
theorem z_find {Z : CZ} {u : CS} {v : MS} {cn : Nat → Nat} (hM : gMSG Z u v cn) {s i a a1 dp l : Nat} (h1 : Uf u 4 a1 = nI s) (h2 : Uf u 6 a1 = nI dp) (hd : dp ≤ 8) (hn : a1 ≠ a) (hs : s < 4) (hi : i < cn s) (hw : Vr v 1 (64 * s + i) ≠ 0) (hl : l ≤ 63) :
    ∃ r w c, pX3_find Z u a1 (nI i) (nI l) a = some r ∧ pX6_find v (nI s) (nI i) (nI (dp + 1)) (nI l) = some (w, c) ∧ zfr a u r.1 ∧ mfr v w ∧
      ((r.2 = .inl 3 ∧ c = 2) ∨ (r.2 = .inl 1 ∧ c = 1) ∨ (r.2 = .inl 4 ∧ c = 3) ∨ (c = 0 ∧ dp + 1 ≤ 8 ∧ ∃ sh co po ed sg bg ct : Nat, obOk cn sh co po ed sg bg ∧ obK sh co po ed ct ∧ ct ≤ l ∧ r.2 = .inr (nI ct) ∧ obF r.1 a sh co po ed sg bg (dp + 1) ∧ obV w sh co po ed sg bg ct)) := by
  obtain ⟨⟨u1, o1⟩, w, c, e1, e2, f1, f2, h⟩ := z_lm (a := a) hM hs hi hw
  have ef : pX3_find Z u a1 (nI i) (nI l) a = ((some (u1, o1)).bind fun x => match x.2 with | .inl j => some (x.1, .inl j) | .inr r => ((some ((Uf x.1 6 a1) + (1 : Int32))).bind fun y_5 => ((pX3_requireLimits Z (sF x.1 6 a y_5) a r (nI l)).bind fun x_8 => match x_8.2 with | .inl j => some (x_8.1, .inl j) | .inr r_8 => some ((x_8.1), .inr r)))) := by
    unfold pX3_find
    rw [h1]
    rcases zlm_c e1 with ⟨j, g1, rfl⟩ | ⟨u2, p, g1, g2⟩
    · rw [g1]; rfl
    · rw [g1]
      simp only [Option.bind_some, g2]
      cases o1 <;> rfl
  have hd1 : Uf u1 6 a1 = nI dp := (f1.2 6 a1 hn).trans h2
  unfold pX6_find
  rw [e2, ef]
  rcases h with ⟨g, rfl⟩ | ⟨g, rfl⟩ | ⟨rfl, sh, co, po, ed, sg, bg, ct, k1, k2, k3, k4, k5⟩
  · simp only at g
    subst g
    exact ⟨(u1, .inl 3), w, 2, rfl, rfl, f1, f2, Or.inl ⟨rfl, rfl⟩⟩
  · simp only at g
    subst g
    exact ⟨(u1, .inl 1), w, 1, rfl, rfl, f1, f2, Or.inr (Or.inl ⟨rfl, rfl⟩)⟩
  · simp only at k3
    subst k3
    have hct := k2.2.1
    simp only [Option.bind_some, if_true, hd1, nI_1, pX3_requireLimits, uf_F, and_self]
    have k58 : Vl w 12 = lN ct := k5.2.2.2.2.2.2.2
    rw [il8, k58, nI_l (show l < 2147483648 by omega)]
    by_cases q : dp + 1 ≤ 8
    · rw [if_pos (nI_le q (by omega)), if_neg (nI_nlt q (by omega))]
      by_cases q2 : ct ≤ l
      · rw [if_pos (nI_le q2 (by omega)), if_pos ((pk_lLE (by omega) (by omega)).mpr q2)]
        refine ⟨(sF u1 6 a (nI (dp + 1)), .inr (nI ct)), w, 0, rfl, rfl, zfr_F f1 _ _, f2, Or.inr (Or.inr (Or.inr ⟨rfl, q, sh, co, po, ed, sg, bg, ct, k1, k2, q2, rfl, ?_, k5⟩))⟩
        obtain ⟨m1, m2, m3, m4, m5, m6⟩ := k4
        simp only at m1 m2 m3 m4 m5 m6
        exact ⟨by simp [uf_F, m1], by simp [uf_F, m2], by simp [uf_F, m3], by simp [uf_F, m4], by simp [uf_F, m5], by simp [uf_F, m6], by simp [uf_F]⟩
      · rw [if_neg (nI_ge (by omega) (by omega)), if_neg (fun z => q2 ((pk_lLE (by omega) (by omega)).mp z))]
        exact ⟨(sF u1 6 a (nI (dp + 1)), .inl 4), w, 3, rfl, rfl, zfr_F f1 _ _, f2, Or.inr (Or.inr (Or.inl ⟨rfl, rfl⟩))⟩
    · rw [if_neg (nI_ge (by omega) (by omega)), if_pos (nI_lt (by omega) (by omega))]
      exact ⟨(sF u1 6 a (nI (dp + 1)), .inl 4), w, 3, rfl, rfl, zfr_F f1 _ _, f2, Or.inr (Or.inr (Or.inl ⟨rfl, rfl⟩))⟩
theorem z_root {Z : CZ} {u : CS} {v : MS} {cn : Nat → Nat} (hM : gMSG Z u v cn) {a l : Nat} (h3 : Vi v 3 = nI l) (hl : l ≤ 63) :
    ∃ r w c, pX3_findRoot Z u (nI l) a = some r ∧ pX6_findRoot v = some (w, c) ∧ zfr a u r.1 ∧ mfr v w ∧
      ((∃ k : Nat, r.2 = .inl k ∧ k ∈ [1, 2, 3, 4] ∧ c = lco1 k) ∨ (c = 0 ∧ ∃ co po sg bg ct : Nat, obOk cn 0 co po 0 sg bg ∧ obK 0 co po 0 ct ∧ ct ≤ l ∧ r.2 = .inr (nI ct) ∧ obF r.1 a 0 co po 0 sg bg 1 ∧ obV w 0 co po 0 sg bg ct)) := by
  obtain ⟨c1, c2, c3, c4⟩ := hM 0 (by omega)
  have hw1 := c_hasWords (Z := Z) (a := 0) (b := 1) (show 0 < 4 by omega) c2 c1 (by omega) (by omega)
  by_cases h0 : cn 0 = 0
  · refine ⟨(u, .inl 1), v, 1, ?_, ?_, zfr_r a u, mfr_r v, Or.inl ⟨1, rfl, by decide, rfl⟩⟩
    · rw [if_neg (by omega)] at hw1
      simp only [pX3_findRoot, il0, il1, hw1, Option.bind_some, if_true]
    · simp [pX6_findRoot, c3, h0, nI_0, inb]
  rw [if_pos (by omega)] at hw1
  have ha := c_at (i := 0) hM (show 0 < 4 by omega) (by omega)
  have er : ∀ {β : Type} (x y : β), (if inb (0 : Int32) 4 = true then x else y) = x := fun x y => by rw [if_pos (by decide)]
  by_cases hw : Vr v 1 (64 * 0 + 0) = 0
  · refine ⟨(u, .inl 2), v, 2, ?_, ?_, zfr_r a u, mfr_r v, Or.inl ⟨2, rfl, by decide, rfl⟩⟩
    · rw [hw] at ha
      simp only [pX3_findRoot, il0, il1, hw1, Option.bind_some, ha, if_neg (show ¬ nI 1 = nI 0 by decide), if_true]
    · have q : ¬ nI (cn 0) = 0 := nI_ne0 (by omega) (by omega)
      have hw' : Vr v 1 0 = 0 := hw
      simp [pX6_findRoot, c3, q, inb, hw']
  obtain ⟨⟨u1, o1⟩, w, c, e1, e2, f1, f2, h⟩ := z_lm (a := a) hM (show 0 < 4 by omega) (show 0 < cn 0 by omega) hw
  have e3 : Vi w 3 = nI l := (f2.2 3 (by omega) (by omega) (by omega) (by omega) (by omega)).trans h3
  have ef : pX3_findRoot Z u (nI l) a = ((some (u1, o1)).bind fun x => match x.2 with | .inl j => some (x.1, .inl j) | .inr r => (if (Uf x.1 0 a) = 0 then ((pX3_requireLimits Z (sF x.1 6 a (1 : Int32)) a r (nI l)).bind fun x_11 => match x_11.2 with | .inl j => some (x_11.1, .inl j) | .inr r_11 => some ((x_11.1), .inr r)) else some (x.1, .inl 3))) := by
    unfold pX3_findRoot
    rw [show pX3_locate Z u 0 0 a = pX3_locate Z u (nI 0) (nI 0) a from rfl, show pX3_hasWords Z u 0 0 1 = pX3_hasWords Z u (nI 0) (nI 0) (nI 1) from rfl, hw1, show pX3_at Z u 0 0 = pX3_at Z u (nI 0) (nI 0) from rfl, ha]
    rcases zlm_c e1 with ⟨j, g1, rfl⟩ | ⟨u2, p, g1, g2⟩
    · rw [g1]
      simp only [Option.bind_some, if_neg (show ¬ nI 1 = (0 : Int32) by decide), if_neg hw]
    · rw [g1]
      simp only [Option.bind_some, if_neg (show ¬ nI 1 = (0 : Int32) by decide), if_neg hw, g2]
      cases o1 <;> rfl
  have eg : pX6_findRoot v = (if c = (1 : Int32) then some (w, (1 : Int32)) else (if c = (2 : Int32) then some (w, (3 : Int32)) else (if (Vi w 5) = 0 then (if (Vl w 12) ≤ (lN l) then some (w, (0 : Int32)) else some (w, (4 : Int32))) else some (w, (3 : Int32))))) := by
    have q : ¬ nI (cn 0) = 0 := nI_ne0 (by omega) (by omega)
    have hw' : ¬ Vr v 1 0 = 0 := hw
    have e2' : pX6_locate v 0 0 = some (w, c) := e2
    unfold pX6_findRoot
    rw [if_pos (by decide), show Va v 2 (0 : Int32).toNatClampNeg = nI (cn 0) from c3, if_neg q, if_pos (by decide), show Vr v 1 (0 : Int32).toNatClampNeg = Vr v 1 0 from rfl, if_neg hw', e2']
    simp only [Option.bind_some, e3, nI_l (show l < 2147483648 by omega)]
  rw [ef, eg]
  rcases h with ⟨g, rfl⟩ | ⟨g, rfl⟩ | ⟨rfl, sh, co, po, ed, sg, bg, ct, k1, k2, k3, k4, k5⟩
  · simp only at g
    subst g
    exact ⟨(u1, .inl 3), w, 3, rfl, rfl, f1, f2, Or.inl ⟨3, rfl, by decide, rfl⟩⟩
  · simp only at g
    subst g
    exact ⟨(u1, .inl 1), w, 1, rfl, rfl, f1, f2, Or.inl ⟨1, rfl, by decide, rfl⟩⟩
  · simp only at k3
    subst k3
    have hct := k2.2.1
    obtain ⟨m1, m2, m3, m4, m5, m6⟩ := k4
    have k51 := k5.1
    have k58 : Vl w 12 = lN ct := k5.2.2.2.2.2.2.2
    have hsh := k1.1
    simp only at m1 m2 m3 m4 m5 m6
    simp only [Option.bind_some, m1, k51, k58, pX3_requireLimits, uf_F, and_self, if_true, if_neg (show ¬ (0 : Int32) = 1 by decide), if_neg (show ¬ (0 : Int32) = 2 by decide), if_pos (show (1 : Int32) ≤ 8 by decide)]
    by_cases s0 : sh = 0
    · subst s0
      simp only [show nI 0 = 0 from rfl, if_true]
      have hed := (k1.2.2.2.2.2.2.1 rfl).2
      subst hed
      by_cases q2 : ct ≤ l
      · rw [if_pos (nI_le q2 (by omega)), if_pos ((pk_lLE (by omega) (by omega)).mpr q2)]
        refine ⟨(sF u1 6 a 1, .inr (nI ct)), w, 0, rfl, rfl, zfr_F f1 _ _, f2, Or.inr ⟨rfl, co, po, sg, bg, ct, k1, k2, q2, rfl, ?_, k5⟩⟩
        exact ⟨by simp [uf_F, m1], by simp [uf_F, m2], by simp [uf_F, m3], by simp [uf_F, m4], by simp [uf_F, m5], by simp [uf_F, m6], by simp [uf_F]; rfl⟩
      · rw [if_neg (nI_ge (by omega) (by omega)), if_neg (fun z => q2 ((pk_lLE (by omega) (by omega)).mp z))]
        exact ⟨(sF u1 6 a 1, .inl 4), w, 4, rfl, rfl, zfr_F f1 _ _, f2, Or.inl ⟨4, rfl, by decide, rfl⟩⟩
    · rw [if_neg (nI_ne0 (by omega) (by omega)), if_neg (nI_ne0 (by omega) (by omega))]
      exact ⟨(u1, .inl 3), w, 3, rfl, rfl, f1, f2, Or.inl ⟨3, rfl, by decide, rfl⟩⟩
