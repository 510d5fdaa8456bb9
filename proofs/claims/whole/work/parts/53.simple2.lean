/-! ===== the start ===== -/
def zrp (i : Nat) : Nat := if i < 4 then 3 + 2 * i else zzp (i + 3)
theorem zrp_lt : ∀ i, i < 7 → zrp i < 46 := by decide
theorem zrp_inj : ∀ i, i < 7 → ∀ j, j < 7 → zrp i = zrp j → i = j := by decide
theorem T_start {h0 : Nat} {f : Nat → Nat} (hg : ginj (gad h0 f)) : Rel (Zf (gad h0 f)) u00 v00 := by
  have e1 : ∀ i, rwz (Zf (gad h0 f)) i = gad h0 f (zrp i) := fun i => by
    unfold rwz zrp
    by_cases h : i < 4
    · rw [if_pos h, if_pos h]; rfl
    · rw [if_neg h, if_neg h]; rfl
  refine ⟨⟨fun i j hi hj e => ?_, fun i j hi hj e => ?_, fun i j hi hj e => ?_⟩, fun _ => 0, 0, 0, 63, 0, 0, ?_, gHND_0 rfl rfl rfl, ⟨by omega, rfl, rfl⟩, ⟨by omega, rfl, rfl, fun j q => absurd q (by omega)⟩, ⟨by omega, rfl, rfl, fun j q => absurd q (by omega)⟩⟩
  · rw [e1, e1] at e
    exact zrp_inj i hi j hj (hg _ _ (by have := zrp_lt i hi; omega) (by have := zrp_lt j hj; omega) e)
  · rw [e1, e1] at e
    have e2 : gad h0 f (zix (gad h0 f) (gad h0 f (zrp i)) 47 + 1) = gad h0 f (zix (gad h0 f) (gad h0 f (zrp j)) 47 + 1) := e
    have h1 := zrp_lt i hi
    have h2 := zrp_lt j hj
    rw [zix_eq hg (by omega), zix_eq hg (by omega)] at e2
    have := hg _ _ (by omega) (by omega) e2
    exact zrp_inj i hi j hj (by omega)
  · have e3 : ∀ i, i < 27 → fdz (Zf (gad h0 f)) i = gad h0 f (if i < 16 then 26 + i else if i < 26 then i - 1 else 42) := fun i hi => by
      unfold fdz
      by_cases h : i < 16
      · rw [if_pos h, if_pos h]; rfl
      · rw [if_neg h, if_neg h]
        by_cases h2 : i < 26
        · rw [if_pos h2, if_pos h2]
          show gad h0 f (15 + (i - 16)) = _
          rw [show 15 + (i - 16) = i - 1 by omega]
        · rw [if_neg h2, if_neg h2]
          rfl
    rw [e3 i hi, e3 j hj] at e
    have h1 := hg _ _ (by split <;> (try split) <;> omega) (by split <;> (try split) <;> omega) e
    split at h1 <;> split at h1 <;> (try split at h1) <;> (try split at h1) <;> omega
  · exact fun s hs => ⟨Nat.zero_le _, rfl, rfl, fun j q => absurd q (Nat.not_lt_zero _)⟩
/-! ===== whole rows ===== -/
def tW (v : MS) (k : Nat) (f : Nat → Int64) : MS := (v.1, v.2.1, v.2.2.1, mu v.2.2.2 k f)
theorem vi_W (v : MS) (k : Nat) (f : Nat → Int64) (j : Nat) : Vi (tW v k f) j = Vi v j := rfl
theorem vl_W (v : MS) (k : Nat) (f : Nat → Int64) (j : Nat) : Vl (tW v k f) j = Vl v j := rfl
theorem va_W' (v : MS) (k : Nat) (f : Nat → Int64) (j : Nat) : Va (tW v k f) j = Va v j := rfl
theorem vr_W (v : MS) (k : Nat) (f : Nat → Int64) (j : Nat) : Vr (tW v k f) j = if j = k then f else Vr v j := mu_if _ _ _ _
theorem tR_W (v : MS) (k j : Nat) (x : Int64) : tR v k j x = tW v k (vp_updL (Vr v k) j x) := rfl
theorem tW_W (v : MS) (k : Nat) (f g : Nat → Int64) : tW (tW v k f) k g = tW v k g := by
  show (v.1, v.2.1, v.2.2.1, mu (mu v.2.2.2 k f) k g) = _
  rw [mu_mu]
  rfl
theorem tW_same (v : MS) (k : Nat) : tW v k (Vr v k) = v := by
  show (v.1, v.2.1, v.2.2.1, mu v.2.2.2 k (v.2.2.2 k)) = _
  rw [mu_same]
def zcp (f g : Nat → Int64) (i n : Nat) : Nat → Int64 := fun j => if i ≤ j ∧ j < n then f j else g j
theorem zcp_0 (f g : Nat → Int64) {i n : Nat} (h : n ≤ i) : zcp f g i n = g := funext fun j => by
  unfold zcp
  rw [if_neg (by omega)]
theorem zcp_s (f g : Nat → Int64) {i n : Nat} (h : i < n) : zcp f (vp_updL g i (f i)) (i + 1) n = zcp f g i n := funext fun j => by
  unfold zcp vp_updL
  by_cases h1 : j = i
  · subst h1
    rw [if_neg (by omega), if_pos rfl, if_pos (by omega)]
  · by_cases h2 : i ≤ j ∧ j < n
    · rw [if_pos (by omega), if_pos h2]
    · rw [if_neg (by omega), if_neg h1, if_neg h2]
theorem m_adopt {fn : Nat} (hf : fn ≤ 64) : ∀ (c n i : Nat) (v : MS), i + c = fn → c < n → Vi v 23 = nI fn → pX6_adopt_36 n v (nI i) = some (tI (tA (tW v 1 (zcp (Vr v 24) (Vr v 1) i fn)) 2 0 (nI fn)) 13 0, 1) := by
  intro c
  induction c with
  | zero =>
    intro n i v hi hn h23
    obtain ⟨n, rfl⟩ : ∃ k, n = k + 1 := ⟨n - 1, by omega⟩
    rw [pX6_adopt_36_s, zcp_0 _ _ (by omega), tW_same]
    simp (disch := omega) [il0, il1, il2, il3, il4, il5, il6, il7, il8, il10, il16, il31, il32, il48, il35, il63, il64, ltT, ltF, leT, leF, eqT, eqF, inT, nI_clamp, nI_add, pk_sub, pk_mul, h23]
  | succ c ih =>
    intro n i v hi hn h23
    obtain ⟨n, rfl⟩ : ∃ k, n = k + 1 := ⟨n - 1, by omega⟩
    rw [pX6_adopt_36_s]
    simp (disch := omega) only [il0, il1, il2, il3, il4, il5, il6, il7, il8, il10, il16, il31, il32, il48, il35, il63, il64, ltT, ltF, leT, leF, eqT, eqF, inT, nI_clamp, nI_add, pk_sub, pk_mul, h23, Option.bind_some, if_true, if_false, ite_true, ite_false]
    rw [ih n (i + 1) _ (by omega) (by omega) (by simp [vi_I, vl_I, va_I, vr_I, vi_L, vl_L, va_L, vr_L, vi_A, vl_A, vA_A, vr_A, vi_R, vl_R, va_R, vr_R, h23]), tR_W, tW_W]
    simp only [vr_W, il1]
    simp only [if_true, show (24 : Nat) ≠ 1 by omega, if_false]
    rw [zcp_s _ _ (by omega)]
    rfl
theorem m_keep {fn : Nat} (hf : fn ≤ 64) : ∀ (c n i : Nat) (v : MS), i + c = fn → c < n → Vi v 23 = nI fn → pX6_keep_24 n v (nI i) = some (tW v 26 (zcp (Vr v 24) (Vr v 26) i fn), 1) := by
  intro c
  induction c with
  | zero =>
    intro n i v hi hn h23
    obtain ⟨n, rfl⟩ : ∃ k, n = k + 1 := ⟨n - 1, by omega⟩
    rw [pX6_keep_24_s, zcp_0 _ _ (by omega), tW_same]
    simp (disch := omega) [il0, il1, il2, il3, il4, il5, il6, il7, il8, il10, il16, il31, il32, il48, il35, il63, il64, ltT, ltF, leT, leF, eqT, eqF, inT, nI_clamp, nI_add, pk_sub, pk_mul, h23]
  | succ c ih =>
    intro n i v hi hn h23
    obtain ⟨n, rfl⟩ : ∃ k, n = k + 1 := ⟨n - 1, by omega⟩
    rw [pX6_keep_24_s]
    simp (disch := omega) only [il0, il1, il2, il3, il4, il5, il6, il7, il8, il10, il16, il31, il32, il48, il35, il63, il64, ltT, ltF, leT, leF, eqT, eqF, inT, nI_clamp, nI_add, pk_sub, pk_mul, h23, Option.bind_some, if_true, if_false, ite_true, ite_false]
    rw [ih n (i + 1) _ (by omega) (by omega) (by simp [vi_I, vl_I, va_I, vr_I, vi_L, vl_L, va_L, vr_L, vi_A, vl_A, vA_A, vr_A, vi_R, vl_R, va_R, vr_R, h23]), tR_W, tW_W]
    simp only [vr_W, il1]
    simp only [if_true, show (24 : Nat) ≠ 26 by omega, if_false]
    rw [zcp_s _ _ (by omega)]
theorem m_form {fn : Nat} (hf : fn ≤ 64) : ∀ (c n i : Nat) (v : MS), i + c = fn → c < n → Vi v 21 = nI fn → pX6_form_185 n v (nI i) = some (tW v 24 (zcp (Vr v 22) (Vr v 24) i fn), nI fn) := by
  intro c
  induction c with
  | zero =>
    intro n i v hi hn h23
    obtain ⟨n, rfl⟩ : ∃ k, n = k + 1 := ⟨n - 1, by omega⟩
    rw [pX6_form_185_s, zcp_0 _ _ (by omega), tW_same]
    simp (disch := omega) [il0, il1, il2, il3, il4, il5, il6, il7, il8, il10, il16, il31, il32, il48, il35, il63, il64, ltT, ltF, leT, leF, eqT, eqF, inT, nI_clamp, nI_add, pk_sub, pk_mul, h23]
  | succ c ih =>
    intro n i v hi hn h23
    obtain ⟨n, rfl⟩ : ∃ k, n = k + 1 := ⟨n - 1, by omega⟩
    rw [pX6_form_185_s]
    simp (disch := omega) only [il0, il1, il2, il3, il4, il5, il6, il7, il8, il10, il16, il31, il32, il48, il35, il63, il64, ltT, ltF, leT, leF, eqT, eqF, inT, nI_clamp, nI_add, pk_sub, pk_mul, h23, Option.bind_some, if_true, if_false, ite_true, ite_false]
    rw [ih n (i + 1) _ (by omega) (by omega) (by simp [vi_I, vl_I, va_I, vr_I, vi_L, vl_L, va_L, vr_L, vi_A, vl_A, vA_A, vr_A, vi_R, vl_R, va_R, vr_R, h23]), tR_W, tW_W]
    simp only [vr_W]
    simp only [if_true, show (22 : Nat) ≠ 24 by omega, if_false]
    rw [zcp_s _ _ (by omega)]
theorem c_become {Z : CZ} {u : CS} {a b n : Nat} (h : Us u b = nI n) (hn : n ≤ 64) : pX4_become Z u a b = some (sS (sC u (Zc Z a) (zcp (Uc u (Zc Z b)) (Uc u (Zc Z a)) 0 n)) a (nI n), ()) := by
  have e : va_cpy (Uc u (Zc Z b)) (Uc u (Zc Z a)) (0 : Int32).toNatClampNeg (0 : Int32).toNatClampNeg (nI n).toNatClampNeg = zcp (Uc u (Zc Z b)) (Uc u (Zc Z a)) 0 n := funext fun j => by
    rw [nI_clamp (by omega)]
    show va_cpy _ _ 0 0 n j = _
    unfold zcp
    by_cases hj : j < n
    · rw [pk_cpy_in (by omega) (by omega), if_pos ⟨by omega, hj⟩]
      congr 1
      omega
    · rw [pk_cpy_out (by omega), if_neg (by omega)]
  unfold pX4_become
  rw [h, e]
  simp (disch := omega) [il0, il1, il2, il3, il4, il5, il6, il7, il8, il10, il16, il31, il32, il48, il35, il63, il64, ltT, ltF, leT, leF, eqT, eqF, inT, nI_clamp, nI_add, pk_sub, pk_mul, hn]
/-! ===== change, cut ===== -/
theorem c_hasWords {Z : CZ} {u : CS} {s c a b : Nat} (hs : s < 4) (h : Us u (Zs Z s) = nI c) (hc : c ≤ 64) (ha : a < 2147483648) (hb : b < 2147483648) : pX3_hasWords Z u (nI s) (nI a) (nI b) = some (if a ≤ c ∧ a + b ≤ c then nI 1 else nI 0) := by
  unfold pX3_hasWords
  by_cases h1 : a ≤ c
  · by_cases h2 : a + b ≤ c
    · simp (disch := omega) [il0, il1, il2, il3, il4, il5, il6, il7, il8, il10, il16, il31, il32, il48, il35, il63, il64, ltT, ltF, leT, leF, eqT, eqF, inT, nI_clamp, nI_add, pk_sub, pk_mul, h, h1, h2]
    · simp (disch := omega) [il0, il1, il2, il3, il4, il5, il6, il7, il8, il10, il16, il31, il32, il48, il35, il63, il64, ltT, ltF, leT, leF, eqT, eqF, inT, nI_clamp, nI_add, pk_sub, pk_mul, h, h1, h2]
  · simp (disch := omega) [il0, il1, il2, il3, il4, il5, il6, il7, il8, il10, il16, il31, il32, il48, il35, il63, il64, ltT, ltF, leT, leF, eqT, eqF, inT, nI_clamp, nI_add, pk_sub, pk_mul, h, h1]
theorem c_hasWords0 {Z : CZ} {u : CS} {s : Nat} {a b : Int32} (hs : 4 ≤ s) (hs2 : s < 2147483648) : pX3_hasWords Z u (nI s) a b = some (nI 0) := by
  simp (disch := omega) [pX3_hasWords, il0, il1, il2, il3, il4, il5, il6, il7, il8, il10, il16, il31, il32, il48, il35, il63, il64, ltT, ltF, leT, leF, eqT, eqF, inT, nI_clamp, nI_add, pk_sub, pk_mul]
theorem c_hasWordsN {Z : CZ} {u : CS} {s a b : Int32} (hs : s < 0) : pX3_hasWords Z u s a b = some (nI 0) := by
  simp [pX3_hasWords, hs]; rfl
theorem c_hasWordsM {Z : CZ} {u : CS} {s c : Nat} {a b : Int32} (hs : s < 4) (h : Us u (Zs Z s) = nI c) (ha : a < 0) : pX3_hasWords Z u (nI s) a b = some (nI 0) := by
  simp (disch := omega) [pX3_hasWords, il0, il1, il2, il3, il4, il5, il6, il7, il8, il10, il16, il31, il32, il48, il35, il63, il64, ltT, ltF, leT, leF, eqT, eqF, inT, nI_clamp, nI_add, pk_sub, pk_mul, ngT ha]
theorem T_change {Z : CZ} {u : CS} {v : MS} (hR : Rel Z u v) (a1 a2 : Int32) (a3 : Int64) : ∃ u' v' r, pX5_change Z u a1 a2 a3 = some (u', r) ∧ pX6_change v a1 a2 a3 = some (v', r) ∧ Rel Z u' v' := by
  have hR0 := Rel_0 hR 0
  rcases negI a1 with h | ⟨s, hs, rfl⟩
  · refine ⟨u, tI v 0 0, 0, ?_, ?_, hR0⟩
    · simp [pX5_change, c_hasWordsN h, nI_0]
    · simp [pX6_change, pX6_isWord, h]
  · by_cases h4 : s < 4
    · obtain ⟨hd, cn, hn, l, b, fn, kn, hM, hH, hB, hF, hK⟩ := hR
      obtain ⟨c1, c2, c3, c4⟩ := hM s h4
      rcases negI a2 with h | ⟨i, hi, rfl⟩
      · refine ⟨u, tI v 0 0, 0, ?_, ?_, hR0⟩
        · simp [pX5_change, c_hasWordsM h4 c2 h, nI_0]
        · simp (disch := omega) [pX6_change, pX6_isWord, il0, il1, il2, il3, il4, il5, il6, il7, il8, il10, il16, il31, il32, il48, il35, il63, il64, ltT, ltF, leT, leF, eqT, eqF, inT, nI_clamp, nI_add, pk_sub, pk_mul, ngT h]
      · have e1 := c_hasWords (Z := Z) h4 c2 c1 hi (show 1 < 2147483648 by omega)
        by_cases h5 : i < cn s
        · refine ⟨sI (sI (sC u (Zc Z (Zs Z s)) (vp_updL (Uc u (Zc Z (Zs Z s))) i a3)) 1 0) 2 0, tI (tR (tI v 0 0) 1 (64 * s + i) a3) 13 0, 1, ?_, ?_, ?_⟩
          · rw [if_pos (by omega)] at e1
            simp (disch := omega) [pX5_change, pX3_row, pX4_put, pX5_endHandles, il0, il1, il2, il3, il4, il5, il6, il7, il8, il10, il16, il31, il32, il48, il35, il63, il64, ltT, ltF, leT, leF, eqT, eqF, inT, nI_clamp, nI_add, pk_sub, pk_mul, uf_F, us_F, uc_F, ui_F, uf_S, us_S, uc_S, ui_S, uf_C, us_C, uc_C, ui_C, uf_I, us_I, uc_I, ui_I, c2, e1]
          · simp (disch := omega) [pX6_change, pX6_isWord, il0, il1, il2, il3, il4, il5, il6, il7, il8, il10, il16, il31, il32, il48, il35, il63, il64, ltT, ltF, leT, leF, eqT, eqF, inT, nI_clamp, nI_add, pk_sub, pk_mul, vi_I, vl_I, va_I, vr_I, vi_L, vl_L, va_L, vr_L, vi_A, vl_A, vA_A, vr_A, vi_R, vl_R, va_R, vr_R, c3]
          · refine ⟨hd, cn, 0, 0, b, fn, kn, ?_, gHND_0 (by simp [ui_I, nI_0]) (by simp [ui_I, nI_0]) (by simp [vi_I, nI_0]), gBUD_fr hB (by simp [ui_I, uf_F, us_F, uc_F, ui_F, uf_S, us_S, uc_S, ui_S, uf_C, us_C, uc_C, ui_C, uf_I, us_I, uc_I, ui_I]) (by simp [vi_I, vl_I, va_I, vr_I, vi_L, vl_L, va_L, vr_L, vi_A, vl_A, vA_A, vr_A, vi_R, vl_R, va_R, vr_R]), gFRM_fr hF (by simp [uf_F, us_F, uc_F, ui_F, uf_S, us_S, uc_S, ui_S, uf_C, us_C, uc_C, ui_C, uf_I, us_I, uc_I, ui_I]) ?_ (by simp [vi_I, vl_I, va_I, vr_I, vi_L, vl_L, va_L, vr_L, vi_A, vl_A, vA_A, vr_A, vi_R, vl_R, va_R, vr_R]) (by simp [vr_R', vi_I, vl_I, va_I, vr_I, vi_L, vl_L, va_L, vr_L, vi_A, vl_A, vA_A, vr_A, vi_R, vl_R, va_R, vr_R]), gKPT_fr hK (by simp [uf_F, us_F, uc_F, ui_F, uf_S, us_S, uc_S, ui_S, uf_C, us_C, uc_C, ui_C, uf_I, us_I, uc_I, ui_I]) ?_ (by simp [vi_I, vl_I, va_I, vr_I, vi_L, vl_L, va_L, vr_L, vi_A, vl_A, vA_A, vr_A, vi_R, vl_R, va_R, vr_R]) (by simp [vr_R', vi_I, vl_I, va_I, vr_I, vi_L, vl_L, va_L, vr_L, vi_A, vl_A, vA_A, vr_A, vi_R, vl_R, va_R, vr_R])⟩
            · intro t ht
              obtain ⟨d1, d2, d3, d4⟩ := hM t ht
              by_cases e : t = s
              · subst e
                refine ⟨d1, by simp [uf_F, us_F, uc_F, ui_F, uf_S, us_S, uc_S, ui_S, uf_C, us_C, uc_C, ui_C, uf_I, us_I, uc_I, ui_I]; exact d2, by simp [vi_I, vl_I, va_I, vr_I, vi_L, vl_L, va_L, vr_L, vi_A, vl_A, vA_A, vr_A, vi_R, vl_R, va_R, vr_R]; exact d3, fun j hj => ?_⟩
                by_cases hj2 : j = i
                · simp [uf_F, us_F, uc_F, ui_F, uf_S, us_S, uc_S, ui_S, uf_C, us_C, uc_C, ui_C, uf_I, us_I, uc_I, ui_I, vi_I, vl_I, va_I, vr_I, vi_L, vl_L, va_L, vr_L, vi_A, vl_A, vA_A, vr_A, vi_R, vl_R, va_R, vr_R, vp_updL, hj2]
                · simp (disch := omega) [uf_F, us_F, uc_F, ui_F, uf_S, us_S, uc_S, ui_S, uf_C, us_C, uc_C, ui_C, uf_I, us_I, uc_I, ui_I, vi_I, vl_I, va_I, vr_I, vi_L, vl_L, va_L, vr_L, vi_A, vl_A, vA_A, vr_A, vi_R, vl_R, va_R, vr_R, vp_updL, hj2]
                  exact d4 j (by omega)
              · have e2 : ¬ Zc Z (Zs Z t) = Zc Z (Zs Z s) := by rw [rw_s ht, rw_s h4]; exact zd_c hd (by omega) (by omega) e
                refine ⟨d1, by simp [uf_F, us_F, uc_F, ui_F, uf_S, us_S, uc_S, ui_S, uf_C, us_C, uc_C, ui_C, uf_I, us_I, uc_I, ui_I]; exact d2, by simp [vi_I, vl_I, va_I, vr_I, vi_L, vl_L, va_L, vr_L, vi_A, vl_A, vA_A, vr_A, vi_R, vl_R, va_R, vr_R]; exact d3, fun j hj => ?_⟩
                simp (disch := omega) [uf_F, us_F, uc_F, ui_F, uf_S, us_S, uc_S, ui_S, uf_C, us_C, uc_C, ui_C, uf_I, us_I, uc_I, ui_I, vi_I, vl_I, va_I, vr_I, vi_L, vl_L, va_L, vr_L, vi_A, vl_A, vA_A, vr_A, vi_R, vl_R, va_R, vr_R, e2]
                rw [if_neg (by omega)]
                exact d4 j hj
            · simp [uf_F, us_F, uc_F, ui_F, uf_S, us_S, uc_S, ui_S, uf_C, us_C, uc_C, ui_C, uf_I, us_I, uc_I, ui_I, rw_7, rw_s h4, rcI hd (show 4 < 7 by omega) (show s < 7 by omega)]
              intro q; omega
            · simp [uf_F, us_F, uc_F, ui_F, uf_S, us_S, uc_S, ui_S, uf_C, us_C, uc_C, ui_C, uf_I, us_I, uc_I, ui_I, rw_8, rw_s h4, rcI hd (show 5 < 7 by omega) (show s < 7 by omega)]
              intro q; omega
        · rw [if_neg (by omega)] at e1
          refine ⟨u, tI v 0 0, 0, ?_, ?_, hR0⟩
          · simp (disch := omega) [pX5_change, e1, il0, il1, il2, il3, il4, il5, il6, il7, il8, il10, il16, il31, il32, il48, il35, il63, il64, ltT, ltF, leT, leF, eqT, eqF, inT, nI_clamp, nI_add, pk_sub, pk_mul]
          · simp (disch := omega) [pX6_change, pX6_isWord, il0, il1, il2, il3, il4, il5, il6, il7, il8, il10, il16, il31, il32, il48, il35, il63, il64, ltT, ltF, leT, leF, eqT, eqF, inT, nI_clamp, nI_add, pk_sub, pk_mul, vi_I, vl_I, va_I, vr_I, vi_L, vl_L, va_L, vr_L, vi_A, vl_A, vA_A, vr_A, vi_R, vl_R, va_R, vr_R, c3]
    · refine ⟨u, tI v 0 0, 0, ?_, ?_, hR0⟩
      · simp (disch := omega) [pX5_change, c_hasWords0 (Z := Z) (show 4 ≤ s by omega) hs, nI_0]
      · simp (disch := omega) [pX6_change, pX6_isWord, il0, il1, il2, il3, il4, il5, il6, il7, il8, il10, il16, il31, il32, il48, il35, il63, il64, ltT, ltF, leT, leF, eqT, eqF, inT, nI_clamp, nI_add, pk_sub, pk_mul]
theorem T_cut {Z : CZ} {u : CS} {v : MS} (hR : Rel Z u v) (a1 a2 : Int32) : ∃ u' v' r, pX5_cut Z u a1 a2 = some (u', r) ∧ pX6_cut v a1 a2 = some (v', r) ∧ Rel Z u' v' := by
  have hR0 := Rel_0 hR 0
  rcases negI a2 with h | ⟨n, hn2, rfl⟩
  · refine ⟨u, tI v 0 0, 0, ?_, ?_, hR0⟩
    · simp [pX5_cut, h]
    · simp [pX6_cut, h]
  rcases negI a1 with h | ⟨s, hs, rfl⟩
  · refine ⟨u, tI v 0 0, 0, ?_, ?_, hR0⟩
    · simp [pX5_cut, c_hasWordsN h, nI_0]
    · simp [pX6_cut, h]
  · by_cases h4 : s < 4
    · obtain ⟨hd, cn, hn, l, b, fn, kn, hM, hH, hB, hF, hK⟩ := hR
      obtain ⟨c1, c2, c3, c4⟩ := hM s h4
      have e1 := c_hasWords (Z := Z) h4 c2 c1 (show 0 < 2147483648 by omega) hn2
      by_cases h5 : n ≤ cn s
      · refine ⟨sI (sI (sS u (Zs Z s) (nI n)) 1 0) 2 0, tI (tA (tI v 0 0) 2 s (nI n)) 13 0, 1, ?_, ?_, ?_⟩
        · rw [if_pos (by omega)] at e1
          simp (disch := omega) [pX5_cut, pX3_row, pX5_endHandles, il0, il1, il2, il3, il4, il5, il6, il7, il8, il10, il16, il31, il32, il48, il35, il63, il64, ltT, ltF, leT, leF, eqT, eqF, inT, nI_clamp, nI_add, pk_sub, pk_mul, uf_F, us_F, uc_F, ui_F, uf_S, us_S, uc_S, ui_S, uf_C, us_C, uc_C, ui_C, uf_I, us_I, uc_I, ui_I, c2, e1]
        · simp (disch := omega) [pX6_cut, il0, il1, il2, il3, il4, il5, il6, il7, il8, il10, il16, il31, il32, il48, il35, il63, il64, ltT, ltF, leT, leF, eqT, eqF, inT, nI_clamp, nI_add, pk_sub, pk_mul, vi_I, vl_I, va_I, vr_I, vi_L, vl_L, va_L, vr_L, vi_A, vl_A, vA_A, vr_A, vi_R, vl_R, va_R, vr_R, c3]
        · refine ⟨hd, fun t => if t = s then n else cn t, 0, 0, b, fn, kn, ?_, gHND_0 (by simp [ui_I, nI_0]) (by simp [ui_I, nI_0]) (by simp [vi_I, nI_0]), gBUD_fr hB (by simp [ui_I, uf_F, us_F, uc_F, ui_F, uf_S, us_S, uc_S, ui_S, uf_C, us_C, uc_C, ui_C, uf_I, us_I, uc_I, ui_I]) (by simp [vi_I, vl_I, va_I, vr_I, vi_L, vl_L, va_L, vr_L, vi_A, vl_A, vA_A, vr_A, vi_R, vl_R, va_R, vr_R]), gFRM_fr hF ?_ (by simp [uf_F, us_F, uc_F, ui_F, uf_S, us_S, uc_S, ui_S, uf_C, us_C, uc_C, ui_C, uf_I, us_I, uc_I, ui_I]) (by simp [vi_I, vl_I, va_I, vr_I, vi_L, vl_L, va_L, vr_L, vi_A, vl_A, vA_A, vr_A, vi_R, vl_R, va_R, vr_R]) (by simp [vi_I, vl_I, va_I, vr_I, vi_L, vl_L, va_L, vr_L, vi_A, vl_A, vA_A, vr_A, vi_R, vl_R, va_R, vr_R]), gKPT_fr hK ?_ (by simp [uf_F, us_F, uc_F, ui_F, uf_S, us_S, uc_S, ui_S, uf_C, us_C, uc_C, ui_C, uf_I, us_I, uc_I, ui_I]) (by simp [vi_I, vl_I, va_I, vr_I, vi_L, vl_L, va_L, vr_L, vi_A, vl_A, vA_A, vr_A, vi_R, vl_R, va_R, vr_R]) (by simp [vi_I, vl_I, va_I, vr_I, vi_L, vl_L, va_L, vr_L, vi_A, vl_A, vA_A, vr_A, vi_R, vl_R, va_R, vr_R])⟩
          · intro t ht
            obtain ⟨d1, d2, d3, d4⟩ := hM t ht
            by_cases e : t = s
            · subst e
              refine ⟨by simp; omega, by simp [uf_F, us_F, uc_F, ui_F, uf_S, us_S, uc_S, ui_S, uf_C, us_C, uc_C, ui_C, uf_I, us_I, uc_I, ui_I], by simp [vi_I, vl_I, va_I, vr_I, vi_L, vl_L, va_L, vr_L, vi_A, vl_A, vA_A, vr_A, vi_R, vl_R, va_R, vr_R], fun j hj => ?_⟩
              simp only [if_true] at hj
              simp [uf_F, us_F, uc_F, ui_F, uf_S, us_S, uc_S, ui_S, uf_C, us_C, uc_C, ui_C, uf_I, us_I, uc_I, ui_I, vi_I, vl_I, va_I, vr_I, vi_L, vl_L, va_L, vr_L, vi_A, vl_A, vA_A, vr_A, vi_R, vl_R, va_R, vr_R]
              exact d4 j (by omega)
            · have e1 : ¬ Zs Z t = Zs Z s := by rw [rw_s ht, rw_s h4]; exact zd_r hd (by omega) (by omega) e
              refine ⟨by simp [e]; exact d1, by simp [uf_F, us_F, uc_F, ui_F, uf_S, us_S, uc_S, ui_S, uf_C, us_C, uc_C, ui_C, uf_I, us_I, uc_I, ui_I, e, e1]; exact d2, by simp [vi_I, vl_I, va_I, vr_I, vi_L, vl_L, va_L, vr_L, vi_A, vl_A, vA_A, vr_A, vi_R, vl_R, va_R, vr_R, e]; exact d3, fun j hj => ?_⟩
              simp only [e, if_false] at hj
              simp (disch := omega) [uf_F, us_F, uc_F, ui_F, uf_S, us_S, uc_S, ui_S, uf_C, us_C, uc_C, ui_C, uf_I, us_I, uc_I, ui_I, vi_I, vl_I, va_I, vr_I, vi_L, vl_L, va_L, vr_L, vi_A, vl_A, vA_A, vr_A, vi_R, vl_R, va_R, vr_R]
              exact d4 j hj
          · simp [uf_F, us_F, uc_F, ui_F, uf_S, us_S, uc_S, ui_S, uf_C, us_C, uc_C, ui_C, uf_I, us_I, uc_I, ui_I, rw_7, rw_s h4, rwI hd (show 4 < 7 by omega) (show s < 7 by omega)]
            intro q; omega
          · simp [uf_F, us_F, uc_F, ui_F, uf_S, us_S, uc_S, ui_S, uf_C, us_C, uc_C, ui_C, uf_I, us_I, uc_I, ui_I, rw_8, rw_s h4, rwI hd (show 5 < 7 by omega) (show s < 7 by omega)]
            intro q; omega
      · rw [if_neg (by omega)] at e1
        refine ⟨u, tI v 0 0, 0, ?_, ?_, hR0⟩
        · simp (disch := omega) [pX5_cut, e1, il0, il1, il2, il3, il4, il5, il6, il7, il8, il10, il16, il31, il32, il48, il35, il63, il64, ltT, ltF, leT, leF, eqT, eqF, inT, nI_clamp, nI_add, pk_sub, pk_mul]
        · simp (disch := omega) [pX6_cut, il0, il1, il2, il3, il4, il5, il6, il7, il8, il10, il16, il31, il32, il48, il35, il63, il64, ltT, ltF, leT, leF, eqT, eqF, inT, nI_clamp, nI_add, pk_sub, pk_mul, vi_I, vl_I, va_I, vr_I, vi_L, vl_L, va_L, vr_L, vi_A, vl_A, vA_A, vr_A, vi_R, vl_R, va_R, vr_R, c3]
    · refine ⟨u, tI v 0 0, 0, ?_, ?_, hR0⟩
      · simp (disch := omega) [pX5_cut, c_hasWords0 (Z := Z) (show 4 ≤ s by omega) hs, il0, il1, il2, il3, il4, il5, il6, il7, il8, il10, il16, il31, il32, il48, il35, il63, il64, ltT, ltF, leT, leF, eqT, eqF, inT, nI_clamp, nI_add, pk_sub, pk_mul]
      · simp (disch := omega) [pX6_cut, il0, il1, il2, il3, il4, il5, il6, il7, il8, il10, il16, il31, il32, il48, il35, il63, il64, ltT, ltF, leT, leF, eqT, eqF, inT, nI_clamp, nI_add, pk_sub, pk_mul]
/-! ===== formed, adopt, keep, same ===== -/
theorem m1N : (-1 : Int32) < 0 := by decide
theorem T_formed {Z : CZ} {u : CS} {v : MS} (hR : Rel Z u v) (a1 : Int32) : ∃ v' r, pX5_formed Z u a1 = some r ∧ pX6_formed v a1 = some (v', r) ∧ Rel Z u v' := by
  refine ⟨tI v 0 0, ?_⟩
  have hR0 := Rel_0 hR 0
  obtain ⟨hd, cn, hn, l, b, fn, kn, hM, hH, hB, ⟨f1, f2, f3, f4⟩, hK⟩ := hR
  rcases negI a1 with h | ⟨i, hi, rfl⟩
  · refine ⟨0, ?_, ?_, hR0⟩
    · simp [pX5_formed, pX4_at, h]
    · simp [pX6_formed, h]
  · by_cases h : i < fn
    · refine ⟨Vr v 24 i, ?_, ?_, hR0⟩
      · simp (disch := omega) [pX5_formed, pX4_at, il0, il1, il2, il3, il4, il5, il6, il7, il8, il10, il16, il31, il32, il48, il35, il63, il64, ltT, ltF, leT, leF, eqT, eqF, inT, nI_clamp, nI_add, pk_sub, pk_mul, f2, f4]
      · rw [if_neg (by omega)] at f3
        simp (disch := omega) [pX6_formed, il0, il1, il2, il3, il4, il5, il6, il7, il8, il10, il16, il31, il32, il48, il35, il63, il64, ltT, ltF, leT, leF, eqT, eqF, inT, nI_clamp, nI_add, pk_sub, pk_mul, f3]
    · refine ⟨0, ?_, ?_, hR0⟩
      · simp (disch := omega) [pX5_formed, pX4_at, il0, il1, il2, il3, il4, il5, il6, il7, il8, il10, il16, il31, il32, il48, il35, il63, il64, ltT, ltF, leT, leF, eqT, eqF, inT, nI_clamp, nI_add, pk_sub, pk_mul, f2]
      · by_cases h0 : fn = 0
        · rw [if_pos h0] at f3
          have q : ¬ nI i < -1 := fun e => by
            have := ngLt0 m1N hi
            have e2 := Int32.lt_iff_toInt_lt.mp e
            rw [nI_toInt hi] at e2
            have h3 : (-1 : Int32).toInt = -1 := rfl
            omega
          have q0 : ¬ nI i < 0 := nI_pos hi
          simp [pX6_formed, f3, q0, q]
        · rw [if_neg h0] at f3
          simp (disch := omega) [pX6_formed, il0, il1, il2, il3, il4, il5, il6, il7, il8, il10, il16, il31, il32, il48, il35, il63, il64, ltT, ltF, leT, leF, eqT, eqF, inT, nI_clamp, nI_add, pk_sub, pk_mul, f3]
theorem T_keep {Z : CZ} {u : CS} {v : MS} (hR : Rel Z u v) : ∃ u' v' r, pX5_keep Z u = some (u', r) ∧ pX6_keep v = some (v', r) ∧ Rel Z u' v' := by
  have hR0 := Rel_0 hR 0
  obtain ⟨hd, cn, hn, l, b, fn, kn, hM, hH, hB, ⟨f1, f2, f3, f4⟩, hK⟩ := hR
  by_cases h : fn = 0
  · subst h
    refine ⟨u, tI v 0 0, 0, ?_, ?_, hR0⟩
    · simp [pX5_keep, f2, nI_0]
    · have q : ¬ (0 : Int32) ≤ -1 := by decide
      simp [pX6_keep, f3, q]
  · rw [if_neg h] at f3
    have e := m_keep f1 fn 300 0 (tI (tI v 0 0) 25 (nI fn)) (by omega) (by omega) (by simp [vi_I, vl_I, va_I, vr_I, vi_L, vl_L, va_L, vr_L, vi_A, vl_A, vA_A, vr_A, vi_R, vl_R, va_R, vr_R, f3])
    refine ⟨sS (sC u (Zc Z (Zz Z 8)) (zcp (Uc u (Zc Z (Zz Z 7))) (Uc u (Zc Z (Zz Z 8))) 0 fn)) (Zz Z 8) (nI fn), tW (tI (tI v 0 0) 25 (nI fn)) 26 (zcp (Vr v 24) (Vr v 26) 0 fn), 1, ?_, ?_, hd, cn, hn, l, b, fn, fn, ?_⟩
    · unfold pX5_keep
      rw [c_become f2 f1, f2]
      simp (disch := omega) only [il0, il1, il2, il3, il4, il5, il6, il7, il8, il10, il16, il31, il32, il48, il35, il63, il64, ltT, ltF, leT, leF, eqT, eqF, inT, nI_clamp, nI_add, pk_sub, pk_mul, Option.bind_some, if_true, if_false, ite_true, ite_false]
    · unfold pX6_keep
      rw [f3]
      simp (disch := omega) only [il0, il1, il2, il3, il4, il5, il6, il7, il8, il10, il16, il31, il32, il48, il35, il63, il64, ltT, ltF, leT, leF, eqT, eqF, inT, nI_clamp, nI_add, pk_sub, pk_mul, Option.bind_some, if_true, if_false, ite_true, ite_false] at e ⊢
      exact e
    · refine ⟨gMSG_fr hM ?_ ?_ (by simp [vi_I, vl_I, va_I, vr_I, vi_L, vl_L, va_L, vr_L, vi_A, vl_A, vA_A, vr_A, vi_R, vl_R, va_R, vr_R, va_W']) (by simp [vi_I, vl_I, va_I, vr_I, vi_L, vl_L, va_L, vr_L, vi_A, vl_A, vA_A, vr_A, vi_R, vl_R, va_R, vr_R, vr_W]), gHND_fr hH (by simp [uf_F, us_F, uc_F, ui_F, uf_S, us_S, uc_S, ui_S, uf_C, us_C, uc_C, ui_C, uf_I, us_I, uc_I, ui_I]) (by simp [uf_F, us_F, uc_F, ui_F, uf_S, us_S, uc_S, ui_S, uf_C, us_C, uc_C, ui_C, uf_I, us_I, uc_I, ui_I]) (fun _ _ _ => rfl) (by simp [vi_I, vl_I, va_I, vr_I, vi_L, vl_L, va_L, vr_L, vi_A, vl_A, vA_A, vr_A, vi_R, vl_R, va_R, vr_R, vi_W]) (by simp [vi_I, vl_I, va_I, vr_I, vi_L, vl_L, va_L, vr_L, vi_A, vl_A, vA_A, vr_A, vi_R, vl_R, va_R, vr_R, vi_W]) (fun _ _ _ _ _ => rfl), gBUD_fr hB (by simp [uf_F, us_F, uc_F, ui_F, uf_S, us_S, uc_S, ui_S, uf_C, us_C, uc_C, ui_C, uf_I, us_I, uc_I, ui_I]) (by simp [vi_I, vl_I, va_I, vr_I, vi_L, vl_L, va_L, vr_L, vi_A, vl_A, vA_A, vr_A, vi_R, vl_R, va_R, vr_R, vi_W]), ⟨f1, ?_, ?_, ?_⟩, ⟨f1, ?_, ?_, ?_⟩⟩
      · intro s hs
        simp [uf_F, us_F, uc_F, ui_F, uf_S, us_S, uc_S, ui_S, uf_C, us_C, uc_C, ui_C, uf_I, us_I, uc_I, ui_I, rw_8, rw_s hs, rwI hd (show s < 7 by omega) (show 5 < 7 by omega)]
        intro q; omega
      · intro s hs
        simp [uf_F, us_F, uc_F, ui_F, uf_S, us_S, uc_S, ui_S, uf_C, us_C, uc_C, ui_C, uf_I, us_I, uc_I, ui_I, rw_8, rw_s hs, rcI hd (show s < 7 by omega) (show 5 < 7 by omega)]
        intro q; omega
      · simp [uf_F, us_F, uc_F, ui_F, uf_S, us_S, uc_S, ui_S, uf_C, us_C, uc_C, ui_C, uf_I, us_I, uc_I, ui_I, rw_7, rw_8, rwI hd (show 4 < 7 by omega) (show 5 < 7 by omega)]
        rw [← rw_7]; exact f2
      · rw [if_neg h]
        simp [vi_I, vl_I, va_I, vr_I, vi_L, vl_L, va_L, vr_L, vi_A, vl_A, vA_A, vr_A, vi_R, vl_R, va_R, vr_R, vi_W, f3]
      · intro j hj
        simp [uf_F, us_F, uc_F, ui_F, uf_S, us_S, uc_S, ui_S, uf_C, us_C, uc_C, ui_C, uf_I, us_I, uc_I, ui_I, rw_7, rw_8, rcI hd (show 4 < 7 by omega) (show 5 < 7 by omega), vr_W, vi_I, vl_I, va_I, vr_I, vi_L, vl_L, va_L, vr_L, vi_A, vl_A, vA_A, vr_A, vi_R, vl_R, va_R, vr_R]
        rw [← rw_7]
        exact f4 j hj
      · simp [uf_F, us_F, uc_F, ui_F, uf_S, us_S, uc_S, ui_S, uf_C, us_C, uc_C, ui_C, uf_I, us_I, uc_I, ui_I]
      · rw [if_neg h]
        simp [vi_I, vl_I, va_I, vr_I, vi_L, vl_L, va_L, vr_L, vi_A, vl_A, vA_A, vr_A, vi_R, vl_R, va_R, vr_R, vi_W]
      · intro j hj
        simp [uf_F, us_F, uc_F, ui_F, uf_S, us_S, uc_S, ui_S, uf_C, us_C, uc_C, ui_C, uf_I, us_I, uc_I, ui_I, vr_W, vi_I, vl_I, va_I, vr_I, vi_L, vl_L, va_L, vr_L, vi_A, vl_A, vA_A, vr_A, vi_R, vl_R, va_R, vr_R, zcp, hj]
        exact f4 j hj
theorem T_adopt {Z : CZ} {u : CS} {v : MS} (hR : Rel Z u v) : ∃ u' v' r, pX5_adopt Z u = some (u', r) ∧ pX6_adopt v = some (v', r) ∧ Rel Z u' v' := by
  have hR0 := Rel_0 hR 0
  obtain ⟨hd, cn, hn, l, b, fn, kn, hM, hH, hB, ⟨f1, f2, f3, f4⟩, hK⟩ := hR
  by_cases h : fn = 0
  · subst h
    refine ⟨u, tI v 0 0, 0, ?_, ?_, hR0⟩
    · simp [pX5_adopt, f2, nI_0]
    · have q : ¬ (0 : Int32) ≤ -1 := by decide
      simp [pX6_adopt, f3, q]
  · rw [if_neg h] at f3
    have e := m_adopt f1 fn 300 0 (tA (tA (tA (tA (tI v 0 0) 2 0 0) 2 1 0) 2 2 0) 2 3 0) (by omega) (by omega) (by simp [vi_I, vl_I, va_I, vr_I, vi_L, vl_L, va_L, vr_L, vi_A, vl_A, vA_A, vr_A, vi_R, vl_R, va_R, vr_R, f3])
    refine ⟨sI (sI (sS (sS (sS (sS (sC u (Zc Z (Zs Z 0)) (zcp (Uc u (Zc Z (Zz Z 7))) (Uc u (Zc Z (Zs Z 0))) 0 fn)) (Zs Z 0) (nI fn)) (Zs Z 1) 0) (Zs Z 2) 0) (Zs Z 3) 0) 1 0) 2 0, tI (tA (tW (tA (tA (tA (tA (tI v 0 0) 2 0 0) 2 1 0) 2 2 0) 2 3 0) 1 (zcp (Vr v 24) (Vr v 1) 0 fn)) 2 0 (nI fn)) 13 0, 1, ?_, ?_, hd, fun t => if t = 0 then fn else 0, 0, 0, b, fn, kn, ?_⟩
    · unfold pX5_adopt
      simp (disch := omega) only [il0, il1, il2, il3, il4, il5, il6, il7, il8, il10, il16, il31, il32, il48, il35, il63, il64, ltT, ltF, leT, leF, eqT, eqF, inT, nI_clamp, nI_add, pk_sub, pk_mul, Option.bind_some, if_true, if_false, ite_true, ite_false, f2, pX3_row, pX5_endHandles, c_become f2 f1]
    · unfold pX6_adopt
      rw [f3]
      simp (disch := omega) only [il0, il1, il2, il3, il4, il5, il6, il7, il8, il10, il16, il31, il32, il48, il35, il63, il64, ltT, ltF, leT, leF, eqT, eqF, inT, nI_clamp, nI_add, pk_sub, pk_mul, Option.bind_some, if_true, if_false, ite_true, ite_false] at e ⊢
      exact e
    · have e01 := rwI hd (show 0 < 7 by omega) (show 1 < 7 by omega)
      refine ⟨?_, gHND_0 (by simp [uf_F, us_F, uc_F, ui_F, uf_S, us_S, uc_S, ui_S, uf_C, us_C, uc_C, ui_C, uf_I, us_I, uc_I, ui_I, nI_0]) (by simp [uf_F, us_F, uc_F, ui_F, uf_S, us_S, uc_S, ui_S, uf_C, us_C, uc_C, ui_C, uf_I, us_I, uc_I, ui_I, nI_0]) (by simp [vi_I, nI_0]), gBUD_fr hB (by simp [uf_F, us_F, uc_F, ui_F, uf_S, us_S, uc_S, ui_S, uf_C, us_C, uc_C, ui_C, uf_I, us_I, uc_I, ui_I]) (by simp [vi_I, vl_I, va_I, vr_I, vi_L, vl_L, va_L, vr_L, vi_A, vl_A, vA_A, vr_A, vi_R, vl_R, va_R, vr_R, vi_W]), ⟨f1, ?_, ?_, ?_⟩, gKPT_fr hK ?_ ?_ (by simp [vi_I, vl_I, va_I, vr_I, vi_L, vl_L, va_L, vr_L, vi_A, vl_A, vA_A, vr_A, vi_R, vl_R, va_R, vr_R, vi_W]) (by simp [vi_I, vl_I, va_I, vr_I, vi_L, vl_L, va_L, vr_L, vi_A, vl_A, vA_A, vr_A, vi_R, vl_R, va_R, vr_R, vr_W])⟩
      · intro t ht
        match t, ht with
        | 0, _ =>
          refine ⟨by simp; omega, ?_, by simp [vi_I, vl_I, va_I, vr_I, vi_L, vl_L, va_L, vr_L, vi_A, vl_A, vA_A, vr_A, vi_R, vl_R, va_R, vr_R, va_W'], fun j hj => ?_⟩
          · simp (disch := omega) [uf_F, us_F, uc_F, ui_F, uf_S, us_S, uc_S, ui_S, uf_C, us_C, uc_C, ui_C, uf_I, us_I, uc_I, ui_I, rw_s, rwI hd]
          · simp only [if_true] at hj
            simp (disch := omega) [uf_F, us_F, uc_F, ui_F, uf_S, us_S, uc_S, ui_S, uf_C, us_C, uc_C, ui_C, uf_I, us_I, uc_I, ui_I, rw_s, vi_I, vl_I, va_I, vr_I, vi_L, vl_L, va_L, vr_L, vi_A, vl_A, vA_A, vr_A, vi_R, vl_R, va_R, vr_R, va_W', vr_W, zcp, hj]
            exact f4 j hj
        | 1, _ => exact ⟨by simp, by simp (disch := omega) [uf_F, us_F, uc_F, ui_F, uf_S, us_S, uc_S, ui_S, uf_C, us_C, uc_C, ui_C, uf_I, us_I, uc_I, ui_I, rw_s, rwI hd, nI_0], by simp [vi_I, vl_I, va_I, vr_I, vi_L, vl_L, va_L, vr_L, vi_A, vl_A, vA_A, vr_A, vi_R, vl_R, va_R, vr_R, va_W', nI_0], fun j hj => absurd hj (by simp)⟩
        | 2, _ => exact ⟨by simp, by simp (disch := omega) [uf_F, us_F, uc_F, ui_F, uf_S, us_S, uc_S, ui_S, uf_C, us_C, uc_C, ui_C, uf_I, us_I, uc_I, ui_I, rw_s, rwI hd, nI_0], by simp [vi_I, vl_I, va_I, vr_I, vi_L, vl_L, va_L, vr_L, vi_A, vl_A, vA_A, vr_A, vi_R, vl_R, va_R, vr_R, va_W', nI_0], fun j hj => absurd hj (by simp)⟩
        | 3, _ => exact ⟨by simp, by simp (disch := omega) [uf_F, us_F, uc_F, ui_F, uf_S, us_S, uc_S, ui_S, uf_C, us_C, uc_C, ui_C, uf_I, us_I, uc_I, ui_I, rw_s, rwI hd, nI_0], by simp [vi_I, vl_I, va_I, vr_I, vi_L, vl_L, va_L, vr_L, vi_A, vl_A, vA_A, vr_A, vi_R, vl_R, va_R, vr_R, va_W', nI_0], fun j hj => absurd hj (by simp)⟩
      · simp (disch := omega) [uf_F, us_F, uc_F, ui_F, uf_S, us_S, uc_S, ui_S, uf_C, us_C, uc_C, ui_C, uf_I, us_I, uc_I, ui_I, rw_s, rw_7, rwI hd]
        rw [← rw_7]; exact f2
      · rw [if_neg h]
        simp [vi_I, vl_I, va_I, vr_I, vi_L, vl_L, va_L, vr_L, vi_A, vl_A, vA_A, vr_A, vi_R, vl_R, va_R, vr_R, vi_W, f3]
      · intro j hj
        simp (disch := omega) [uf_F, us_F, uc_F, ui_F, uf_S, us_S, uc_S, ui_S, uf_C, us_C, uc_C, ui_C, uf_I, us_I, uc_I, ui_I, rw_s, rw_7, rcI hd, vr_W, vi_I, vl_I, va_I, vr_I, vi_L, vl_L, va_L, vr_L, vi_A, vl_A, vA_A, vr_A, vi_R, vl_R, va_R, vr_R]
        rw [← rw_7]
        exact f4 j hj
      · simp (disch := omega) [uf_F, us_F, uc_F, ui_F, uf_S, us_S, uc_S, ui_S, uf_C, us_C, uc_C, ui_C, uf_I, us_I, uc_I, ui_I, rw_s, rw_8, rwI hd]
      · simp (disch := omega) [uf_F, us_F, uc_F, ui_F, uf_S, us_S, uc_S, ui_S, uf_C, us_C, uc_C, ui_C, uf_I, us_I, uc_I, ui_I, rw_s, rw_8, rcI hd]
def zeq (F K : Nat → Int64) : Nat → Nat → Bool
  | _, 0 => true
  | i, c + 1 => decide (F i = K i) && zeq F K (i + 1) c
theorem zeq_congr {F K F' K' : Nat → Int64} : ∀ (c i : Nat), (∀ j, i ≤ j → j < i + c → F j = F' j ∧ K j = K' j) → zeq F K i c = zeq F' K' i c := by
  intro c
  induction c with
  | zero => intro i _; rfl
  | succ c ih =>
    intro i h
    unfold zeq
    rw [ih (i + 1) (fun j h1 h2 => h j (by omega) (by omega)), (h i (by omega) (by omega)).1, (h i (by omega) (by omega)).2]
theorem c_same {Z : CZ} {u : CS} {a b n : Nat} (hn : n ≤ 64) (h : Us u a = nI n) : ∀ (c m i : Nat), i + c = n → c < m → pX4_hasSameWords_15 Z u a b m (nI i) = some (if zeq (Uc u (Zc Z a)) (Uc u (Zc Z b)) i c = true then 1 else 0) := by
  intro c
  induction c with
  | zero =>
    intro m i hi hm
    obtain ⟨m, rfl⟩ : ∃ k, m = k + 1 := ⟨m - 1, by omega⟩
    rw [pX4_hasSameWords_15_s]
    simp (disch := omega) [h, ltT, ltF, leT, leF, eqT, eqF, inT, nI_clamp, nI_add, pk_sub, pk_mul, zeq]
  | succ c ih =>
    intro m i hi hm
    obtain ⟨m, rfl⟩ : ∃ k, m = k + 1 := ⟨m - 1, by omega⟩
    rw [pX4_hasSameWords_15_s]
    simp (disch := omega) only [h, ltT, ltF, leT, leF, eqT, eqF, inT, nI_clamp, nI_add, pk_sub, pk_mul, il1, Option.bind_some, if_true, if_false, ite_true, ite_false]
    rw [ih m (i + 1) (by omega) (by omega)]
    by_cases e : Uc u (Zc Z a) i = Uc u (Zc Z b) i
    · simp [zeq, e]
      rfl
    · simp [zeq, e]
theorem m_same {n : Nat} (hn : n ≤ 64) {v : MS} (h : Vi v 23 = nI n) : ∀ (c m i : Nat) (x : Bool), i + c = n → c < m → pX6_same_31 m v (if x = true then 1 else 0) (nI i) = some (v, if (x && zeq (Vr v 24) (Vr v 26) i c) = true then 1 else 0) := by
  intro c
  induction c with
  | zero =>
    intro m i x hi hm
    obtain ⟨m, rfl⟩ : ∃ k, m = k + 1 := ⟨m - 1, by omega⟩
    rw [pX6_same_31_s]
    cases x <;> simp (disch := omega) [h, ltT, ltF, leT, leF, eqT, eqF, inT, nI_clamp, nI_add, pk_sub, pk_mul, zeq]
  | succ c ih =>
    intro m i x hi hm
    obtain ⟨m, rfl⟩ : ∃ k, m = k + 1 := ⟨m - 1, by omega⟩
    rw [pX6_same_31_s]
    have e1 := ih m (i + 1) true (by omega) (by omega)
    have e0 := ih m (i + 1) false (by omega) (by omega)
    rw [if_pos rfl] at e1
    rw [if_neg (by decide)] at e0
    cases x with
    | false =>
      simp (disch := omega) only [h, leF]
      simp only [if_false, Bool.false_eq_true, if_true]
      rw [nI_1, e0]
      simp
    | true =>
      simp (disch := omega) only [h, leF, inT, nI_clamp]
      simp only [if_true, if_false, show ¬ (1 : Int32) = 0 by decide]
      rw [nI_1, e0, e1]
      by_cases e : Vr v 24 i = Vr v 26 i
      · simp [zeq, e]
      · simp [zeq, e]
theorem T_same {Z : CZ} {u : CS} {v : MS} (hR : Rel Z u v) : ∃ v' r, pX5_same Z u = some r ∧ pX6_same v = some (v', r) ∧ Rel Z u v' := by
  refine ⟨tI v 0 0, ?_⟩
  have hR0 := Rel_0 hR 0
  obtain ⟨hd, cn, hn, l, b, fn, kn, hM, hH, hB, ⟨f1, f2, f3, f4⟩, ⟨k1, k2, k3, k4⟩⟩ := hR
  by_cases h : fn = 0
  · subst h
    refine ⟨0, ?_, ?_, hR0⟩
    · simp [pX5_same, f2, nI_0]
    · have q : (-1 : Int32) < 0 := by decide
      have q2 : (-1 : Int32) ≤ 0 := by decide
      unfold pX6_same
      rw [f3, if_pos rfl, if_pos q, pX6_same_31_s]
      simp [vi_I, vl_I, va_I, vr_I, vi_L, vl_L, va_L, vr_L, vi_A, vl_A, vA_A, vr_A, vi_R, vl_R, va_R, vr_R, f3, q2]
  · rw [if_neg h] at f3
    by_cases e : fn = kn
    · subst e
      rw [if_neg h] at k3
      refine ⟨if zeq (Vr v 24) (Vr v 26) 0 fn = true then 1 else 0, ?_, ?_, hR0⟩
      · unfold pX5_same pX4_hasSameWords
        rw [f2, k2, if_neg (nI_nle (by omega) (by omega)), if_pos rfl, show (0 : Int32) = nI 0 from rfl, c_same f1 f2 fn 300 0 (by omega) (by omega)]
        rw [zeq_congr (F' := Vr v 24) (K' := Vr v 26) fn 0 (fun j _ hj => ⟨f4 j (by omega), k4 j (by omega)⟩)]
        cases zeq (Vr v 24) (Vr v 26) 0 fn <;> rfl
      · unfold pX6_same
        have q := m_same f1 (v := tI v 0 0) (by simp [vi_I, vl_I, va_I, vr_I, vi_L, vl_L, va_L, vr_L, vi_A, vl_A, vA_A, vr_A, vi_R, vl_R, va_R, vr_R, f3]) fn 300 0 true (by omega) (by omega)
        rw [if_pos rfl] at q
        rw [f3, k3, if_neg (nI_pos (by omega)), if_pos rfl, show pX6_same_31 300 (tI v 0 0) 1 0 = pX6_same_31 300 (tI v 0 0) 1 (nI 0) from rfl, q]
        simp [vi_I, vl_I, va_I, vr_I, vi_L, vl_L, va_L, vr_L, vi_A, vl_A, vA_A, vr_A, vi_R, vl_R, va_R, vr_R]
    · refine ⟨0, ?_, ?_, hR0⟩
      · unfold pX5_same pX4_hasSameWords
        rw [f2, k2, if_neg (nI_nle (by omega) (by omega)), if_neg (fun q => e ((nI_eq (by omega) (by omega)).mp q))]
        rfl
      · unfold pX6_same
        have q := m_same f1 (v := tI v 0 0) (by simp [vi_I, vl_I, va_I, vr_I, vi_L, vl_L, va_L, vr_L, vi_A, vl_A, vA_A, vr_A, vi_R, vl_R, va_R, vr_R, f3]) fn 300 0 false (by omega) (by omega)
        rw [if_neg (by decide)] at q
        have q2 : ¬ nI fn = Vi v 25 := by
          rw [k3]
          by_cases z : kn = 0
          · rw [if_pos z]
            intro e2
            have := nI_pos (n := fn) (by omega)
            rw [e2] at this
            exact this (by decide)
          · rw [if_neg z, eqF e (by omega) (by omega)]
            exact id
        rw [f3, if_neg (nI_pos (by omega)), if_neg q2, show pX6_same_31 300 (tI v 0 0) 0 0 = pX6_same_31 300 (tI v 0 0) 0 (nI 0) from rfl, q]
        simp
