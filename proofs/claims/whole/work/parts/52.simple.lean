/-! ===== what stays when other cells change ===== -/
theorem gMSG_fr {Z : CZ} {u u' : CS} {v v' : MS} {cn : Nat → Nat} (h : gMSG Z u v cn) (h1 : ∀ s, s < 4 → Us u' (Zs Z s) = Us u (Zs Z s)) (h2 : ∀ s, s < 4 → Uc u' (Zc Z (Zs Z s)) = Uc u (Zc Z (Zs Z s))) (h3 : Va v' 2 = Va v 2) (h4 : Vr v' 1 = Vr v 1) : gMSG Z u' v' cn := fun s hs => by
  rw [h1 s hs, h2 s hs, h3, h4]
  exact h s hs
theorem gHND_fr {Z : CZ} {u u' : CS} {v v' : MS} {cn : Nat → Nat} {hn l : Nat} (h : gHND Z u v cn hn l) (h1 : Ui u' 1 = Ui u 1) (h2 : Ui u' 2 = Ui u 2) (h3 : ∀ k s, s < hn → Uf u' k (Zh Z s) = Uf u k (Zh Z s)) (h4 : Vi v' 13 = Vi v 13) (h5 : Vi v' 4 = Vi v 4) (h6 : ∀ k s, 14 ≤ k → k ≤ 20 → s < hn → Va v' k s = Va v k s) : gHND Z u' v' cn hn l := by
  obtain ⟨a1, a2, a3, a4, a5, a6, a7⟩ := h
  refine ⟨a1, a2, h1.trans a3, h4.trans a4, h2.trans a5, fun q => h5.trans (a6 q), fun s hs => ?_⟩
  obtain ⟨sh, co, po, ed, sg, bg, dp, b1, b2, b3, b4, b5⟩ := a7 s hs
  refine ⟨sh, co, po, ed, sg, bg, dp, b1, b2, b3, ?_, ?_⟩
  · unfold obF at b4 ⊢
    simp only [h3 _ s hs]
    exact b4
  · unfold obR at b5 ⊢
    rw [h6 14 s (by omega) (by omega) hs, h6 15 s (by omega) (by omega) hs, h6 16 s (by omega) (by omega) hs, h6 17 s (by omega) (by omega) hs, h6 18 s (by omega) (by omega) hs, h6 19 s (by omega) (by omega) hs, h6 20 s (by omega) (by omega) hs]
    exact b5
theorem gHND_0 {Z : CZ} {u : CS} {v : MS} {cn : Nat → Nat} (h1 : Ui u 1 = nI 0) (h2 : Ui u 2 = nI 0) (h3 : Vi v 13 = nI 0) : gHND Z u v cn 0 0 := ⟨by omega, by omega, h1, h3, by rw [if_pos rfl]; exact h2, fun q => absurd rfl q, fun h q => absurd q (by omega)⟩
theorem gBUD_fr {u u' : CS} {v v' : MS} {b : Nat} (h : gBUD u v b) (h1 : Ui u' 3 = Ui u 3) (h2 : Vi v' 3 = Vi v 3) : gBUD u' v' b := ⟨h.1, h1.trans h.2.1, h2.trans h.2.2⟩
theorem gFRM_fr {Z : CZ} {u u' : CS} {v v' : MS} {n : Nat} (h : gFRM Z u v n) (h1 : Us u' (Zz Z 7) = Us u (Zz Z 7)) (h2 : Uc u' (Zc Z (Zz Z 7)) = Uc u (Zc Z (Zz Z 7))) (h3 : Vi v' 23 = Vi v 23) (h4 : Vr v' 24 = Vr v 24) : gFRM Z u' v' n := by
  unfold gFRM
  rw [h1, h2, h3, h4]
  exact h
theorem gKPT_fr {Z : CZ} {u u' : CS} {v v' : MS} {n : Nat} (h : gKPT Z u v n) (h1 : Us u' (Zz Z 8) = Us u (Zz Z 8)) (h2 : Uc u' (Zc Z (Zz Z 8)) = Uc u (Zc Z (Zz Z 8))) (h3 : Vi v' 25 = Vi v 25) (h4 : Vr v' 26 = Vr v 26) : gKPT Z u' v' n := by
  unfold gKPT
  rw [h1, h2, h3, h4]
  exact h
theorem Rel_0 {Z : CZ} {u : CS} {v : MS} (h : Rel Z u v) (x : Int32) : Rel Z u (tI v 0 x) := by
  obtain ⟨hd, cn, hn, l, b, fn, kn, hM, hH, hB, hF, hK⟩ := h
  exact ⟨hd, cn, hn, l, b, fn, kn, gMSG_fr hM (fun _ _ => rfl) (fun _ _ => rfl) rfl rfl, gHND_fr hH rfl rfl (fun _ _ _ => rfl) (by rw [vi_I, if_neg (by omega)]) (by rw [vi_I, if_neg (by omega)]) (fun _ _ _ _ _ => rfl), gBUD_fr hB rfl (by rw [vi_I, if_neg (by omega)]), gFRM_fr hF rfl rfl (by rw [vi_I, if_neg (by omega)]) rfl, gKPT_fr hK rfl rfl (by rw [vi_I, if_neg (by omega)]) rfl⟩
/-! ===== words, word, budget, left ===== -/
theorem T_words {Z : CZ} {u : CS} {v : MS} (hR : Rel Z u v) (a1 : Int32) : ∃ v' r, pX5_words Z u a1 = some r ∧ pX6_words v a1 = some (v', r) ∧ Rel Z u v' := by
  refine ⟨tI v 0 0, ?_⟩
  have hR0 := Rel_0 hR 0
  obtain ⟨hd, cn, hn, l, b, fn, kn, hM, hH, hB, hF, hK⟩ := hR
  rcases negI a1 with h | ⟨s, hs, rfl⟩
  · refine ⟨-1, ?_, ?_, hR0⟩
    · simp [pX5_words, pX3_hasSegment, h]
    · simp [pX6_words, h]
  · by_cases h4 : s < 4
    · obtain ⟨c1, c2, c3, c4⟩ := hM s h4
      refine ⟨nI (cn s), ?_, ?_, hR0⟩
      · simp (disch := omega) [pX5_words, pX3_hasSegment, pX3_row, il0, il1, il2, il3, il4, il5, il6, il7, il8, il10, il16, il31, il32, il48, il35, il63, il64, ltT, ltF, leT, leF, eqT, eqF, inT, nI_clamp, nI_add, pk_sub, pk_mul, c2]
      · simp (disch := omega) [pX6_words, il0, il1, il2, il3, il4, il5, il6, il7, il8, il10, il16, il31, il32, il48, il35, il63, il64, ltT, ltF, leT, leF, eqT, eqF, inT, nI_clamp, nI_add, pk_sub, pk_mul, c3]
    · refine ⟨-1, ?_, ?_, hR0⟩
      · simp (disch := omega) [pX5_words, pX3_hasSegment, pX3_row, il0, il1, il2, il3, il4, il5, il6, il7, il8, il10, il16, il31, il32, il48, il35, il63, il64, ltT, ltF, leT, leF, eqT, eqF, inT, nI_clamp, nI_add, pk_sub, pk_mul]
      · simp (disch := omega) [pX6_words, il0, il1, il2, il3, il4, il5, il6, il7, il8, il10, il16, il31, il32, il48, il35, il63, il64, ltT, ltF, leT, leF, eqT, eqF, inT, nI_clamp, nI_add, pk_sub, pk_mul]
/-- a word of the message, 0 where there is none -/
theorem c_at {Z : CZ} {u : CS} {v : MS} {cn : Nat → Nat} (hM : gMSG Z u v cn) {s i : Nat} (hs : s < 4) (hi : i < cn s) : pX3_at Z u (nI s) (nI i) = some (Vr v 1 (64 * s + i)) := by
  obtain ⟨c1, c2, c3, c4⟩ := hM s hs
  simp (disch := omega) [pX3_at, il0, il1, il2, il3, il4, il5, il6, il7, il8, il10, il16, il31, il32, il48, il35, il63, il64, ltT, ltF, leT, leF, eqT, eqF, inT, nI_clamp, nI_add, pk_sub, pk_mul, c2, c4]
theorem T_word {Z : CZ} {u : CS} {v : MS} (hR : Rel Z u v) (a1 a2 : Int32) : ∃ v' r, pX5_word Z u a1 a2 = some r ∧ pX6_word v a1 a2 = some (v', r) ∧ Rel Z u v' := by
  refine ⟨tI v 0 0, ?_⟩
  have hR0 := Rel_0 hR 0
  obtain ⟨hd, cn, hn, l, b, fn, kn, hM, hH, hB, hF, hK⟩ := hR
  rcases negI a1 with h | ⟨s, hs, rfl⟩
  · refine ⟨0, ?_, ?_, hR0⟩
    · simp [pX5_word, pX3_at, h]
    · simp [pX6_word, pX6_isWord, h]
  · by_cases h4 : s < 4
    · obtain ⟨c1, c2, c3, c4⟩ := hM s h4
      rcases negI a2 with h | ⟨i, hi, rfl⟩
      · refine ⟨0, ?_, ?_, hR0⟩
        · simp (disch := omega) [pX5_word, pX3_at, il0, il1, il2, il3, il4, il5, il6, il7, il8, il10, il16, il31, il32, il48, il35, il63, il64, ltT, ltF, leT, leF, eqT, eqF, inT, nI_clamp, nI_add, pk_sub, pk_mul, ngT h]
        · simp (disch := omega) [pX6_word, pX6_isWord, il0, il1, il2, il3, il4, il5, il6, il7, il8, il10, il16, il31, il32, il48, il35, il63, il64, ltT, ltF, leT, leF, eqT, eqF, inT, nI_clamp, nI_add, pk_sub, pk_mul, ngT h]
      · by_cases h5 : i < cn s
        · refine ⟨Vr v 1 (64 * s + i), ?_, ?_, hR0⟩
          · simp (disch := omega) [pX5_word, pX3_at, il0, il1, il2, il3, il4, il5, il6, il7, il8, il10, il16, il31, il32, il48, il35, il63, il64, ltT, ltF, leT, leF, eqT, eqF, inT, nI_clamp, nI_add, pk_sub, pk_mul, c2, c4]
          · simp (disch := omega) [pX6_word, pX6_isWord, il0, il1, il2, il3, il4, il5, il6, il7, il8, il10, il16, il31, il32, il48, il35, il63, il64, ltT, ltF, leT, leF, eqT, eqF, inT, nI_clamp, nI_add, pk_sub, pk_mul, vi_I, vl_I, va_I, vr_I, vi_L, vl_L, va_L, vr_L, vi_A, vl_A, vA_A, vr_A, vi_R, vl_R, va_R, vr_R, c3]
        · refine ⟨0, ?_, ?_, hR0⟩
          · simp (disch := omega) [pX5_word, pX3_at, il0, il1, il2, il3, il4, il5, il6, il7, il8, il10, il16, il31, il32, il48, il35, il63, il64, ltT, ltF, leT, leF, eqT, eqF, inT, nI_clamp, nI_add, pk_sub, pk_mul, c2]
          · simp (disch := omega) [pX6_word, pX6_isWord, il0, il1, il2, il3, il4, il5, il6, il7, il8, il10, il16, il31, il32, il48, il35, il63, il64, ltT, ltF, leT, leF, eqT, eqF, inT, nI_clamp, nI_add, pk_sub, pk_mul, vi_I, vl_I, va_I, vr_I, vi_L, vl_L, va_L, vr_L, vi_A, vl_A, vA_A, vr_A, vi_R, vl_R, va_R, vr_R, c3]
    · refine ⟨0, ?_, ?_, hR0⟩
      · simp (disch := omega) [pX5_word, pX3_at, il0, il1, il2, il3, il4, il5, il6, il7, il8, il10, il16, il31, il32, il48, il35, il63, il64, ltT, ltF, leT, leF, eqT, eqF, inT, nI_clamp, nI_add, pk_sub, pk_mul]
      · simp (disch := omega) [pX6_word, pX6_isWord, il0, il1, il2, il3, il4, il5, il6, il7, il8, il10, il16, il31, il32, il48, il35, il63, il64, ltT, ltF, leT, leF, eqT, eqF, inT, nI_clamp, nI_add, pk_sub, pk_mul]
theorem T_budget {Z : CZ} {u : CS} {v : MS} (hR : Rel Z u v) (a1 : Int32) : ∃ u' v' r, pX5_budget Z u a1 = some (u', r) ∧ pX6_budget v a1 = some (v', r) ∧ Rel Z u' v' := by
  have hR0 := Rel_0 hR 0
  rcases negI a1 with h | ⟨s, hs, rfl⟩
  · refine ⟨u, tI v 0 0, 0, ?_, ?_, hR0⟩
    · simp [pX5_budget, h]
    · simp [pX6_budget, h]
  · by_cases h4 : s ≤ 63
    · refine ⟨sI u 3 (nI s), tI (tI v 0 0) 3 (nI s), 1, ?_, ?_, ?_⟩
      · simp (disch := omega) [pX5_budget, il0, il1, il2, il3, il4, il5, il6, il7, il8, il10, il16, il31, il32, il48, il35, il63, il64, ltT, ltF, leT, leF, eqT, eqF, inT, nI_clamp, nI_add, pk_sub, pk_mul]
      · simp (disch := omega) [pX6_budget, il0, il1, il2, il3, il4, il5, il6, il7, il8, il10, il16, il31, il32, il48, il35, il63, il64, ltT, ltF, leT, leF, eqT, eqF, inT, nI_clamp, nI_add, pk_sub, pk_mul]
      · obtain ⟨hd, cn, hn, l, b, fn, kn, hM, hH, hB, hF, hK⟩ := hR0
        exact ⟨hd, cn, hn, l, s, fn, kn, gMSG_fr hM (fun _ _ => rfl) (fun _ _ => rfl) rfl rfl, gHND_fr hH (by simp [ui_I]) (by simp [ui_I]) (fun _ _ _ => rfl) (by simp [vi_I]) (by simp [vi_I]) (fun _ _ _ _ _ => rfl), ⟨h4, by simp [ui_I], by simp [vi_I]⟩, gFRM_fr hF rfl rfl (by simp [vi_I]) rfl, gKPT_fr hK rfl rfl (by simp [vi_I]) rfl⟩
    · refine ⟨u, tI v 0 0, 0, ?_, ?_, hR0⟩
      · simp (disch := omega) [pX5_budget, il0, il1, il2, il3, il4, il5, il6, il7, il8, il10, il16, il31, il32, il48, il35, il63, il64, ltT, ltF, leT, leF, eqT, eqF, inT, nI_clamp, nI_add, pk_sub, pk_mul]
      · simp (disch := omega) [pX6_budget, il0, il1, il2, il3, il4, il5, il6, il7, il8, il10, il16, il31, il32, il48, il35, il63, il64, ltT, ltF, leT, leF, eqT, eqF, inT, nI_clamp, nI_add, pk_sub, pk_mul]
theorem T_left {Z : CZ} {u : CS} {v : MS} (hR : Rel Z u v) : ∃ v' r, pX5_left Z u = r ∧ pX6_left v = some (v', r) ∧ Rel Z u v' := by
  refine ⟨tI v 0 0, ?_⟩
  have hR0 := Rel_0 hR 0
  obtain ⟨hd, cn, hn, l, b, fn, kn, hM, ⟨q1, q2, q3, q4, q5, q6, q7⟩, hB, hF, hK⟩ := hR
  by_cases h : hn = 0
  · subst h
    refine ⟨0, ?_, ?_, hR0⟩
    · simp [pX5_left, q5, nI_0]
    · simp [pX6_left, q4, nI_0]
  · refine ⟨nI l, ?_, ?_, hR0⟩
    · simp [pX5_left, q5, h]
    · simp (disch := omega) [pX6_left, q4, q6 h, il0, il1, il2, il3, il4, il5, il6, il7, il8, il10, il16, il31, il32, il48, il35, il63, il64, ltT, ltF, leT, leF, eqT, eqF, inT, nI_clamp, nI_add, pk_sub, pk_mul]
/-! ===== add, change, cut ===== -/
theorem T_add {Z : CZ} {u : CS} {v : MS} (hR : Rel Z u v) (a1 : Int32) (a2 : Int64) : ∃ u' v' r, pX5_add Z u a1 a2 = some (u', r) ∧ pX6_add v a1 a2 = some (v', r) ∧ Rel Z u' v' := by
  have hR0 := Rel_0 hR 0
  rcases negI a1 with h | ⟨s, hs, rfl⟩
  · refine ⟨u, tI v 0 0, -1, ?_, ?_, hR0⟩
    · simp [pX5_add, pX3_hasSegment, h]
    · simp [pX6_add, h]
  · by_cases h4 : s < 4
    · obtain ⟨hd, cn, hn, l, b, fn, kn, hM, hH, hB, hF, hK⟩ := hR
      obtain ⟨c1, c2, c3, c4⟩ := hM s h4
      by_cases h5 : cn s = 64
      · refine ⟨u, tI v 0 0, -1, ?_, ?_, hR0⟩
        · simp (disch := omega) [pX5_add, pX3_hasSegment, pX3_row, pX4_append, il0, il1, il2, il3, il4, il5, il6, il7, il8, il10, il16, il31, il32, il48, il35, il63, il64, ltT, ltF, leT, leF, eqT, eqF, inT, nI_clamp, nI_add, pk_sub, pk_mul, c2]
        · simp (disch := omega) [pX6_add, il0, il1, il2, il3, il4, il5, il6, il7, il8, il10, il16, il31, il32, il48, il35, il63, il64, ltT, ltF, leT, leF, eqT, eqF, inT, nI_clamp, nI_add, pk_sub, pk_mul, vi_I, vl_I, va_I, vr_I, vi_L, vl_L, va_L, vr_L, vi_A, vl_A, vA_A, vr_A, vi_R, vl_R, va_R, vr_R, c3]
      · refine ⟨sI (sI (sS (sC u (Zc Z (Zs Z s)) (vp_updL (Uc u (Zc Z (Zs Z s))) (cn s) a2)) (Zs Z s) (nI (cn s + 1))) 1 0) 2 0, tI (tA (tR (tI v 0 0) 1 (64 * s + cn s) a2) 2 s (nI (cn s + 1))) 13 0, nI (cn s), ?_, ?_, ?_⟩
        · simp (disch := omega) [pX5_add, pX3_hasSegment, pX3_row, pX4_append, pX5_endHandles, il0, il1, il2, il3, il4, il5, il6, il7, il8, il10, il16, il31, il32, il48, il35, il63, il64, ltT, ltF, leT, leF, eqT, eqF, inT, nI_clamp, nI_add, pk_sub, pk_mul, uf_F, us_F, uc_F, ui_F, uf_S, us_S, uc_S, ui_S, uf_C, us_C, uc_C, ui_C, uf_I, us_I, uc_I, ui_I, c2]
        · simp (disch := omega) [pX6_add, il0, il1, il2, il3, il4, il5, il6, il7, il8, il10, il16, il31, il32, il48, il35, il63, il64, ltT, ltF, leT, leF, eqT, eqF, inT, nI_clamp, nI_add, pk_sub, pk_mul, vi_I, vl_I, va_I, vr_I, vi_L, vl_L, va_L, vr_L, vi_A, vl_A, vA_A, vr_A, vi_R, vl_R, va_R, vr_R, c3]
        · refine ⟨hd, fun t => if t = s then cn s + 1 else cn t, 0, 0, b, fn, kn, ?_, gHND_0 (by simp [ui_I, nI_0]) (by simp [ui_I, nI_0]) (by simp [vi_I, nI_0]), gBUD_fr hB (by simp [ui_I, uf_F, us_F, uc_F, ui_F, uf_S, us_S, uc_S, ui_S, uf_C, us_C, uc_C, ui_C, uf_I, us_I, uc_I, ui_I]) (by simp [vi_I, vl_I, va_I, vr_I, vi_L, vl_L, va_L, vr_L, vi_A, vl_A, vA_A, vr_A, vi_R, vl_R, va_R, vr_R]), gFRM_fr hF ?_ ?_ (by simp [vi_I, vl_I, va_I, vr_I, vi_L, vl_L, va_L, vr_L, vi_A, vl_A, vA_A, vr_A, vi_R, vl_R, va_R, vr_R]) (by simp [vr_R', vi_I, vl_I, va_I, vr_I, vi_L, vl_L, va_L, vr_L, vi_A, vl_A, vA_A, vr_A, vi_R, vl_R, va_R, vr_R]), gKPT_fr hK ?_ ?_ (by simp [vi_I, vl_I, va_I, vr_I, vi_L, vl_L, va_L, vr_L, vi_A, vl_A, vA_A, vr_A, vi_R, vl_R, va_R, vr_R]) (by simp [vr_R', vi_I, vl_I, va_I, vr_I, vi_L, vl_L, va_L, vr_L, vi_A, vl_A, vA_A, vr_A, vi_R, vl_R, va_R, vr_R])⟩
          · intro t ht
            obtain ⟨d1, d2, d3, d4⟩ := hM t ht
            by_cases e : t = s
            · subst e
              refine ⟨by simp; omega, by simp [uf_F, us_F, uc_F, ui_F, uf_S, us_S, uc_S, ui_S, uf_C, us_C, uc_C, ui_C, uf_I, us_I, uc_I, ui_I], by simp [vi_I, vl_I, va_I, vr_I, vi_L, vl_L, va_L, vr_L, vi_A, vl_A, vA_A, vr_A, vi_R, vl_R, va_R, vr_R], fun j hj => ?_⟩
              simp only [if_true] at hj
              by_cases hj2 : j = cn t
              · simp [uf_F, us_F, uc_F, ui_F, uf_S, us_S, uc_S, ui_S, uf_C, us_C, uc_C, ui_C, uf_I, us_I, uc_I, ui_I, vi_I, vl_I, va_I, vr_I, vi_L, vl_L, va_L, vr_L, vi_A, vl_A, vA_A, vr_A, vi_R, vl_R, va_R, vr_R, vp_updL, hj2]
              · simp (disch := omega) [uf_F, us_F, uc_F, ui_F, uf_S, us_S, uc_S, ui_S, uf_C, us_C, uc_C, ui_C, uf_I, us_I, uc_I, ui_I, vi_I, vl_I, va_I, vr_I, vi_L, vl_L, va_L, vr_L, vi_A, vl_A, vA_A, vr_A, vi_R, vl_R, va_R, vr_R, vp_updL, hj2]
                exact d4 j (by omega)
            · have e1 : ¬ Zs Z t = Zs Z s := by rw [rw_s ht, rw_s h4]; exact zd_r hd (by omega) (by omega) e
              have e2 : ¬ Zc Z (Zs Z t) = Zc Z (Zs Z s) := by rw [rw_s ht, rw_s h4]; exact zd_c hd (by omega) (by omega) e
              refine ⟨by simp [e]; exact d1, by simp [uf_F, us_F, uc_F, ui_F, uf_S, us_S, uc_S, ui_S, uf_C, us_C, uc_C, ui_C, uf_I, us_I, uc_I, ui_I, e, e1]; exact d2, by simp [vi_I, vl_I, va_I, vr_I, vi_L, vl_L, va_L, vr_L, vi_A, vl_A, vA_A, vr_A, vi_R, vl_R, va_R, vr_R, e]; exact d3, fun j hj => ?_⟩
              simp only [e, if_false] at hj
              simp (disch := omega) [uf_F, us_F, uc_F, ui_F, uf_S, us_S, uc_S, ui_S, uf_C, us_C, uc_C, ui_C, uf_I, us_I, uc_I, ui_I, vi_I, vl_I, va_I, vr_I, vi_L, vl_L, va_L, vr_L, vi_A, vl_A, vA_A, vr_A, vi_R, vl_R, va_R, vr_R, e2]
              rw [if_neg (by omega)]
              exact d4 j hj
          · simp [uf_F, us_F, uc_F, ui_F, uf_S, us_S, uc_S, ui_S, uf_C, us_C, uc_C, ui_C, uf_I, us_I, uc_I, ui_I, rw_7, rw_s h4, rwI hd (show 4 < 7 by omega) (show s < 7 by omega)]
            intro q; omega
          · simp [uf_F, us_F, uc_F, ui_F, uf_S, us_S, uc_S, ui_S, uf_C, us_C, uc_C, ui_C, uf_I, us_I, uc_I, ui_I, rw_7, rw_s h4, rcI hd (show 4 < 7 by omega) (show s < 7 by omega)]
            intro q; omega
          · simp [uf_F, us_F, uc_F, ui_F, uf_S, us_S, uc_S, ui_S, uf_C, us_C, uc_C, ui_C, uf_I, us_I, uc_I, ui_I, rw_8, rw_s h4, rwI hd (show 5 < 7 by omega) (show s < 7 by omega)]
            intro q; omega
          · simp [uf_F, us_F, uc_F, ui_F, uf_S, us_S, uc_S, ui_S, uf_C, us_C, uc_C, ui_C, uf_I, us_I, uc_I, ui_I, rw_8, rw_s h4, rcI hd (show 5 < 7 by omega) (show s < 7 by omega)]
            intro q; omega
    · refine ⟨u, tI v 0 0, -1, ?_, ?_, hR0⟩
      · simp (disch := omega) [pX5_add, pX3_hasSegment, il0, il1, il2, il3, il4, il5, il6, il7, il8, il10, il16, il31, il32, il48, il35, il63, il64, ltT, ltF, leT, leF, eqT, eqF, inT, nI_clamp, nI_add, pk_sub, pk_mul]
      · simp (disch := omega) [pX6_add, il0, il1, il2, il3, il4, il5, il6, il7, il8, il10, il16, il31, il32, il48, il35, il63, il64, ltT, ltF, leT, leF, eqT, eqF, inT, nI_clamp, nI_add, pk_sub, pk_mul]
