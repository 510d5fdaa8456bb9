/-! ===== both write a list of pointers ===== -/
theorem z_plist {R : zRT} {Z : CZ} {dp : Nat} (hd : zdist Z) (hdp : dp ≤ 8) (hR : dp + 1 ≤ 8 → zObj R Z (dp + 1)) {u : CS} {v : MS} {cn : Nat → Nat} {n l h : Nat} {E : Nat → Prop} {co po ed sg bg ct word : Nat}
    (k1 : obOk cn 7 co po ed sg bg) (k2 : obK 7 co po ed ct) (k3 : obF u (Zl Z dp) 7 co po ed sg bg dp) (k4 : obV v 7 co po ed sg bg ct) (hM : gMSG Z u v cn) (g2 : Us u (Zz Z 9) = nI n) (g3 : Vi v 21 = nI n) (g4 : Ui u 0 = nI l) (g5 : Vi v 27 = nI l) (g6 : Vi v 28 = nI h) (g7 : n + l + ct ≤ 64) (g8 : h ≤ n) (hw : word < n) (hEw : ¬ E word) (g9 : ∀ j, j < n → ¬ E j → Uc u (Zc Z (Zz Z 9)) j = Vr v 22 j) (hEn : ∀ j, E j → j < n) :
    ∃ r v1, pX1_writePointerList R Z u (Zl Z dp) (nI word) = some r ∧ pX6_writeList v (nI word) (nI dp) = some (v1, ()) ∧ zOut Z dp u v cn n h E word r v1 := by
  obtain ⟨c0, c1, c2, c3, c4, c5, c6⟩ := k3
  obtain ⟨m1, m2, m3, m4, m5, m6, m7, m8⟩ := k4
  obtain ⟨o1, o2, o3, o4, o5, o6, o7, o8, o9⟩ := k1
  have o8' : bg + (co * 64 + 63) / 64 ≤ cn sg := (o8 (by omega) (by omega)).2.2
  have kc : (co * 64 + 63) / 64 ≤ ct := k2.2.2.2.1 (by omega) (by omega)
  have hcs := (hM sg o2).1
  have m7' : Vl v 11 = lN co := by
    have := m7 (by omega)
    rw [if_neg (by omega)] at this
    rw [this]
    congr 1
    show (co * 64 + 63) / 64 = co
    omega
  have em := m_wPtrs (v := v) (word := word) (dep := dp) m1 m2 m3 m4 m7' g3 g6 o2 (by omega) hw (by omega) (by omega)
  generalize hF : zfil (vp_updL (Vr v 22) word (zLP word n 6 co)) n co (fun _ => 0) = Fm at em
  generalize hFc : vp_updL (zfil (Uc u (Zc Z (Zz Z 9))) n co (fun _ => 0)) word (zLP word n 6 co) = Fc
  have eg := c_grow (Z := Z) (u := u) (n := n) (c := co) g2 (by omega)
  have ep := c_put (Z := Z) (u := dW Z u (n + co) (zfil (Uc u (Zc Z (Zz Z 9))) n co (fun _ => 0))) (n := n + co) (t := word) (us_D9 _ _ _ _) (by omega) (by omega) (zLP word n 6 co)
  rw [uc_D9, dW_dW, hFc] at ep
  have hagree : ∀ j, j < n + co → ¬ E j → Fc j = Fm j := fun j hj hE => by
    rw [← hFc, ← hF]
    by_cases q2 : n ≤ j
    · rw [zfil_in _ _ q2 (by omega), zup_ne _ _ (by omega), zfil_in _ _ q2 (by omega)]
    · rw [zfil_out _ _ (by omega)]
      by_cases q3 : j = word
      · rw [q3, zup_eq, zup_eq]
      · rw [zup_ne _ _ q3, zup_ne _ _ q3, zfil_out _ _ (by omega)]
        exact g9 j (by omega) hE
  have hrv : rfr h v (aW (eW v (n + co) Fm) h (h + co) (zG n sg bg dp h co)) := rfr_t (rfr_E h v _ _) (rfr_A h _ _ _)
  have hsim : zSim Z (dW Z u (n + co) Fc) (aW (eW v (n + co) Fm) h (h + co) (zG n sg bg dp h co)) cn (n + co) l (h + co) E := by
    refine ⟨gMSG_rf (gMSG_dW hd hM _ _) hrv, ?_, ?_, ?_, ?_, ?_, by omega, by omega, ?_⟩
    · rw [us_D9]
    · rw [vi_W2, if_neg (by omega), vi_E21]
    · rw [ui_D]; exact g4
    · rw [vi_W2, if_neg (by omega), vi_E, if_neg (by omega)]; exact g5
    · rw [vi_W2, if_pos rfl]
    · intro j hj hE
      rw [uc_D9, vr_W2, vr_E22]
      exact hagree j hj hE
  obtain ⟨res, i1, i2, i3⟩ := z_ptrs (R := R) (Z := Z) (dp := dp) hd hdp hR (cn := cn) (sg := sg) (b := bg) (c := co) (t := n) (h := h) (E := E) o2 hcs (by omega) (fun m hm q => by have := hEn _ q; omega) co 0 (dW Z u (n + co) Fc) _ (n + co) l 300 (by omega) (by omega) c4 c6 (by omega) hsim (fun m _ hm => by
    have hp : ∀ q, 29 ≤ q → q ≤ 32 → Va (aW (eW v (n + co) Fm) h (h + co) (zG n sg bg dp h co)) q (h + (co - 1 - m)) = zG n sg bg dp h co q (h + (co - 1 - m)) := fun q h1 h2 => by
      rw [va_W2, if_pos (by omega)]
    have e0 : co - 1 - (h + (co - 1 - m) - h) = m := by omega
    refine ⟨(hp 29 (by omega) (by omega)).trans ?_, (hp 30 (by omega) (by omega)).trans rfl, (hp 31 (by omega) (by omega)).trans ?_, (hp 32 (by omega) (by omega)).trans rfl⟩
    · show nI (n + (co - 1 - (h + (co - 1 - m) - h))) = _
      rw [e0]
    · show nI (bg + (co - 1 - (h + (co - 1 - m) - h))) = _
      rw [e0]) (fun j q => by have := hEn j q; omega)
  have hw22 : ∀ j, j < n → j ≠ word → Vr (aW (eW v (n + co) Fm) h (h + co) (zG n sg bg dp h co)) 22 j = Vr v 22 j := fun j h1 h2 => by
    rw [vr_W2, vr_E22, ← hF, zfil_out _ _ (by omega), zup_ne _ _ h2]
  refine ⟨res, _, ?_, em, ffr_t (ffr_D Z dp u _ _) i2, ?_⟩
  · have eX : pX0_listPointer (nI n - nI word - 1) 6 (nI co) = zLP word n 6 co := w_list _ _ _ _
    unfold pX1_writePointerList
    rw [c1, eg]
    simp only [Option.bind_some]
    rw [uf_D, c1, eX, ep]
    simp only [Option.bind_some]
    rw [uf_D, c5, c1]
    unfold pX1_writePointers
    rw [show (0 : Int32) = nI 0 from rfl, i1]
    simp only [Option.bind_some]
    obtain ⟨ra, rb⟩ := res
    cases rb <;> rfl
  · rcases i3 with ⟨q1, K, v2, n', l', q2, q3, q4, q5, q6, q7⟩ | ⟨e, K, w, q1, q2, q3, q4, q5, q6⟩
    · exact Or.inl ⟨q1, K, v2, n', l', q2, by omega, by omega, q5, rfr_t hrv q6, fun j h1 h2 => by rw [q7 j (by omega) (by omega), hw22 j h1 h2]⟩
    · exact Or.inr ⟨e, K, w, q1, q2, by omega, q4, q5, efr_t hrv q6⟩
/-! ===== both write a flat list ===== -/
theorem z_flat {Z : CZ} {dp : Nat} (hd : zdist Z) {u : CS} {v : MS} {cn : Nat → Nat} {n l h : Nat} {E : Nat → Prop} {sh co po ed sg bg ct word : Nat} (hs1 : 1 ≤ sh) (hs6 : sh ≤ 6)
    (k1 : obOk cn sh co po ed sg bg) (k2 : obK sh co po ed ct) (k3 : obF u (Zl Z dp) sh co po ed sg bg dp) (k4 : obV v sh co po ed sg bg ct) (hM : gMSG Z u v cn) (g2 : Us u (Zz Z 9) = nI n) (g3 : Vi v 21 = nI n) (g4 : Ui u 0 = nI l) (g5 : Vi v 27 = nI l) (g6 : Vi v 28 = nI h) (g7 : n + l + ct ≤ 64) (g8 : h ≤ n) (hw : word < n) (hEw : ¬ E word) (g9 : ∀ j, j < n → ¬ E j → Uc u (Zc Z (Zz Z 9)) j = Vr v 22 j) :
    ∃ u1 v1, pX1_writeFlatList Z u (Zl Z dp) (nI word) = some (u1, ()) ∧ pX6_writeList v (nI word) (nI dp) = some (v1, ()) ∧ zOut Z dp u v cn n h E word (u1, .inr ()) v1 := by
  obtain ⟨c0, c1, c2, c3, c4, c5, c6⟩ := k3
  obtain ⟨m1, m2, m3, m4, m5, m6, m7, m8⟩ := k4
  obtain ⟨o1, o2, o3, o4, o5, o6, o7, o8, o9⟩ := k1
  obtain ⟨k, rfl⟩ : ∃ k, sh = k + 1 := ⟨sh - 1, by omega⟩
  have o8' := (o8 (by omega) (by omega)).2.2
  have kc := k2.2.2.2.1 (by omega) (by omega)
  have hcs := (hM sg o2).1
  obtain ⟨w1, w2⟩ := zbw_f k (by omega)
  have ew1 := eb_c k (by omega)
  have m7' := m7 (by omega)
  rw [if_neg (by omega)] at m7'
  generalize hwd : zbw (k + 1) = w at o8' kc w1 w2 ew1 m7'
  have ewf := x_wf (n := co) (w := w) o4 w1
  generalize hS : (co * w + 63) / 64 = S at o8' kc ewf m7'
  have hcw : co * w ≤ 64 * S := by omega
  have em := m_wFlat (v := v) (word := word) (dep := dp) (k := k) m1 m2 m3 m4 m7' g3 (by omega) hwd hS.symm o4 o2 (by omega) hw (by omega)
  generalize hX : zLP word n k co = X at em
  have eg := c_grow (Z := Z) (u := u) (n := n) (c := S) g2 (by omega)
  have ep := c_put (Z := Z) (u := dW Z u (n + S) (zfil (Uc u (Zc Z (Zz Z 9))) n S (fun _ => 0))) (n := n + S) (t := word) (us_D9 _ _ _ _) (by omega) (by omega) X
  rw [uc_D9, dW_dW] at ep
  have ec := c_copy (Z := Z) (u := dW Z u (n + S) (vp_updL (zfil (Uc u (Zc Z (Zz Z 9))) n S (fun _ => 0)) word X)) (v := v) (cn := cn) (a := Zl Z dp) (s := sg) (i := bg) (c := S) (t := n) (n := n + S) hd (gMSG_dW hd hM _ _) (us_D9 _ _ _ _) (by omega) c4 o2 (by omega) (by omega)
  rw [uc_D9, dW_dW] at ec
  generalize hFc : zfil (vp_updL (zfil (Uc u (Zc Z (Zz Z 9))) n S (fun _ => 0)) word X) n S (fun k => Vr v 1 (64 * sg + (bg + k))) = Fc at ec
  generalize hF : zfil (vp_updL (Vr v 22) word X) n S (fun k => Vr v 1 (64 * sg + (bg + k))) = Fm at em
  have hagree : ∀ j, j < n + S → ¬ E j → Fc j = Fm j := fun j hj hE => by
    rw [← hFc, ← hF]
    by_cases q2 : n ≤ j
    · rw [zfil_in _ _ q2 (by omega), zfil_in _ _ q2 (by omega)]
    · rw [zfil_out _ _ (by omega), zfil_out _ _ (by omega)]
      by_cases q3 : j = word
      · rw [q3, zup_eq, zup_eq]
      · rw [zup_ne _ _ q3, zup_ne _ _ q3, zfil_out _ _ (by omega)]
        exact g9 j (by omega) hE
  have hFw : ∀ j, j < n → j ≠ word → Fm j = Vr v 22 j := fun j h1 h2 => by
    rw [← hF, zfil_out _ _ (by omega), zup_ne _ _ h2]
  have hend : ∀ (A B : Nat → Int64), (∀ j, j < n + S → ¬ E j → A j = B j) → (∀ j, j < n → j ≠ word → B j = Vr v 22 j) → zOut Z dp u v cn n h E word (dW Z u (n + S) A, .inr ()) (eW v (n + S) B) := fun A B hAB hB => by
    refine ⟨ffr_D Z dp u _ _, Or.inl ⟨rfl, 0, eW v (n + S) B, n + S, l, fun _ => rfl, by omega, by omega, ⟨gMSG_rf (gMSG_dW hd hM _ _) (rfr_E h v _ _), us_D9 _ _ _ _, vi_E21 _ _ _, g4, ?_, ?_, by omega, by omega, ?_⟩, rfr_E h v _ _, fun j h1 h2 => ?_⟩⟩
    · rw [vi_E, if_neg (by omega)]; exact g5
    · rw [vi_E, if_neg (by omega)]; exact g6
    · intro j hj hE
      show Uc (dW Z u (n + S) A) _ _ = _
      rw [uc_D9, vr_E22]
      exact hAB j hj hE
    · rw [vr_E22]
      exact hB j h1 h2
  have eX : pX0_listPointer (nI n - nI word - 1) (nI k) (nI co) = X := by rw [← hX]; exact w_list _ _ _ _
  have er : nI co * nI w - nI co * nI w / 64 * 64 = nI (co * w % 64) := by
    rw [pk_mul]
    exact pk_rem (d := 64) (by omega) (by omega) (by omega)
  have ecl : pX1_writeFlatList Z u (Zl Z dp) (nI word) = (if nI (co * w % 64) = 0 then some (dW Z u (n + S) Fc, ()) else ((pX4_at Z (dW Z u (n + S) Fc) (Zz Z 9) (nI n + nI S - 1)).bind fun r_18 => ((pX4_put Z (dW Z u (n + S) Fc) (Zz Z 9) (nI n + nI S - 1) (r_18 &&& (pX0_lowest (nI (co * w % 64))))).bind fun x_21 => some (x_21.1, ())))) := by
    unfold pX1_writeFlatList
    rw [c0, nI_p1]
    simp only [Option.bind_some]
    rw [ew1]
    simp only [Option.bind_some]
    rw [c1, ewf, eg]
    simp only [Option.bind_some]
    rw [uf_D, c1, eX, ep]
    simp only [Option.bind_some]
    rw [uf_D, c5, ec]
    simp only [Option.bind_some]
    rw [uf_D, c1, er]
  by_cases q : co * w % 64 = 0
  · rw [if_pos q] at em
    refine ⟨dW Z u (n + S) Fc, _, ?_, em, hend Fc Fm hagree hFw⟩
    rw [ecl, if_pos (by rw [q]; rfl)]
  · rw [if_neg q] at em
    have hS1 : 1 ≤ S := by omega
    refine ⟨dW Z u (n + S) (vp_updL Fc (n + S - 1) (Fc (n + S - 1) &&& (((1 : Int64) <<< ((nI (co * w % 64)).toInt64 &&& 63)) - (1 : Int64)))), _, ?_, em, hend _ _ ?_ ?_⟩
    · rw [ecl, if_neg (nI_ne0 (by omega) (by omega)), nI_add, il1, pk_sub (by omega), c_rat (us_D9 _ _ _ _) (by omega) (by omega), uc_D9]
      simp only [Option.bind_some]
      rw [c_put (us_D9 _ _ _ _) (by omega) (by omega), uc_D9, dW_dW]
      unfold pX0_lowest
      rw [il64, if_pos (nI_lt (by omega) (by omega))]
      rfl
    · intro j hj hE
      by_cases q3 : j = n + S - 1
      · have : Fc (n + S - 1) = Fm (n + S - 1) := hFc ▸ hF ▸ by rw [zfil_in _ _ (by omega) (by omega), zfil_in _ _ (by omega) (by omega)]
        rw [q3, zup_eq, zup_eq, this]
      · rw [zup_ne _ _ q3, zup_ne _ _ q3]
        exact hagree j hj hE
    · intro j h1 h2
      rw [zup_ne _ _ (by omega)]
      exact hFw j h1 h2
