/-! ===== both write a struct ===== -/
def zOut (Z : CZ) (dp : Nat) (u : CS) (v : MS) (cn : Nat → Nat) (n h : Nat) (E : Nat → Prop) (word : Nat) (r : CS × (Nat ⊕ Unit)) (v1 : MS) : Prop :=
  ffr Z dp u r.1 ∧ ((r.2 = .inr () ∧ ∃ K v2 n' l', zRun v1 v2 K ∧ n ≤ n' ∧ K ≤ n' - n ∧ zSim Z r.1 v2 cn n' l' h E ∧ rfr h v v2 ∧ ∀ j, j < n → j ≠ word → Vr v2 22 j = Vr v 22 j) ∨
     (∃ e K w, r.2 = .inl e ∧ e ∈ [1, 2, 3, 4] ∧ K ≤ 64 - n ∧ zErr v1 w K ∧ Vi w 0 = lco1 e ∧ efr v w))
theorem z_struct {R : zRT} {Z : CZ} {dp : Nat} (hd : zdist Z) (hdp : dp ≤ 8) (hR : dp + 1 ≤ 8 → zObj R Z (dp + 1)) {u : CS} {v : MS} {cn : Nat → Nat} {n l h : Nat} {E : Nat → Prop} {co po sg bg ct word : Nat}
    (k1 : obOk cn 0 co po 0 sg bg) (k2 : obK 0 co po 0 ct) (k3 : obF u (Zl Z dp) 0 co po 0 sg bg dp) (k4 : obV v 0 co po 0 sg bg ct) (hM : gMSG Z u v cn) (g2 : Us u (Zz Z 9) = nI n) (g3 : Vi v 21 = nI n) (g4 : Ui u 0 = nI l) (g5 : Vi v 27 = nI l) (g6 : Vi v 28 = nI h) (g7 : n + l + ct ≤ 64) (g8 : h ≤ n) (hw : word < n) (hEw : ¬ E word) (g9 : ∀ j, j < n → ¬ E j → Uc u (Zc Z (Zz Z 9)) j = Vr v 22 j) (hEn : ∀ j, E j → j < n) :
    ∃ r v1, pX1_writeStruct R Z u (Zl Z dp) (nI word) = some r ∧ pX6_writeStruct v (nI word) (nI dp) = some (v1, ()) ∧ zOut Z dp u v cn n h E word r v1 := by
  obtain ⟨c0, c1, c2, c3, c4, c5, c6⟩ := k3
  obtain ⟨m1, m2, m3, m4, m5, m6, m7, m8⟩ := k4
  obtain ⟨o1, o2, o3, o4, o5, o6, o7, o8, o9⟩ := k1
  have o7' := (o7 rfl).1
  have kc := k2.2.2.1 rfl
  have hcs := (hM sg o2).1
  generalize hd' : zus (fun k => Vr v 1 (64 * sg + (bg + k))) co = d
  generalize hp' : zus (fun k => Vr v 1 (64 * sg + (bg + co + k))) po = p
  have hdc : d ≤ co := by rw [← hd']; exact zus_le _ _
  have hpc : p ≤ po := by rw [← hp']; exact zus_le _ _
  have eu1 : pX3_usedWords Z u (nI sg) (nI bg) (nI co) = some (nI d) := by rw [c_used hM o2 (by omega), hd']
  have eu2 : pX3_usedWords Z u (nI sg) (nI (bg + co)) (nI po) = some (nI p) := by rw [c_used hM o2 (by omega), hp']
  have em := m_wStruct (v := v) (word := word) (dep := dp) m2 m3 m4 m6 g3 g6 o2 (by omega) hw hd'.symm hp'.symm (by omega) (by omega)
  generalize hF : zfil (zfil (vp_updL (Vr v 22) word (zSP word n d p)) n d (fun k => Vr v 1 (64 * sg + (bg + k)))) (n + d) p (fun _ => 0) = Fm at em
  generalize hFc : zfil (vp_updL (zfil (Uc u (Zc Z (Zz Z 9))) n (d + p) (fun _ => 0)) word (zSP word n d p)) n d (fun k => Vr v 1 (64 * sg + (bg + k))) = Fc
  have eg := c_grow (Z := Z) (u := u) (n := n) (c := d + p) g2 (by omega)
  have ep := c_put (Z := Z) (u := dW Z u (n + (d + p)) (zfil (Uc u (Zc Z (Zz Z 9))) n (d + p) (fun _ => 0))) (n := n + (d + p)) (t := word) (us_D9 _ _ _ _) (by omega) (by omega) (zSP word n d p)
  rw [uc_D9, dW_dW] at ep
  have ec := c_copy (Z := Z) (u := dW Z u (n + (d + p)) (vp_updL (zfil (Uc u (Zc Z (Zz Z 9))) n (d + p) (fun _ => 0)) word (zSP word n d p))) (v := v) (cn := cn) (a := Zl Z dp) (s := sg) (i := bg) (c := d) (t := n) (n := n + (d + p)) hd (gMSG_dW hd hM _ _) (us_D9 _ _ _ _) (by omega) c4 o2 (by omega) (by omega)
  rw [uc_D9, dW_dW, hFc] at ec
  have hagree : ∀ j, j < n + d + p → ¬ E j → Fc j = Fm j := fun j hj hE => by
    rw [← hFc, ← hF]
    by_cases q1 : n + d ≤ j
    · rw [zfil_out _ _ (by omega), zup_ne _ _ (by omega), zfil_in _ _ (by omega) (by omega), zfil_in _ _ q1 hj]
    · rw [zfil_out (j := j) (n := n + d) _ _ (by omega)]
      by_cases q2 : n ≤ j
      · rw [zfil_in _ _ q2 (by omega), zfil_in _ _ q2 (by omega)]
      · rw [zfil_out _ _ (by omega), zfil_out _ _ (by omega)]
        by_cases q3 : j = word
        · rw [q3, zup_eq, zup_eq]
        · rw [zup_ne _ _ q3, zup_ne _ _ q3, zfil_out _ _ (by omega)]
          exact g9 j (by omega) hE
  have hrv : rfr h v (aW (eW v (n + d + p) Fm) h (h + p) (zG (n + d) sg (bg + co) dp h p)) := rfr_t (rfr_E h v _ _) (rfr_A h _ _ _)
  have hsim : zSim Z (dW Z u (n + (d + p)) Fc) (aW (eW v (n + d + p) Fm) h (h + p) (zG (n + d) sg (bg + co) dp h p)) cn (n + d + p) l (h + p) E := by
    refine ⟨gMSG_rf (gMSG_dW hd hM _ _) hrv, ?_, ?_, ?_, ?_, ?_, by omega, by omega, ?_⟩
    · rw [us_D9, Nat.add_assoc]
    · rw [vi_W2, if_neg (by omega), vi_E21]
    · rw [ui_D]; exact g4
    · rw [vi_W2, if_neg (by omega), vi_E, if_neg (by omega)]; exact g5
    · rw [vi_W2, if_pos rfl]
    · intro j hj hE
      rw [uc_D9, vr_W2, vr_E22]
      exact hagree j hj hE
  obtain ⟨res, i1, i2, i3⟩ := z_ptrs (R := R) (Z := Z) (dp := dp) hd hdp hR (cn := cn) (sg := sg) (b := bg + co) (c := p) (t := n + d) (h := h) (E := E) o2 hcs (by omega) (fun m hm q => by have := hEn _ q; omega) p 0 (dW Z u (n + (d + p)) Fc) _ (n + d + p) l 300 (by omega) (by omega) c4 c6 (by omega) hsim (fun m _ hm => by
    have hp : ∀ q, 29 ≤ q → q ≤ 32 → Va (aW (eW v (n + d + p) Fm) h (h + p) (zG (n + d) sg (bg + co) dp h p)) q (h + (p - 1 - m)) = zG (n + d) sg (bg + co) dp h p q (h + (p - 1 - m)) := fun q h1 h2 => by
      rw [va_W2, if_pos (by omega)]
    have e0 : p - 1 - (h + (p - 1 - m) - h) = m := by omega
    refine ⟨(hp 29 (by omega) (by omega)).trans ?_, (hp 30 (by omega) (by omega)).trans rfl, (hp 31 (by omega) (by omega)).trans ?_, (hp 32 (by omega) (by omega)).trans rfl⟩
    · show nI (n + d + (p - 1 - (h + (p - 1 - m) - h))) = _
      rw [e0]
    · show nI (bg + co + (p - 1 - (h + (p - 1 - m) - h))) = _
      rw [e0]) (fun j q => by have := hEn j q; omega)
  have hw22 : ∀ j, j < n → j ≠ word → Vr (aW (eW v (n + d + p) Fm) h (h + p) (zG (n + d) sg (bg + co) dp h p)) 22 j = Vr v 22 j := fun j h1 h2 => by
    rw [vr_W2, vr_E22, ← hF, zfil_out _ _ (by omega), zfil_out _ _ (by omega), zup_ne _ _ h2]
  refine ⟨res, _, ?_, em, ffr_t (ffr_D Z dp u _ _) i2, ?_⟩
  · have efp : pX2_firstPointer Z u (Zl Z dp) = nI (bg + co) := by
      unfold pX2_firstPointer
      rw [c0, if_pos (show nI 0 = 0 from rfl), c5, c1, nI_add]
    have eend : ∀ (X : Int64), X = zSP word n d p → ((pX4_put Z (dW Z u (n + (d + p)) (zfil (Uc u (Zc Z (Zz Z 9))) n (d + p) (fun _ => 0))) (Zz Z 9) (nI word) X).bind fun x_15 => ((pX1_copyWords Z (x_15.1) (Zl Z dp) (Uf (x_15.1) 5 (Zl Z dp)) (nI d) (nI n)).bind fun x_18 => ((pX1_writePointers R Z (x_18.1) (Zl Z dp) (nI (bg + co)) (nI p) (nI n + nI d)).bind fun x_19 => (some x_19 : Option (CS × (Nat ⊕ Unit)))))) = some res := fun X hX => by
      rw [hX, ep]
      simp only [Option.bind_some]
      rw [uf_D, c5, ec]
      simp only [Option.bind_some]
      rw [nI_add]
      unfold pX1_writePointers
      rw [show (0 : Int32) = nI 0 from rfl, i1]
      rfl
    have emx : ∀ x : CS × (Nat ⊕ Unit), (match x.2 with | .inl j => some (x.1, Sum.inl j) | .inr _ => some (x.1, Sum.inr ()) : Option (CS × (Nat ⊕ Unit))) = some x := fun x => by
      obtain ⟨a, b⟩ := x
      cases b <;> rfl
    unfold pX1_writeStruct
    rw [efp, c4, c5, c1, c2]
    simp only [Option.bind_some]
    rw [eu1]
    simp only [Option.bind_some]
    rw [eu2]
    simp only [Option.bind_some]
    rw [nI_add, eg]
    simp only [Option.bind_some]
    by_cases q : d + p = 0
    · rw [if_pos (by rw [q]; rfl)]
      have q1 : d = 0 := by omega
      have q2 : p = 0 := by omega
      refine Eq.trans ?_ (eend (pX0_structPointer (-1) (nI d) (nI p)) (by rw [q1, q2]; unfold zSP; rw [if_pos rfl]; exact w_empty))
      congr 1
      funext x
      congr 1
      funext y
      congr 1
      funext z
      exact emx z
    · rw [if_neg (nI_ne0 (by omega) (by omega))]
      refine Eq.trans ?_ (eend (pX0_structPointer (nI n - nI word - 1) (nI d) (nI p)) (by unfold zSP; rw [if_neg q]; exact w_struct _ _ _ _))
      congr 1
      funext x
      congr 1
      funext y
      congr 1
      funext z
      exact emx z
  · rcases i3 with ⟨q1, K, v2, n', l', q2, q3, q4, q5, q6, q7⟩ | ⟨e, K, w, q1, q2, q3, q4, q5, q6⟩
    · exact Or.inl ⟨q1, K, v2, n', l', q2, by omega, by omega, q5, rfr_t hrv q6, fun j h1 h2 => by rw [q7 j (by omega) (by omega), hw22 j h1 h2]⟩
    · exact Or.inr ⟨e, K, w, q1, q2, by omega, q4, q5, efr_t hrv q6⟩
