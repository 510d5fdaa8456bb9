/-! ===== both write an object ===== -/
theorem z_obj {Z : CZ} (hd : zdist Z) : ∀ (d dp : Nat), dp ≤ 8 → 9 ≤ d + dp → zObj (pX1_writeObject d) Z dp := by
  intro d
  induction d with
  | zero => intro dp h1 h2; omega
  | succ d ih =>
    intro dp hdp h9 u v cn n l h E sh co po ed sg bg ct word k1 k2 k3 k4 hM g2 g3 g4 g5 g6 g7 g8 hw hEw g9 hEn
    have hR : dp + 1 ≤ 8 → zObj (pX1_writeObject d) Z (dp + 1) := fun q => ih (dp + 1) q (by omega)
    have k4' : obV (tI v 27 (nI l)) sh co po ed sg bg ct := by
      obtain ⟨p1, p2, p3, p4, p5, p6, p7, p8⟩ := k4
      exact ⟨by simp [vi_I, vl_I, va_I, vr_I, vi_L, vl_L, va_L, vr_L, vi_A, vl_A, vA_A, vr_A, vi_R, vl_R, va_R, vr_R, p1], by simp [vi_I, vl_I, va_I, vr_I, vi_L, vl_L, va_L, vr_L, vi_A, vl_A, vA_A, vr_A, vi_R, vl_R, va_R, vr_R, p2], by simp [vi_I, vl_I, va_I, vr_I, vi_L, vl_L, va_L, vr_L, vi_A, vl_A, vA_A, vr_A, vi_R, vl_R, va_R, vr_R, p3], by simp [vi_I, vl_I, va_I, vr_I, vi_L, vl_L, va_L, vr_L, vi_A, vl_A, vA_A, vr_A, vi_R, vl_R, va_R, vr_R, p4], by simp [vi_I, vl_I, va_I, vr_I, vi_L, vl_L, va_L, vr_L, vi_A, vl_A, vA_A, vr_A, vi_R, vl_R, va_R, vr_R, p5], by simp [vi_I, vl_I, va_I, vr_I, vi_L, vl_L, va_L, vr_L, vi_A, vl_A, vA_A, vr_A, vi_R, vl_R, va_R, vr_R, p6], fun q => by simp [vi_I, vl_I, va_I, vr_I, vi_L, vl_L, va_L, vr_L, vi_A, vl_A, vA_A, vr_A, vi_R, vl_R, va_R, vr_R]; exact p7 q, by simp [vi_I, vl_I, va_I, vr_I, vi_L, vl_L, va_L, vr_L, vi_A, vl_A, vA_A, vr_A, vi_R, vl_R, va_R, vr_R, p8]⟩
    have hct := k2.2.1
    have hrf : rfr h v (tI v 27 (nI l)) := rfr_I h v (Or.inl rfl) _
    have hM' : gMSG Z u (tI v 27 (nI l)) cn := gMSG_rf hM hrf
    have v21 : Vi (tI v 27 (nI l)) 21 = nI n := by simp [vi_I, g3]
    have v27 : Vi (tI v 27 (nI l)) 27 = nI l := by simp [vi_I]
    have v28 : Vi (tI v 27 (nI l)) 28 = nI h := by simp [vi_I, g6]
    have ey : Vi v 27 - (Vl v 12).toInt32 = nI l := by
      rw [g5, k4.2.2.2.2.2.2.2, lN_i, pk_sub (by omega), Nat.add_sub_cancel]
    have hconv : ∀ (r : CS × (Nat ⊕ Unit)) (v1 : MS), pX1_writeObject (d + 1) Z u (Zl Z dp) (nI word) = some r → pX6_write v (nI word) (nI dp) = some (v1, ()) → zOut Z dp u (tI v 27 (nI l)) cn n h E word r v1 → ∃ r v1, pX1_writeObject (d + 1) Z u (Zl Z dp) (nI word) = some r ∧ pX6_write v (nI word) (nI dp) = some (v1, ()) ∧ ffr Z dp u r.1 ∧
        ((r.2 = .inr () ∧ ∃ K v2 n' l', zRun v1 v2 K ∧ n ≤ n' ∧ K ≤ n' - n ∧ zSim Z r.1 v2 cn n' l' h E ∧ rfr h v v2 ∧ ∀ j, j < n → j ≠ word → Vr v2 22 j = Vr v 22 j) ∨
         (∃ e K w, r.2 = .inl e ∧ e ∈ [1, 2, 3, 4] ∧ K ≤ 64 - n ∧ zErr v1 w K ∧ Vi w 0 = lco1 e ∧ efr v w)) := fun r v1 e1 e2 e3 => by
      refine ⟨r, v1, e1, e2, e3.1, ?_⟩
      rcases e3.2 with ⟨q1, K, v2, n', l', q2, q3, q4, q5, q6, q7⟩ | ⟨e, K, w, q1, q2, q3, q4, q5, q6⟩
      · exact Or.inl ⟨q1, K, v2, n', l', q2, q3, q4, q5, rfr_t hrf q6, q7⟩
      · exact Or.inr ⟨e, K, w, q1, q2, q3, q4, q5, efr_t hrf q6⟩
    have hsh := k1.1
    have ew : pX6_write v (nI word) (nI dp) = (if nI sh = 0 then ((pX6_writeStruct (tI v 27 (nI l)) (nI word) (nI dp)).bind fun x_6 => some ((x_6.1), ())) else (if (8 : Int32) ≤ nI sh then ((pX6_writeElements (tI v 27 (nI l)) (nI word) (nI dp)).bind fun x_4 => some ((x_4.1), ())) else ((pX6_writeList (tI v 27 (nI l)) (nI word) (nI dp)).bind fun x_5 => some ((x_5.1), ())))) := by
      unfold pX6_write
      rw [ey, k4.1]
      rfl
    have k3c := k3
    obtain ⟨c0, c1, c2, c3, c4, c5, c6⟩ := k3c
    by_cases s0 : sh = 0
    · subst s0
      have hed := (k1.2.2.2.2.2.2.1 rfl).2
      subst hed
      obtain ⟨r, v1, e1, e2, e3⟩ := z_struct (R := pX1_writeObject d) hd hdp hR k1 k2 k3 k4' hM' g2 v21 g4 v27 v28 g7 g8 hw hEw g9 hEn
      refine hconv r v1 ?_ ?_ e3
      · rw [pX1_writeObject_s, c0, if_pos (show nI 0 = (0 : Int32) from rfl), e1]
        simp only [Option.bind_some]
        obtain ⟨ra, rb⟩ := r
        cases rb <;> rfl
      · rw [ew, if_pos (show nI 0 = (0 : Int32) from rfl), e2]
        rfl
    · have q0 : ¬ nI sh = (0 : Int32) := nI_ne0 (by omega) (by omega)
      by_cases s7 : sh = 7
      · subst s7
        obtain ⟨r, v1, e1, e2, e3⟩ := z_plist (R := pX1_writeObject d) hd hdp hR k1 k2 k3 k4' hM' g2 v21 g4 v27 v28 g7 g8 hw hEw g9 hEn
        refine hconv r v1 ?_ ?_ e3
        · rw [pX1_writeObject_s, c0, if_neg q0, if_pos (show nI 7 = (7 : Int32) from rfl), e1]
          simp only [Option.bind_some]
          obtain ⟨ra, rb⟩ := r
          cases rb <;> rfl
        · rw [ew, if_neg q0, if_neg (by decide), e2]
          rfl
      · have q7 : ¬ nI sh = (7 : Int32) := fun z => s7 ((nI_eq (b := 7) (by omega) (by omega)).mp z)
        by_cases s8 : sh = 8
        · subst s8
          obtain ⟨r, v1, e1, e2, e3⟩ := z_slist (R := pX1_writeObject d) hd hdp hR k1 k2 k3 k4' hM' g2 v21 g4 v27 v28 g7 g8 hw hEw g9 hEn
          refine hconv r v1 ?_ ?_ e3
          · rw [pX1_writeObject_s, c0, if_neg q0, if_neg q7, if_pos (show nI 8 = (8 : Int32) from rfl), e1]
            simp only [Option.bind_some]
            obtain ⟨ra, rb⟩ := r
            cases rb <;> rfl
          · rw [ew, if_neg q0, if_pos (by decide), e2]
            rfl
        · have q8 : ¬ nI sh = (8 : Int32) := fun z => s8 ((nI_eq (b := 8) (by omega) (by omega)).mp z)
          have q9 : ¬ (8 : Int32) ≤ nI sh := nI_ge (a := sh) (b := 8) (by omega) (by omega)
          obtain ⟨u1, v1, e1, e2, e3⟩ := z_flat (dp := dp) hd (show 1 ≤ sh by omega) (show sh ≤ 6 by omega) k1 k2 k3 k4' hM' g2 v21 g4 v27 v28 g7 g8 hw hEw g9
          refine hconv (u1, .inr ()) v1 ?_ ?_ e3
          · rw [pX1_writeObject_s, c0, if_neg q0, if_neg q7, if_neg q8, e1]
            rfl
          · rw [ew, if_neg q0, if_neg q9, e2]
            rfl
/-! ===== form ===== -/
theorem efr_tt {v v' v'' : MS} (a : efr v v') (b : efr v' v'') : efr v v'' := ⟨fun k h0 h1 h2 h3 h4 h5 h6 h7 h8 => (b.1 k h0 h1 h2 h3 h4 h5 h6 h7 h8).trans (a.1 k h0 h1 h2 h3 h4 h5 h6 h7 h8), fun q n => (b.2.1 q n).trans (a.2.1 q n), fun q n => (b.2.2 q n).trans (a.2.2 q n)⟩
theorem efr_r {h : Nat} {v v' : MS} (a : rfr h v v') : efr v v' := ⟨fun k _ h1 h2 h3 h4 h5 h6 h7 h8 => a.1 k h1 h2 h3 h4 h5 h6 h7 h8, a.2.1, a.2.2.1⟩
/-- what else is there stays -/
theorem Rel_ff {Z : CZ} {u u' : CS} {v w : MS} {hn l b fn kn : Nat} {cn : Nat → Nat} (hd : zdist Z) (hM : gMSG Z u v cn) (hH : gHND Z u v cn hn l) (hB : gBUD u v b) (hF : gFRM Z u v fn) (hK : gKPT Z u v kn) (f1 : ffr Z 0 u u') (f2 : efr v w) :
    gMSG Z u' w cn ∧ gHND Z u' w cn hn l ∧ gBUD u' w b ∧ gFRM Z u' w fn ∧ gKPT Z u' w kn := by
  obtain ⟨a1, a2, a3, a4⟩ := f1
  obtain ⟨b1, b2, b3⟩ := f2
  have hi : ∀ k, k ≠ 0 → k ≠ 5 → k ≠ 6 → k ≠ 7 → k ≠ 9 → k ≠ 10 → k ≠ 21 → k ≠ 27 → k ≠ 28 → Vi w k = Vi v k := b1
  have hh := hH.1
  refine ⟨gMSG_fr hM (fun s hs => a1 _ ?_) (fun s hs => a2 _ ?_) (b2 2 (by omega)) (b3 1 (by omega)), gHND_fr hH (a3 1 (by omega)) (a3 2 (by omega)) (fun k s hs => a4 k _ (fun e _ he q => ?_)) (hi 13 (by omega) (by omega) (by omega) (by omega) (by omega) (by omega) (by omega) (by omega) (by omega)) (hi 4 (by omega) (by omega) (by omega) (by omega) (by omega) (by omega) (by omega) (by omega) (by omega)) (fun k s h1 h2 _ => by rw [b2 k (by omega)]), gBUD_fr hB (a3 3 (by omega)) (hi 3 (by omega) (by omega) (by omega) (by omega) (by omega) (by omega) (by omega) (by omega) (by omega)), gFRM_fr hF (a1 _ ?_) (a2 _ ?_) (hi 23 (by omega) (by omega) (by omega) (by omega) (by omega) (by omega) (by omega) (by omega) (by omega)) (b3 24 (by omega)), gKPT_fr hK (a1 _ ?_) (a2 _ ?_) (hi 25 (by omega) (by omega) (by omega) (by omega) (by omega) (by omega) (by omega) (by omega) (by omega)) (b3 26 (by omega))⟩
  · rw [rw_s hs, rw_9]; exact zd_r hd (by omega) (by omega) (by omega)
  · rw [rw_s hs, rw_9]; exact zd_c hd (by omega) (by omega) (by omega)
  · rw [fd_h (by omega), fd_l he] at q
    exact zd_f hd (by omega) (by omega) (by omega) q
  · rw [rw_7, rw_9]; exact zd_r hd (by omega) (by omega) (by omega)
  · rw [rw_7, rw_9]; exact zd_c hd (by omega) (by omega) (by omega)
  · rw [rw_8, rw_9]; exact zd_r hd (by omega) (by omega) (by omega)
  · rw [rw_8, rw_9]; exact zd_c hd (by omega) (by omega) (by omega)
theorem T_form {Z : CZ} {u : CS} {v : MS} (hR : Rel Z u v) : ∃ res v' b, pX5_form Z u = some res ∧ pX6_form v = some (v', b) ∧ zBoth Z lco1 [1, 2, 3, 4] res v' b := by
  obtain ⟨hd, cn, hn, l, b, fn, kn, hM, hH, ⟨b1, b2, b3⟩, hF, hK⟩ := hR
  have hB : gBUD u v b := ⟨b1, b2, b3⟩
  obtain ⟨⟨u1, o1⟩, w, c, e1, e2, f1, f2, h⟩ := z_root (a := Zl Z 1) hM b3 b1
  have hfu : ffr Z 0 u u1 := ffr_z (dp := 0) (by omega) f1
  have hfw : rfr 0 v w := rfr_f f2
  rcases h with ⟨k, g, gk, rfl⟩ | ⟨rfl, co, po, sg, bg, ct, k1, k2, k3, g, k5, k6⟩
  · simp only at g
    subst g
    have hRR := Rel_ff hd hM hH hB hF hK hfu (efr_t hfw (efr_0 w (lco1 k)))
    refine ⟨(u1, .inl k), tI w 0 (lco1 k), 0, ?_, ?_, Or.inl ⟨u1, k, rfl, gk, by simp [vi_I], hd, cn, hn, l, b, fn, kn, hRR⟩⟩
    · unfold pX5_form pX1_writeRoot
      rw [b2, if_pos (by decide), show (1 : Int32).toNatClampNeg = 1 from rfl, e1]
      rfl
    · unfold pX6_form
      rw [e2]
      have : ¬ lco1 k = 0 := by
        simp only [List.mem_cons, List.not_mem_nil, or_false] at gk
        rcases gk with rfl | rfl | rfl | rfl <;> decide
      simp only [Option.bind_some, if_neg this]
  · simp only at g k5
    subst g
    have hw3 : Vi w 3 = nI b := (f2.2 3 (by omega) (by omega) (by omega) (by omega) (by omega)).trans b3
    have h12 : Vl w 12 = lN ct := k6.2.2.2.2.2.2.2
    generalize hu2 : dW Z (sI u1 0 (nI (b - ct))) 1 (vp_updL (Uc u1 (Zc Z (Zz Z 9))) 0 0) = u2
    generalize hw2 : tI (eW (tI (tI (tI w 0 0) 27 (nI b)) 28 0) 1 (vp_updL (Vr w 22) 0 0)) 27 (nI (b - ct)) = w2
    have hff2 : ffr Z 0 u u2 := by
      rw [← hu2]
      exact ffr_t hfu (ffr_t (ffr_I Z 0 u1 _) (ffr_D Z 0 _ _ _))
    have hef2 : efr v w2 := by
      rw [← hw2]
      exact efr_t hfw (efr_tt (efr_0 w 0) (efr_r (h := 0) (rfr_t (rfr_I 0 _ (Or.inl rfl) _) (rfr_t (rfr_I 0 _ (Or.inr rfl) _) (rfr_t (rfr_E 0 _ _ _) (rfr_I 0 _ (Or.inl rfl) _))))))
    have hM2 : gMSG Z u2 w2 cn := (Rel_ff hd hM hH hB hF hK hff2 hef2).1
    obtain ⟨r, v1, i1, i2, i3, i4⟩ := z_struct (R := pX1_writeObject 9) (Z := Z) (dp := 1) hd (by omega) (fun _ => z_obj hd 9 2 (by omega) (by omega)) (u := u2) (v := w2) (cn := cn) (n := 1) (l := b - ct) (h := 0) (E := fun _ => False) (word := 0) k1 k2 (by
        rw [← hu2]
        exact k5) (by
        obtain ⟨p1, p2, p3, p4, p5, p6, p7, p8⟩ := k6
        rw [← hw2]
        exact ⟨by simp [vi_E, vi_I, vl_I, va_I, vr_I, vi_L, vl_L, va_L, vr_L, vi_A, vl_A, vA_A, vr_A, vi_R, vl_R, va_R, vr_R, p1], by simp [vi_E, vi_I, vl_I, va_I, vr_I, vi_L, vl_L, va_L, vr_L, vi_A, vl_A, vA_A, vr_A, vi_R, vl_R, va_R, vr_R, p2], by simp [vi_E, vi_I, vl_I, va_I, vr_I, vi_L, vl_L, va_L, vr_L, vi_A, vl_A, vA_A, vr_A, vi_R, vl_R, va_R, vr_R, p3], by simp [vl_E, vi_I, vl_I, va_I, vr_I, vi_L, vl_L, va_L, vr_L, vi_A, vl_A, vA_A, vr_A, vi_R, vl_R, va_R, vr_R, p4], by simp [vi_E, vi_I, vl_I, va_I, vr_I, vi_L, vl_L, va_L, vr_L, vi_A, vl_A, vA_A, vr_A, vi_R, vl_R, va_R, vr_R, p5], by simp [vi_E, vi_I, vl_I, va_I, vr_I, vi_L, vl_L, va_L, vr_L, vi_A, vl_A, vA_A, vr_A, vi_R, vl_R, va_R, vr_R, p6], fun q => by simp [vl_E, vi_I, vl_I, va_I, vr_I, vi_L, vl_L, va_L, vr_L, vi_A, vl_A, vA_A, vr_A, vi_R, vl_R, va_R, vr_R]; exact p7 q, by simp [vl_E, vi_I, vl_I, va_I, vr_I, vi_L, vl_L, va_L, vr_L, vi_A, vl_A, vA_A, vr_A, vi_R, vl_R, va_R, vr_R, p8]⟩) hM2 (by rw [← hu2]; exact us_D9 _ _ _ _) (by rw [← hw2]; simp [vi_I, vi_E21]) (by rw [← hu2, ui_D]; simp [ui_I]) (by rw [← hw2]; simp [vi_I]) (by rw [← hw2]; simp [vi_I, vi_E, nI_0]) (by omega) (by omega) (by omega) (fun q => q) (by
        intro j hj _
        have : j = 0 := by omega
        subst this
        rw [← hu2, ← hw2, uc_D9, vr_I, vr_E22, zup_eq, zup_eq]) (fun j q => q.elim)
    have ecl : pX5_form Z u = ((some r).bind fun x_8 => match x_8.2 with | .inl j => some (x_8.1, .inl j) | .inr r_1 => ((pX4_become Z (x_8.1) (Zz Z 7) (Zz Z 9)).bind fun x_2 => some ((x_2.1), .inr (Us (x_2.1) (Zz Z 7))))) := by
      have ea : pX4_append Z (sS (sI u1 0 (nI (b - ct))) (Zz Z 9) 0) (Zz Z 9) 0 = some (u2, 1) := by
        unfold pX4_append
        rw [show Us (sS (sI u1 0 (nI (b - ct))) (Zz Z 9) 0) (Zz Z 9) = 0 by rw [us_S, if_pos rfl], if_pos (by decide), if_pos (by decide), ← hu2]
        show some ((sS (sC (sS (sI u1 0 (nI (b - ct))) (Zz Z 9) 0) (Zc Z (Zz Z 9)) (vp_updL (Uc u1 (Zc Z (Zz Z 9))) 0 0)) (Zz Z 9) (nI 1) : CS), (1 : Int32)) = _
        congr 2
        show ((u1.1, mu (mu u1.2.1 (Zz Z 9) 0) (Zz Z 9) (nI 1), _, _) : CS) = (u1.1, mu u1.2.1 (Zz Z 9) (nI 1), _, _)
        rw [mu_mu]
        rfl
      unfold pX5_form pX1_writeRoot
      rw [b2, if_pos (by decide), show (1 : Int32).toNatClampNeg = 1 from rfl, e1]
      simp only [Option.bind_some]
      rw [pk_sub k3, ea]
      simp only [Option.bind_some]
      rw [show (0 : Int32) = nI 0 from rfl, i1]
      simp only [Option.bind_some]
      obtain ⟨ra, rb⟩ := r
      cases rb <;> rfl
    have ecm : pX6_form v = pX6_form_46 300 v1 := by
      have ep : pX6_put (tI (tI (tI (tI w 0 0) 27 (nI b)) 28 0) 21 0) 0 = some (eW (tI (tI (tI w 0 0) 27 (nI b)) 28 0) 1 (vp_updL (Vr w 22) 0 0), ()) := by
        rw [m_put (n := 0) (by simp [vi_I]; rfl) (by omega)]
        congr 2
        refine ms_ext (fun k => ?_) (fun k => rfl) (fun k j => rfl) (fun k => ?_)
        · rw [vi_E, vi_E, vi_I]
          by_cases q : k = 21
          · rw [if_pos q, if_pos q]
          · rw [if_neg q, if_neg q, if_neg q]
        · rw [vr_E, vr_E]
          rfl
      have ewr : pX6_write (eW (tI (tI (tI w 0 0) 27 (nI b)) 28 0) 1 (vp_updL (Vr w 22) 0 0)) 0 1 = some (v1, ()) := by
        unfold pX6_write
        rw [show Vi (eW (tI (tI (tI w 0 0) 27 (nI b)) 28 0) 1 (vp_updL (Vr w 22) 0 0)) 27 = nI b by simp [vi_E, vi_I], show Vl (eW (tI (tI (tI w 0 0) 27 (nI b)) 28 0) 1 (vp_updL (Vr w 22) 0 0)) 12 = lN ct from h12, lN_i, pk_sub k3]
        simp only [Option.bind_some]
        rw [show Vi (eW (tI (tI (tI w 0 0) 27 (nI b)) 28 0) 1 (vp_updL (Vr w 22) 0 0)) 5 = 0 by simp [vi_E, vi_I, k6.1, nI_0], if_pos rfl, hw2]
        have i2' : pX6_writeStruct w2 0 1 = some (v1, ()) := i2
        rw [i2']
        rfl
      unfold pX6_form
      rw [e2]
      simp only [Option.bind_some, if_true]
      rw [hw3, ep]
      simp only [Option.bind_some]
      rw [ewr]
      rfl
    have hffr : ffr Z 0 u r.1 := ffr_t hff2 (ffr_m (by omega) i3)
    obtain ⟨ur, orr⟩ := r
    simp only at hffr
    rcases i4 with ⟨q1, K, v2, n', l', q2, q3, q4, q5, q6, q7⟩ | ⟨e, K, w', q1, q2, q3, q4, q5, q6⟩
    · simp only at q1 q5
      subst q1
      obtain ⟨s1, s2, s3, s4, s5, s6, s7, s8, s9⟩ := q5
      have hev : efr v v2 := efr_tt hef2 (efr_r q6)
      have hRR := Rel_ff hd hM hH hB hF hK hffr hev
      have v20 : Vi v2 0 = 0 := by
        rw [q6.1 0 (by omega) (by omega) (by omega) (by omega) (by omega) (by omega) (by omega) (by omega), ← hw2]
        simp [vi_I, vi_E]
      have erun : pX6_form_46 300 v1 = some (tW (tI v2 23 (nI n')) 24 (zcp (Vr v2 22) (Vr v2 24) 0 n'), nI n') := by
        have := q2 (300 - K)
        rw [show 300 - K + K = 300 by omega] at this
        rw [this, show 300 - K = (299 - K) + 1 by omega, pX6_form_46_s, s6, if_pos (by decide), s3]
        simp only [Option.bind_some]
        have e185 := m_form (fn := n') (by omega) n' 300 0 (tI v2 23 (nI n')) (by omega) (by omega) (by simp [vi_I, s3])
        exact e185
      refine ⟨(sS (sC ur (Zc Z (Zz Z 7)) (zcp (Uc ur (Zc Z (Zz Z 9))) (Uc ur (Zc Z (Zz Z 7))) 0 n')) (Zz Z 7) (nI n'), .inr (nI n')), tW (tI v2 23 (nI n')) 24 (zcp (Vr v2 22) (Vr v2 24) 0 n'), nI n', ?_, ecm.trans erun, Or.inr ⟨_, rfl, ?_, hd, cn, hn, l, b, n', kn, ?_⟩⟩
      · rw [ecl]
        simp only [Option.bind_some]
        rw [c_become s2 (by omega)]
        simp only [Option.bind_some]
        rw [us_S, if_pos rfl]
      · rw [vi_W, vi_I, if_neg (by omega), v20]
      · obtain ⟨r1, r2, r3, r4, r5⟩ := hRR
        refine ⟨gMSG_fr r1 ?_ ?_ rfl (by rw [vr_W, if_neg (by omega)]; rfl), gHND_fr r2 rfl rfl (fun _ _ _ => rfl) (by simp [vi_W, vi_I]) (by simp [vi_W, vi_I]) (fun _ _ _ _ _ => rfl), gBUD_fr r3 rfl (by simp [vi_W, vi_I]), ⟨by omega, ?_, ?_, ?_⟩, gKPT_fr r5 ?_ ?_ (by simp [vi_W, vi_I]) (by rw [vr_W, if_neg (by omega)]; rfl)⟩
        · intro s hs
          simp [uf_F, us_F, uc_F, ui_F, uf_S, us_S, uc_S, ui_S, uf_C, us_C, uc_C, ui_C, uf_I, us_I, uc_I, ui_I, rw_7, rw_s hs, rwI hd (show s < 7 by omega) (show 4 < 7 by omega)]
          intro q; omega
        · intro s hs
          simp [uf_F, us_F, uc_F, ui_F, uf_S, us_S, uc_S, ui_S, uf_C, us_C, uc_C, ui_C, uf_I, us_I, uc_I, ui_I, rw_7, rw_s hs, rcI hd (show s < 7 by omega) (show 4 < 7 by omega)]
          intro q; omega
        · rw [us_S, if_pos rfl]
        · rw [if_neg (by omega)]
          simp [vi_W, vi_I]
        · intro j hj
          rw [uc_S, uc_C, if_pos rfl, vr_W, if_pos rfl]
          unfold zcp
          rw [if_pos ⟨Nat.zero_le _, hj⟩, if_pos ⟨Nat.zero_le _, hj⟩]
          exact s9 j hj (fun q => q)
        · simp [uf_F, us_F, uc_F, ui_F, uf_S, us_S, uc_S, ui_S, uf_C, us_C, uc_C, ui_C, uf_I, us_I, uc_I, ui_I, rw_7, rw_8, rwI hd (show 5 < 7 by omega) (show 4 < 7 by omega)]
        · simp [uf_F, us_F, uc_F, ui_F, uf_S, us_S, uc_S, ui_S, uf_C, us_C, uc_C, ui_C, uf_I, us_I, uc_I, ui_I, rw_7, rw_8, rcI hd (show 5 < 7 by omega) (show 4 < 7 by omega)]
    · simp only at q1
      subst q1
      have hRR := Rel_ff hd hM hH hB hF hK hffr (efr_tt hef2 q6)
      refine ⟨(ur, .inl e), w', 0, ecl, ?_, Or.inl ⟨ur, e, rfl, q2, q5, hd, cn, hn, l, b, fn, kn, hRR⟩⟩
      rw [ecm]
      have := q4 (300 - K)
      rw [show 300 - K + K = 300 by omega] at this
      exact this
