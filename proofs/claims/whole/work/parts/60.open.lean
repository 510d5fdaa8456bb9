/-! ===== open ===== -/
theorem Rel_zm {Z : CZ} {u u' : CS} {v w : MS} {a hn l b fn kn : Nat} {cn : Nat → Nat} (hd : zdist Z) (hM : gMSG Z u v cn) (hH : gHND Z u v cn hn l) (hB : gBUD u v b) (hF : gFRM Z u v fn) (hK : gKPT Z u v kn) (f1 : zfr a u u') (f2 : mfr v w) (hn2 : ∀ s, s < hn → Zh Z s ≠ a) :
    gMSG Z u' w cn ∧ gHND Z u' w cn hn l ∧ gBUD u' w b ∧ gFRM Z u' w fn ∧ gKPT Z u' w kn := by
  have e1 : Us u' = Us u := congrArg Prod.fst f1.1
  have e2 : Uc u' = Uc u := congrArg (fun x => x.2.1) f1.1
  have e3 : Ui u' = Ui u := congrArg (fun x => x.2.2) f1.1
  have e4 : Va w = Va v := congrArg Prod.fst f2.1
  have e5 : Vr w = Vr v := congrArg Prod.snd f2.1
  have e6 : ∀ k, k ≠ 5 → k ≠ 6 → k ≠ 7 → k ≠ 9 → k ≠ 10 → Vi w k = Vi v k := f2.2
  refine ⟨gMSG_zm hM f1 f2, gHND_fr hH (by rw [e3]) (by rw [e3]) (fun k s hs => f1.2 k _ (hn2 s hs)) (e6 13 (by omega) (by omega) (by omega) (by omega) (by omega)) (e6 4 (by omega) (by omega) (by omega) (by omega) (by omega)) (fun k s _ _ _ => by rw [e4]), gBUD_fr hB (by rw [e3]) (e6 3 (by omega) (by omega) (by omega) (by omega) (by omega)), gFRM_fr hF (by rw [e1]) (by rw [e2]) (e6 23 (by omega) (by omega) (by omega) (by omega) (by omega)) (by rw [e5]), gKPT_fr hK (by rw [e1]) (by rw [e2]) (e6 25 (by omega) (by omega) (by omega) (by omega) (by omega)) (by rw [e5])⟩
theorem c_bec (Z : CZ) (u : CS) (a0 a1 : Nat) : pX2_become Z u a0 a1 = some (sF (sF (sF (sF (sF (sF (sF u 0 a0 (Uf u 0 a1)) 1 a0 (Uf u 1 a1)) 2 a0 (Uf u 2 a1)) 3 a0 (Uf u 3 a1)) 4 a0 (Uf u 4 a1)) 5 a0 (Uf u 5 a1)) 6 a0 (Uf u 6 a1), ()) := rfl
/-- the new handle's fields in the reference -/
theorem m_hold2 {w : MS} {hn sh co po ed sg bg ct dp : Nat} (h : Vi w 13 = nI hn) (hh : hn < 16) (k : obV w sh co po ed sg bg ct) : ∃ w', pX6_hold w (nI dp) = some (w', nI hn) ∧ Vi w' 13 = nI (hn + 1) ∧ obR w' hn sh co po ed sg bg dp ∧ (∀ j, j ≠ 13 → Vi w' j = Vi w j) ∧ Vl w' = Vl w ∧ Vr w' = Vr w ∧ Va w' 2 = Va w 2 ∧ (∀ q s, s ≠ hn → Va w' q s = Va w q s) := by
  obtain ⟨k1, k2, k3, k4, k5, k6, k7, k8⟩ := k
  refine ⟨_, m_hold h hh _, by simp [vi_I, vl_I, va_I, vr_I, vi_L, vl_L, va_L, vr_L, vi_A, vl_A, vA_A, vr_A, vi_R, vl_R, va_R, vr_R], ?_, fun j hj => by simp [vi_I, vl_I, va_I, vr_I, vi_L, vl_L, va_L, vr_L, vi_A, vl_A, vA_A, vr_A, vi_R, vl_R, va_R, vr_R, hj], rfl, rfl, by simp [va_A', vi_I, vl_I, va_I, vr_I, vi_L, vl_L, va_L, vr_L, vi_A, vl_A, vA_A, vr_A, vi_R, vl_R, va_R, vr_R], fun q s hs => by simp [vi_I, vl_I, va_I, vr_I, vi_L, vl_L, va_L, vr_L, vi_A, vl_A, vA_A, vr_A, vi_R, vl_R, va_R, vr_R, hs]⟩
  unfold obR
  simp [vi_I, vl_I, va_I, vr_I, vi_L, vl_L, va_L, vr_L, vi_A, vl_A, vA_A, vr_A, vi_R, vl_R, va_R, vr_R, k1, k2, k3, k4, k5, k6, lN_i]
theorem T_open {Z : CZ} {u : CS} {v : MS} (hR : Rel Z u v) : ∃ res v' b, pX5_open Z u = some res ∧ pX6_open v = some (v', b) ∧ zBoth Z lco1 [1, 2, 3, 4] res v' b := by
  obtain ⟨hd, cn, hn, l, b, fn, kn, hM, hH, ⟨b1, b2, b3⟩, hF, hK⟩ := hR
  obtain ⟨⟨u1, o1⟩, w, c, e1, e2, f1, f2, h⟩ := z_root (a := Zz Z 6) hM b3 b1
  have hne : ∀ s, s < hn → Zh Z s ≠ Zz Z 6 := fun s hs => by
    have := hH.1
    rw [fd_h (by omega), fd_6]
    exact zd_f hd (by omega) (by omega) (by omega)
  have hRR := Rel_zm hd hM hH ⟨b1, b2, b3⟩ hF hK f1 f2 hne
  rcases h with ⟨k, g, gk, rfl⟩ | ⟨rfl, co, po, sg, bg, ct, k1, k2, k3, g, k5, k6⟩
  · simp only at g
    subst g
    refine ⟨(u1, .inl k), tI w 0 (lco1 k), 0, ?_, ?_, Or.inl ⟨u1, k, rfl, gk, by simp [vi_I], Rel_0 ⟨hd, cn, hn, l, b, fn, kn, hRR⟩ _⟩⟩
    · unfold pX5_open
      rw [b2, e1]
      rfl
    · unfold pX6_open
      rw [e2]
      have : ¬ lco1 k = 0 := by
        simp only [List.mem_cons, List.not_mem_nil, or_false] at gk
        rcases gk with rfl | rfl | rfl | rfl <;> decide
      simp only [Option.bind_some, if_neg this]
  · simp only at g k5
    subst g
    have hne0 : ¬ Zz Z 6 = Zh Z 0 := fun q => by
      rw [fd_6, fd_h (by omega)] at q
      exact zd_f hd (by omega) (by omega) (by omega) q
    have hw3 : Vi w 3 = nI b := hRR.2.2.1.2.2
    have hu3 : Ui u1 3 = nI b := hRR.2.2.1.2.1
    have h12 : Vl w 12 = lN ct := k6.2.2.2.2.2.2.2
    have h11 : Vl w 11 = lN (co + po) := k6.2.2.2.2.2.2.1 (by omega)
    obtain ⟨w', q1, q2, q3, q4, q5, q6, q7, q8⟩ := m_hold2 (w := tI (tI (tI w 0 0) 13 0) 4 (nI (b - ct))) (hn := 0) (dp := 1) (by simp [vi_I]; rfl) (by omega) (sh := 0) (co := co) (po := po) (ed := 0) (sg := sg) (bg := bg) (ct := ct) (by
      obtain ⟨p1, p2, p3, p4, p5, p6, p7, p8⟩ := k6
      exact ⟨by simp [vi_I, vl_I, va_I, vr_I, vi_L, vl_L, va_L, vr_L, vi_A, vl_A, vA_A, vr_A, vi_R, vl_R, va_R, vr_R, p1], by simp [vi_I, vl_I, va_I, vr_I, vi_L, vl_L, va_L, vr_L, vi_A, vl_A, vA_A, vr_A, vi_R, vl_R, va_R, vr_R, p2], by simp [vi_I, vl_I, va_I, vr_I, vi_L, vl_L, va_L, vr_L, vi_A, vl_A, vA_A, vr_A, vi_R, vl_R, va_R, vr_R, p3], by simp [vi_I, vl_I, va_I, vr_I, vi_L, vl_L, va_L, vr_L, vi_A, vl_A, vA_A, vr_A, vi_R, vl_R, va_R, vr_R, p4], by simp [vi_I, vl_I, va_I, vr_I, vi_L, vl_L, va_L, vr_L, vi_A, vl_A, vA_A, vr_A, vi_R, vl_R, va_R, vr_R, p5], by simp [vi_I, vl_I, va_I, vr_I, vi_L, vl_L, va_L, vr_L, vi_A, vl_A, vA_A, vr_A, vi_R, vl_R, va_R, vr_R, p6], fun q => by simp [vi_I, vl_I, va_I, vr_I, vi_L, vl_L, va_L, vr_L, vi_A, vl_A, vA_A, vr_A, vi_R, vl_R, va_R, vr_R]; exact p7 q, by simp [vi_I, vl_I, va_I, vr_I, vi_L, vl_L, va_L, vr_L, vi_A, vl_A, vA_A, vr_A, vi_R, vl_R, va_R, vr_R, p8]⟩)
    obtain ⟨g0, g1, g2, g3, g4, g5, g6⟩ := k5
    refine ⟨(sI (sI (sF (sF (sF (sF (sF (sF (sF u1 0 (Zh Z 0) (nI 0)) 1 (Zh Z 0) (nI co)) 2 (Zh Z 0) (nI po)) 3 (Zh Z 0) (nI 0)) 4 (Zh Z 0) (nI sg)) 5 (Zh Z 0) (nI bg)) 6 (Zh Z 0) (nI 1)) 1 1) 2 (nI (b - ct)), .inr (nI (co + po))), w', nI (co + po), ?_, ?_, Or.inr ⟨_, rfl, ?_, hd, cn, 1, b - ct, b, fn, kn, ?_⟩⟩
    · unfold pX5_open
      rw [b2, e1]
      simp only [Option.bind_some, c_bec, g0, g1, g2, g3, g4, g5, g6]
      rw [if_pos (by decide), show (0 : Int32).toNatClampNeg = 0 from rfl]
      simp only [uf_F, us_F, uc_F, ui_F, uf_S, us_S, uc_S, ui_S, uf_C, us_C, uc_C, ui_C, uf_I, us_I, uc_I, ui_I, hu3, pk_sub k3, g1, g2, nI_add, hne0, and_false, if_false]
    · unfold pX6_open
      rw [e2]
      simp only [Option.bind_some, if_true, hw3, h12, lN_i, pk_sub k3]
      rw [il1, q1]
      simp only [Option.bind_some, q5, vl_I, h11, lN_i, nI_add, Nat.zero_add]
    · rw [q4 0 (by omega)]
      simp [vi_I]
    · obtain ⟨r1, r2, r3, r4, r5⟩ := hRR
      refine ⟨gMSG_fr r1 (fun _ _ => rfl) (fun _ _ => rfl) (by rw [q7]; rfl) (by rw [q6]; rfl), ⟨by omega, by omega, by simp [uf_F, us_F, uc_F, ui_F, uf_S, us_S, uc_S, ui_S, uf_C, us_C, uc_C, ui_C, uf_I, us_I, uc_I, ui_I]; rfl, q2, ?_, fun _ => ?_, fun s hs => ?_⟩, gBUD_fr r3 (by simp [uf_F, us_F, uc_F, ui_F, uf_S, us_S, uc_S, ui_S, uf_C, us_C, uc_C, ui_C, uf_I, us_I, uc_I, ui_I]) (by rw [q4 3 (by omega)]; simp [vi_I]), gFRM_fr r4 rfl rfl (by rw [q4 23 (by omega)]; simp [vi_I]) (by rw [q6]; rfl), gKPT_fr r5 rfl rfl (by rw [q4 25 (by omega)]; simp [vi_I]) (by rw [q6]; rfl)⟩
      · rw [if_neg (by omega)]
        simp [uf_F, us_F, uc_F, ui_F, uf_S, us_S, uc_S, ui_S, uf_C, us_C, uc_C, ui_C, uf_I, us_I, uc_I, ui_I]
      · rw [q4 4 (by omega)]
        simp [vi_I]
      · have : s = 0 := by omega
        subst this
        exact ⟨0, co, po, 0, sg, bg, 1, k1, by omega, by omega, by unfold obF; simp [uf_F, us_F, uc_F, ui_F, uf_S, us_S, uc_S, ui_S, uf_C, us_C, uc_C, ui_C, uf_I, us_I, uc_I, ui_I], q3⟩
/-! ===== go ===== -/
theorem T_go {Z : CZ} {u : CS} {v : MS} (hR : Rel Z u v) (a1 a2 : Int32) : ∃ res v' b, pX5_go Z u a1 a2 = some res ∧ pX6_go v a1 a2 = some (v', b) ∧ zBoth Z lco2 [1, 2, 3, 4, 5] res v' b := by
  have hRx := fun x => Rel_0 hR x
  obtain ⟨hd, cn, hn, l, b, fn, kn, hM, hH, hB, hF, hK⟩ := hR
  obtain ⟨q1, q2, q3, q4, q5, q6, q7⟩ := hH
  have q4' : Vi (tI v 0 0) 13 = nI hn := by simp [vi_I, q4]
  have hfl : ∀ (x : Int32), tI (tI v 0 0) 0 x = tI v 0 x := fun x => by
    show (mu (mu v.1 0 0) 0 x, v.2) = _
    rw [mu_mu]
    rfl
  rcases z_hcase a1 q1 with h | ⟨j, hj, rfl⟩
  · refine ⟨(u, .inl 2), tI v 0 1, 0, ?_, ?_, Or.inl ⟨u, 2, rfl, by decide, ?_, hRx 1⟩⟩
    · simp [pX5_go, c_reqH0 q3 q1 h]
    · simp [pX6_go, m_isH0 q4' q1 h, pX6_fail, hfl]
    · simp [vi_I]; rfl
  obtain ⟨sh, co, po, ed, sg, bg, dp, hok, d1, d2, ⟨g0, g1, g2, g3, g4, g5, g6⟩, ⟨r0, r1, r2, r3, r4, r5, r6⟩⟩ := q7 j hj
  have hok' := hok
  obtain ⟨o1, o2, o3, o4, o5, o6, o7, o8, o9⟩ := hok'
  have e1 : pX5_requireHandle Z u (nI j) = some (u, .inr (Zh Z j)) := c_reqH q3 q1 hj
  have e2 : pX6_isHandle (tI v 0 (nI 0)) (nI j) = nI 1 := m_isH q4' q1 hj
  have e3 : inb (nI j) 16 = true := inT (by omega) (by omega)
  have e4 : (nI j).toNatClampNeg = j := nI_clamp (by omega)
  have hcs := (hM sg o2).1
  have hH : gHND Z u v cn hn l := ⟨q1, q2, q3, q4, q5, q6, q7⟩
  rw [if_neg (by omega)] at q5
  have q6' := q6 (by omega)
  by_cases s07 : sh = 0 ∨ sh = 7
  case neg =>
    refine ⟨(u, .inl 5), tI v 0 2, 0, ?_, ?_, Or.inl ⟨u, 5, rfl, by decide, ?_, hRx 2⟩⟩
    · simp (disch := omega) [pX5_go, e1, g0, il0, il1, il2, il3, il4, il5, il6, il7, il8, il10, il16, il31, il32, il48, il35, il63, il64, ltT, ltF, leT, leF, eqT, eqF, inT, nI_clamp, nI_add, pk_sub, pk_mul]
    · simp (disch := omega) [pX6_go, e2, e3, e4, r0, il0, il1, il2, il3, il4, il5, il6, il7, il8, il10, il16, il31, il32, il48, il35, il63, il64, ltT, ltF, leT, leF, eqT, eqF, inT, nI_clamp, nI_add, pk_sub, pk_mul, pX6_fail]
      exact hfl (nI 2)
    · simp [vi_I]; rfl
  rcases negI a2 with hneg | ⟨k, hk, rfl⟩
  · refine ⟨(u, .inl 1), tI v 0 3, 0, ?_, ?_, Or.inl ⟨u, 1, rfl, by decide, ?_, hRx 3⟩⟩
    · rcases s07 with rfl | rfl <;> simp (disch := omega) [pX5_go, e1, g0, pX5_requireElement, il0, il1, il2, il3, il4, il5, il6, il7, il8, il10, il16, il31, il32, il48, il35, il63, il64, ltT, ltF, leT, leF, eqT, eqF, inT, nI_clamp, nI_add, pk_sub, pk_mul, ngT hneg]
    · rcases s07 with rfl | rfl <;> simp (disch := omega) [pX6_go, pX6_go_45, e2, e3, e4, r0, il0, il1, il2, il3, il4, il5, il6, il7, il8, il10, il16, il31, il32, il48, il35, il63, il64, ltT, ltF, leT, leF, eqT, eqF, inT, nI_clamp, nI_add, pk_sub, pk_mul, pX6_fail, ngT hneg] <;> exact hfl (nI 3)
    · simp [vi_I]; rfl
  rcases s07 with rfl | rfl
  · by_cases hk2 : k < po
    · have h7 := (o7 rfl).1
      generalize hi : bg + co + k = i
      have hi2 : i < cn sg := by omega
      have ea := c_at hM o2 hi2
      have ei : 64 * sg + (bg + co + k) = 64 * sg + i := by rw [hi]
      by_cases hw : Vr v 1 (64 * sg + i) = 0
      · refine ⟨(u, .inr (-1)), tI v 0 0, -1, ?_, ?_, Or.inr ⟨u, rfl, by simp [vi_I], hRx 0⟩⟩
        · rw [hw] at ea
          simp (disch := omega) [pX5_go, e1, g0, g1, g2, g4, g5, pX5_requireElement, pX2_pointerCount, pX2_firstPointer, il0, il1, il2, il3, il4, il5, il6, il7, il8, il10, il16, il31, il32, il48, il35, il63, il64, ltT, ltF, leT, leF, eqT, eqF, inT, nI_clamp, nI_add, pk_sub, pk_mul, ea, hi]
        · simp (disch := omega) [pX6_go, pX6_go_45, pX6_go_76, pX6_go_97, pX6_go_122, e2, e3, e4, r0, r1, r2, r4, r5, r6, il0, il1, il2, il3, il4, il5, il6, il7, il8, il10, il16, il31, il32, il48, il35, il63, il64, ltT, ltF, leT, leF, eqT, eqF, inT, nI_clamp, nI_add, pk_sub, pk_mul, vi_I, vl_I, va_I, vr_I, vi_L, vl_L, va_L, vr_L, vi_A, vl_A, vA_A, vr_A, vi_R, vl_R, va_R, vr_R, hi, hw]
      by_cases hf : hn = 16
      · refine ⟨(u, .inl 4), tI v 0 4, 0, ?_, ?_, Or.inl ⟨u, 4, rfl, by decide, ?_, hRx 4⟩⟩
        · simp (disch := omega) [pX5_go, e1, g0, g1, g2, g4, g5, pX5_requireElement, pX2_pointerCount, pX2_firstPointer, il0, il1, il2, il3, il4, il5, il6, il7, il8, il10, il16, il31, il32, il48, il35, il63, il64, ltT, ltF, leT, leF, eqT, eqF, inT, nI_clamp, nI_add, pk_sub, pk_mul, ea, hi, hw, pX5_requireFreeHandle, q3]
        · simp (disch := omega) [pX6_go, pX6_go_45, pX6_go_76, pX6_go_97, pX6_go_122, e2, e3, e4, r0, r1, r2, r4, r5, r6, il0, il1, il2, il3, il4, il5, il6, il7, il8, il10, il16, il31, il32, il48, il35, il63, il64, ltT, ltF, leT, leF, eqT, eqF, inT, nI_clamp, nI_add, pk_sub, pk_mul, vi_I, vl_I, va_I, vr_I, vi_L, vl_L, va_L, vr_L, vi_A, vl_A, vA_A, vr_A, vi_R, vl_R, va_R, vr_R, hi, hw, q4, pX6_fail]
          exact hfl (nI 4)
        · simp [vi_I]; rfl
      have hne : ∀ s, s < hn → Zh Z s ≠ Zh Z hn := fun s hs => by
        rw [fd_h (by omega), fd_h (by omega)]
        exact zd_f hd (by omega) (by omega) (by omega)
      have hM0 : gMSG Z u (tI v 0 0) cn := gMSG_fr hM (fun _ _ => rfl) (fun _ _ => rfl) rfl rfl
      obtain ⟨⟨u1, oo⟩, w, c, ef, em, f1, f2, h⟩ := z_find (a := Zh Z hn) (a1 := Zh Z j) hM0 g4 g6 d2 (hne j hj) o2 hi2 hw q2
      obtain ⟨p1, p2, p3, p4, p5, p6, p7, p8, p9, p10⟩ : gMSG Z u1 w cn ∧ gHND Z u1 w cn hn l ∧ gBUD u1 w b ∧ gFRM Z u1 w fn ∧ gKPT Z u1 w kn ∧ Ui u1 = Ui u ∧ Va w = Va v ∧ Vi w 13 = nI hn ∧ Vi w 4 = nI l ∧ Vi w 0 = 0 := by
        have hz0 : gHND Z u (tI v 0 0) cn hn l := gHND_fr hH rfl rfl (fun _ _ _ => rfl) (by simp [vi_I]) (by simp [vi_I]) (fun _ _ _ _ _ => rfl)
        have hb0 : gBUD u (tI v 0 0) b := gBUD_fr hB rfl (by simp [vi_I])
        have hf0 : gFRM Z u (tI v 0 0) fn := gFRM_fr hF rfl rfl (by simp [vi_I]) rfl
        have hk0 : gKPT Z u (tI v 0 0) kn := gKPT_fr hK rfl rfl (by simp [vi_I]) rfl
        have z := Rel_zm hd hM0 hz0 hb0 hf0 hk0 f1 f2 hne
        exact ⟨z.1, z.2.1, z.2.2.1, z.2.2.2.1, z.2.2.2.2, congrArg (fun x => x.2.2) f1.1, congrArg Prod.fst f2.1, z.2.1.2.2.2.1, z.2.1.2.2.2.2.2.1 (by omega), (f2.2 0 (by omega) (by omega) (by omega) (by omega) (by omega)).trans (by simp [vi_I])⟩
      have p6' : Ui u1 1 = nI hn := by rw [p6]; exact q3
      have p6'' : Ui u1 2 = nI l := by rw [p6]; exact q5
      have ec : ∀ R, pX3_find Z u (Zh Z j) (nI i) (nI l) (Zh Z hn) = some R → True := fun _ _ => trivial
      rcases h with ⟨g, rfl⟩ | ⟨g, rfl⟩ | ⟨g, rfl⟩ | ⟨rfl, hdp, sh', co', po', ed', sg', bg', ct, k1, k2, k3, g, k5, k6⟩
      · simp only at g
        subst g
        refine ⟨(u1, .inl 3), tI w 0 5, 0, ?_, ?_, Or.inl ⟨u1, 3, rfl, by decide, by simp [vi_I]; rfl, Rel_0 ⟨hd, cn, hn, l, b, fn, kn, p1, p2, p3, p4, p5⟩ _⟩⟩
        · simp (disch := omega) [pX5_go, e1, g0, g1, g2, g4, g5, pX5_requireElement, pX2_pointerCount, pX2_firstPointer, il0, il1, il2, il3, il4, il5, il6, il7, il8, il10, il16, il31, il32, il48, il35, il63, il64, ltT, ltF, leT, leF, eqT, eqF, inT, nI_clamp, nI_add, pk_sub, pk_mul, ea, hi, hw, pX5_requireFreeHandle, q3, q5, ef]
        · simp only [il0, il2] at em
          simp (disch := omega) [pX6_go, pX6_go_45, pX6_go_76, pX6_go_97, pX6_go_122, e2, e3, e4, r0, r1, r2, r4, r5, r6, il0, il1, il2, il3, il4, il5, il6, il7, il8, il10, il16, il31, il32, il48, il35, il63, il64, ltT, ltF, leT, leF, eqT, eqF, inT, nI_clamp, nI_add, pk_sub, pk_mul, vi_I, vl_I, va_I, vr_I, vi_L, vl_L, va_L, vr_L, vi_A, vl_A, vA_A, vr_A, vi_R, vl_R, va_R, vr_R, hi, hw, q4, q6', pX6_fail, em]
      · simp only at g
        subst g
        refine ⟨(u1, .inl 1), tI w 0 3, 0, ?_, ?_, Or.inl ⟨u1, 1, rfl, by decide, by simp [vi_I]; rfl, Rel_0 ⟨hd, cn, hn, l, b, fn, kn, p1, p2, p3, p4, p5⟩ _⟩⟩
        · simp (disch := omega) [pX5_go, e1, g0, g1, g2, g4, g5, pX5_requireElement, pX2_pointerCount, pX2_firstPointer, il0, il1, il2, il3, il4, il5, il6, il7, il8, il10, il16, il31, il32, il48, il35, il63, il64, ltT, ltF, leT, leF, eqT, eqF, inT, nI_clamp, nI_add, pk_sub, pk_mul, ea, hi, hw, pX5_requireFreeHandle, q3, q5, ef]
        · simp only [il0, il1] at em
          simp (disch := omega) [pX6_go, pX6_go_45, pX6_go_76, pX6_go_97, pX6_go_122, e2, e3, e4, r0, r1, r2, r4, r5, r6, il0, il1, il2, il3, il4, il5, il6, il7, il8, il10, il16, il31, il32, il48, il35, il63, il64, ltT, ltF, leT, leF, eqT, eqF, inT, nI_clamp, nI_add, pk_sub, pk_mul, vi_I, vl_I, va_I, vr_I, vi_L, vl_L, va_L, vr_L, vi_A, vl_A, vA_A, vr_A, vi_R, vl_R, va_R, vr_R, hi, hw, q4, q6', pX6_fail, em]
      · simp only at g
        subst g
        refine ⟨(u1, .inl 4), tI w 0 4, 0, ?_, ?_, Or.inl ⟨u1, 4, rfl, by decide, by simp [vi_I]; rfl, Rel_0 ⟨hd, cn, hn, l, b, fn, kn, p1, p2, p3, p4, p5⟩ _⟩⟩
        · simp (disch := omega) [pX5_go, e1, g0, g1, g2, g4, g5, pX5_requireElement, pX2_pointerCount, pX2_firstPointer, il0, il1, il2, il3, il4, il5, il6, il7, il8, il10, il16, il31, il32, il48, il35, il63, il64, ltT, ltF, leT, leF, eqT, eqF, inT, nI_clamp, nI_add, pk_sub, pk_mul, ea, hi, hw, pX5_requireFreeHandle, q3, q5, ef]
        · simp only [il0, il3] at em
          simp (disch := omega) [pX6_go, pX6_go_45, pX6_go_76, pX6_go_97, pX6_go_122, e2, e3, e4, r0, r1, r2, r4, r5, r6, il0, il1, il2, il3, il4, il5, il6, il7, il8, il10, il16, il31, il32, il48, il35, il63, il64, ltT, ltF, leT, leF, eqT, eqF, inT, nI_clamp, nI_add, pk_sub, pk_mul, vi_I, vl_I, va_I, vr_I, vi_L, vl_L, va_L, vr_L, vi_A, vl_A, vA_A, vr_A, vi_R, vl_R, va_R, vr_R, hi, hw, q4, q6', pX6_fail, em]
      · simp only at g k5
        subst g
        have h12 : Vl w 12 = lN ct := k6.2.2.2.2.2.2.2
        have w6 : Va w 20 j = nI dp := by rw [p7]; exact r6
        obtain ⟨w', t1, t2, t3, t4, t5, t6, t7, t8⟩ := m_hold2 (w := tI w 4 (nI (l - ct))) (hn := hn) (dp := dp + 1) (by simp [vi_I, p8]) (by omega) (sh := sh') (co := co') (po := po') (ed := ed') (sg := sg') (bg := bg') (ct := ct) (by
          obtain ⟨p1, p2, p3, p4, p5, p6, p7, p8⟩ := k6
          exact ⟨by simp [vi_I, vl_I, va_I, vr_I, vi_L, vl_L, va_L, vr_L, vi_A, vl_A, vA_A, vr_A, vi_R, vl_R, va_R, vr_R, p1], by simp [vi_I, vl_I, va_I, vr_I, vi_L, vl_L, va_L, vr_L, vi_A, vl_A, vA_A, vr_A, vi_R, vl_R, va_R, vr_R, p2], by simp [vi_I, vl_I, va_I, vr_I, vi_L, vl_L, va_L, vr_L, vi_A, vl_A, vA_A, vr_A, vi_R, vl_R, va_R, vr_R, p3], by simp [vi_I, vl_I, va_I, vr_I, vi_L, vl_L, va_L, vr_L, vi_A, vl_A, vA_A, vr_A, vi_R, vl_R, va_R, vr_R, p4], by simp [vi_I, vl_I, va_I, vr_I, vi_L, vl_L, va_L, vr_L, vi_A, vl_A, vA_A, vr_A, vi_R, vl_R, va_R, vr_R, p5], by simp [vi_I, vl_I, va_I, vr_I, vi_L, vl_L, va_L, vr_L, vi_A, vl_A, vA_A, vr_A, vi_R, vl_R, va_R, vr_R, p6], fun q => by simp [vi_I, vl_I, va_I, vr_I, vi_L, vl_L, va_L, vr_L, vi_A, vl_A, vA_A, vr_A, vi_R, vl_R, va_R, vr_R]; exact p7 q, by simp [vi_I, vl_I, va_I, vr_I, vi_L, vl_L, va_L, vr_L, vi_A, vl_A, vA_A, vr_A, vi_R, vl_R, va_R, vr_R, p8]⟩)
        refine ⟨(sI (sI u1 2 (nI (l - ct))) 1 (nI (hn + 1)), .inr (nI hn)), w', nI hn, ?_, ?_, Or.inr ⟨_, rfl, ?_, hd, cn, hn + 1, l - ct, b, fn, kn, ?_⟩⟩
        · simp (disch := omega) [pX5_go, e1, g0, g1, g2, g4, g5, pX5_requireElement, pX2_pointerCount, pX2_firstPointer, il0, il1, il2, il3, il4, il5, il6, il7, il8, il10, il16, il31, il32, il48, il35, il63, il64, ltT, ltF, leT, leF, eqT, eqF, inT, nI_clamp, nI_add, pk_sub, pk_mul, ea, hi, hw, pX5_requireFreeHandle, q3, q5, ef, p6', p6'', uf_F, us_F, uc_F, ui_F, uf_S, us_S, uc_S, ui_S, uf_C, us_C, uc_C, ui_C, uf_I, us_I, uc_I, ui_I]
        · simp only [il0] at em
          simp (disch := omega) [pX6_go, pX6_go_45, pX6_go_76, pX6_go_97, pX6_go_122, e2, e3, e4, r0, r1, r2, r4, r5, r6, il0, il1, il2, il3, il4, il5, il6, il7, il8, il10, il16, il31, il32, il48, il35, il63, il64, ltT, ltF, leT, leF, eqT, eqF, inT, nI_clamp, nI_add, pk_sub, pk_mul, vi_I, vl_I, va_I, vr_I, vi_L, vl_L, va_L, vr_L, vi_A, vl_A, vA_A, vr_A, vi_R, vl_R, va_R, vr_R, hi, hw, q4, q6', pX6_fail, em, p9, h12, lN_i, w6, t1]
        · rw [t4 0 (by omega)]
          simp [vi_I, p10]
        · obtain ⟨z1, z2, z3, z4, z5, z6, z7⟩ := p2
          refine ⟨gMSG_fr p1 (fun _ _ => rfl) (fun _ _ => rfl) (by rw [t7]; rfl) (by rw [t6]; rfl), ⟨by omega, by omega, by simp [uf_F, us_F, uc_F, ui_F, uf_S, us_S, uc_S, ui_S, uf_C, us_C, uc_C, ui_C, uf_I, us_I, uc_I, ui_I], t2, ?_, fun _ => ?_, fun s hs => ?_⟩, gBUD_fr p3 (by simp [uf_F, us_F, uc_F, ui_F, uf_S, us_S, uc_S, ui_S, uf_C, us_C, uc_C, ui_C, uf_I, us_I, uc_I, ui_I]) (by rw [t4 3 (by omega)]; simp [vi_I]), gFRM_fr p4 rfl rfl (by rw [t4 23 (by omega)]; simp [vi_I]) (by rw [t6]; rfl), gKPT_fr p5 rfl rfl (by rw [t4 25 (by omega)]; simp [vi_I]) (by rw [t6]; rfl)⟩
          · rw [if_neg (by omega)]
            simp [uf_F, us_F, uc_F, ui_F, uf_S, us_S, uc_S, ui_S, uf_C, us_C, uc_C, ui_C, uf_I, us_I, uc_I, ui_I]
          · rw [t4 4 (by omega)]
            simp [vi_I]
          · by_cases hs2 : s = hn
            · subst hs2
              exact ⟨sh', co', po', ed', sg', bg', dp + 1, k1, by omega, hdp, k5, t3⟩
            · obtain ⟨sh2, co2, po2, ed2, sg2, bg2, dp2, y1, y2, y3, y4, y5⟩ := z7 s (by omega)
              refine ⟨sh2, co2, po2, ed2, sg2, bg2, dp2, y1, y2, y3, y4, ?_⟩
              unfold obR at y5 ⊢
              rw [t8 _ s hs2, t8 _ s hs2, t8 _ s hs2, t8 _ s hs2, t8 _ s hs2, t8 _ s hs2, t8 _ s hs2]
              exact y5
    · refine ⟨(u, .inr (-1)), tI v 0 0, -1, ?_, ?_, Or.inr ⟨u, rfl, by simp [vi_I], hRx 0⟩⟩
      · simp (disch := omega) [pX5_go, e1, g0, g2, pX5_requireElement, pX2_pointerCount, il0, il1, il2, il3, il4, il5, il6, il7, il8, il10, il16, il31, il32, il48, il35, il63, il64, ltT, ltF, leT, leF, eqT, eqF, inT, nI_clamp, nI_add, pk_sub, pk_mul]
      · simp (disch := omega) [pX6_go, pX6_go_45, pX6_go_76, e2, e3, e4, r0, r2, il0, il1, il2, il3, il4, il5, il6, il7, il8, il10, il16, il31, il32, il48, il35, il63, il64, ltT, ltF, leT, leF, eqT, eqF, inT, nI_clamp, nI_add, pk_sub, pk_mul, vi_I, vl_I, va_I, vr_I, vi_L, vl_L, va_L, vr_L, vi_A, vl_A, vA_A, vr_A, vi_R, vl_R, va_R, vr_R]
  · by_cases hk2 : k < co
    · have h7 : bg + (co * 64 + 63) / 64 ≤ cn sg := (o8 (by omega) (by omega)).2.2
      generalize hi : bg + k = i
      have hi2 : i < cn sg := by omega
      have ea := c_at hM o2 hi2
      have ei : 64 * sg + (bg + k) = 64 * sg + i := by rw [hi]
      by_cases hw : Vr v 1 (64 * sg + i) = 0
      · refine ⟨(u, .inr (-1)), tI v 0 0, -1, ?_, ?_, Or.inr ⟨u, rfl, by simp [vi_I], hRx 0⟩⟩
        · rw [hw] at ea
          simp (disch := omega) [pX5_go, e1, g0, g1, g2, g4, g5, pX5_requireElement, pX2_pointerCount, pX2_firstPointer, il0, il1, il2, il3, il4, il5, il6, il7, il8, il10, il16, il31, il32, il48, il35, il63, il64, ltT, ltF, leT, leF, eqT, eqF, inT, nI_clamp, nI_add, pk_sub, pk_mul, ea, hi]
        · simp (disch := omega) [pX6_go, pX6_go_45, pX6_go_76, pX6_go_97, pX6_go_122, e2, e3, e4, r0, r1, r2, r4, r5, r6, il0, il1, il2, il3, il4, il5, il6, il7, il8, il10, il16, il31, il32, il48, il35, il63, il64, ltT, ltF, leT, leF, eqT, eqF, inT, nI_clamp, nI_add, pk_sub, pk_mul, vi_I, vl_I, va_I, vr_I, vi_L, vl_L, va_L, vr_L, vi_A, vl_A, vA_A, vr_A, vi_R, vl_R, va_R, vr_R, hi, hw]
      by_cases hf : hn = 16
      · refine ⟨(u, .inl 4), tI v 0 4, 0, ?_, ?_, Or.inl ⟨u, 4, rfl, by decide, ?_, hRx 4⟩⟩
        · simp (disch := omega) [pX5_go, e1, g0, g1, g2, g4, g5, pX5_requireElement, pX2_pointerCount, pX2_firstPointer, il0, il1, il2, il3, il4, il5, il6, il7, il8, il10, il16, il31, il32, il48, il35, il63, il64, ltT, ltF, leT, leF, eqT, eqF, inT, nI_clamp, nI_add, pk_sub, pk_mul, ea, hi, hw, pX5_requireFreeHandle, q3]
        · simp (disch := omega) [pX6_go, pX6_go_45, pX6_go_76, pX6_go_97, pX6_go_122, e2, e3, e4, r0, r1, r2, r4, r5, r6, il0, il1, il2, il3, il4, il5, il6, il7, il8, il10, il16, il31, il32, il48, il35, il63, il64, ltT, ltF, leT, leF, eqT, eqF, inT, nI_clamp, nI_add, pk_sub, pk_mul, vi_I, vl_I, va_I, vr_I, vi_L, vl_L, va_L, vr_L, vi_A, vl_A, vA_A, vr_A, vi_R, vl_R, va_R, vr_R, hi, hw, q4, pX6_fail]
          exact hfl (nI 4)
        · simp [vi_I]; rfl
      have hne : ∀ s, s < hn → Zh Z s ≠ Zh Z hn := fun s hs => by
        rw [fd_h (by omega), fd_h (by omega)]
        exact zd_f hd (by omega) (by omega) (by omega)
      have hM0 : gMSG Z u (tI v 0 0) cn := gMSG_fr hM (fun _ _ => rfl) (fun _ _ => rfl) rfl rfl
      obtain ⟨⟨u1, oo⟩, w, c, ef, em, f1, f2, h⟩ := z_find (a := Zh Z hn) (a1 := Zh Z j) hM0 g4 g6 d2 (hne j hj) o2 hi2 hw q2
      obtain ⟨p1, p2, p3, p4, p5, p6, p7, p8, p9, p10⟩ : gMSG Z u1 w cn ∧ gHND Z u1 w cn hn l ∧ gBUD u1 w b ∧ gFRM Z u1 w fn ∧ gKPT Z u1 w kn ∧ Ui u1 = Ui u ∧ Va w = Va v ∧ Vi w 13 = nI hn ∧ Vi w 4 = nI l ∧ Vi w 0 = 0 := by
        have hz0 : gHND Z u (tI v 0 0) cn hn l := gHND_fr hH rfl rfl (fun _ _ _ => rfl) (by simp [vi_I]) (by simp [vi_I]) (fun _ _ _ _ _ => rfl)
        have hb0 : gBUD u (tI v 0 0) b := gBUD_fr hB rfl (by simp [vi_I])
        have hf0 : gFRM Z u (tI v 0 0) fn := gFRM_fr hF rfl rfl (by simp [vi_I]) rfl
        have hk0 : gKPT Z u (tI v 0 0) kn := gKPT_fr hK rfl rfl (by simp [vi_I]) rfl
        have z := Rel_zm hd hM0 hz0 hb0 hf0 hk0 f1 f2 hne
        exact ⟨z.1, z.2.1, z.2.2.1, z.2.2.2.1, z.2.2.2.2, congrArg (fun x => x.2.2) f1.1, congrArg Prod.fst f2.1, z.2.1.2.2.2.1, z.2.1.2.2.2.2.2.1 (by omega), (f2.2 0 (by omega) (by omega) (by omega) (by omega) (by omega)).trans (by simp [vi_I])⟩
      have p6' : Ui u1 1 = nI hn := by rw [p6]; exact q3
      have p6'' : Ui u1 2 = nI l := by rw [p6]; exact q5
      have ec : ∀ R, pX3_find Z u (Zh Z j) (nI i) (nI l) (Zh Z hn) = some R → True := fun _ _ => trivial
      rcases h with ⟨g, rfl⟩ | ⟨g, rfl⟩ | ⟨g, rfl⟩ | ⟨rfl, hdp, sh', co', po', ed', sg', bg', ct, k1, k2, k3, g, k5, k6⟩
      · simp only at g
        subst g
        refine ⟨(u1, .inl 3), tI w 0 5, 0, ?_, ?_, Or.inl ⟨u1, 3, rfl, by decide, by simp [vi_I]; rfl, Rel_0 ⟨hd, cn, hn, l, b, fn, kn, p1, p2, p3, p4, p5⟩ _⟩⟩
        · simp (disch := omega) [pX5_go, e1, g0, g1, g2, g4, g5, pX5_requireElement, pX2_pointerCount, pX2_firstPointer, il0, il1, il2, il3, il4, il5, il6, il7, il8, il10, il16, il31, il32, il48, il35, il63, il64, ltT, ltF, leT, leF, eqT, eqF, inT, nI_clamp, nI_add, pk_sub, pk_mul, ea, hi, hw, pX5_requireFreeHandle, q3, q5, ef]
        · simp only [il0, il2] at em
          simp (disch := omega) [pX6_go, pX6_go_45, pX6_go_76, pX6_go_97, pX6_go_122, e2, e3, e4, r0, r1, r2, r4, r5, r6, il0, il1, il2, il3, il4, il5, il6, il7, il8, il10, il16, il31, il32, il48, il35, il63, il64, ltT, ltF, leT, leF, eqT, eqF, inT, nI_clamp, nI_add, pk_sub, pk_mul, vi_I, vl_I, va_I, vr_I, vi_L, vl_L, va_L, vr_L, vi_A, vl_A, vA_A, vr_A, vi_R, vl_R, va_R, vr_R, hi, hw, q4, q6', pX6_fail, em]
      · simp only at g
        subst g
        refine ⟨(u1, .inl 1), tI w 0 3, 0, ?_, ?_, Or.inl ⟨u1, 1, rfl, by decide, by simp [vi_I]; rfl, Rel_0 ⟨hd, cn, hn, l, b, fn, kn, p1, p2, p3, p4, p5⟩ _⟩⟩
        · simp (disch := omega) [pX5_go, e1, g0, g1, g2, g4, g5, pX5_requireElement, pX2_pointerCount, pX2_firstPointer, il0, il1, il2, il3, il4, il5, il6, il7, il8, il10, il16, il31, il32, il48, il35, il63, il64, ltT, ltF, leT, leF, eqT, eqF, inT, nI_clamp, nI_add, pk_sub, pk_mul, ea, hi, hw, pX5_requireFreeHandle, q3, q5, ef]
        · simp only [il0, il1] at em
          simp (disch := omega) [pX6_go, pX6_go_45, pX6_go_76, pX6_go_97, pX6_go_122, e2, e3, e4, r0, r1, r2, r4, r5, r6, il0, il1, il2, il3, il4, il5, il6, il7, il8, il10, il16, il31, il32, il48, il35, il63, il64, ltT, ltF, leT, leF, eqT, eqF, inT, nI_clamp, nI_add, pk_sub, pk_mul, vi_I, vl_I, va_I, vr_I, vi_L, vl_L, va_L, vr_L, vi_A, vl_A, vA_A, vr_A, vi_R, vl_R, va_R, vr_R, hi, hw, q4, q6', pX6_fail, em]
      · simp only at g
        subst g
        refine ⟨(u1, .inl 4), tI w 0 4, 0, ?_, ?_, Or.inl ⟨u1, 4, rfl, by decide, by simp [vi_I]; rfl, Rel_0 ⟨hd, cn, hn, l, b, fn, kn, p1, p2, p3, p4, p5⟩ _⟩⟩
        · simp (disch := omega) [pX5_go, e1, g0, g1, g2, g4, g5, pX5_requireElement, pX2_pointerCount, pX2_firstPointer, il0, il1, il2, il3, il4, il5, il6, il7, il8, il10, il16, il31, il32, il48, il35, il63, il64, ltT, ltF, leT, leF, eqT, eqF, inT, nI_clamp, nI_add, pk_sub, pk_mul, ea, hi, hw, pX5_requireFreeHandle, q3, q5, ef]
        · simp only [il0, il3] at em
          simp (disch := omega) [pX6_go, pX6_go_45, pX6_go_76, pX6_go_97, pX6_go_122, e2, e3, e4, r0, r1, r2, r4, r5, r6, il0, il1, il2, il3, il4, il5, il6, il7, il8, il10, il16, il31, il32, il48, il35, il63, il64, ltT, ltF, leT, leF, eqT, eqF, inT, nI_clamp, nI_add, pk_sub, pk_mul, vi_I, vl_I, va_I, vr_I, vi_L, vl_L, va_L, vr_L, vi_A, vl_A, vA_A, vr_A, vi_R, vl_R, va_R, vr_R, hi, hw, q4, q6', pX6_fail, em]
      · simp only at g k5
        subst g
        have h12 : Vl w 12 = lN ct := k6.2.2.2.2.2.2.2
        have w6 : Va w 20 j = nI dp := by rw [p7]; exact r6
        obtain ⟨w', t1, t2, t3, t4, t5, t6, t7, t8⟩ := m_hold2 (w := tI w 4 (nI (l - ct))) (hn := hn) (dp := dp + 1) (by simp [vi_I, p8]) (by omega) (sh := sh') (co := co') (po := po') (ed := ed') (sg := sg') (bg := bg') (ct := ct) (by
          obtain ⟨p1, p2, p3, p4, p5, p6, p7, p8⟩ := k6
          exact ⟨by simp [vi_I, vl_I, va_I, vr_I, vi_L, vl_L, va_L, vr_L, vi_A, vl_A, vA_A, vr_A, vi_R, vl_R, va_R, vr_R, p1], by simp [vi_I, vl_I, va_I, vr_I, vi_L, vl_L, va_L, vr_L, vi_A, vl_A, vA_A, vr_A, vi_R, vl_R, va_R, vr_R, p2], by simp [vi_I, vl_I, va_I, vr_I, vi_L, vl_L, va_L, vr_L, vi_A, vl_A, vA_A, vr_A, vi_R, vl_R, va_R, vr_R, p3], by simp [vi_I, vl_I, va_I, vr_I, vi_L, vl_L, va_L, vr_L, vi_A, vl_A, vA_A, vr_A, vi_R, vl_R, va_R, vr_R, p4], by simp [vi_I, vl_I, va_I, vr_I, vi_L, vl_L, va_L, vr_L, vi_A, vl_A, vA_A, vr_A, vi_R, vl_R, va_R, vr_R, p5], by simp [vi_I, vl_I, va_I, vr_I, vi_L, vl_L, va_L, vr_L, vi_A, vl_A, vA_A, vr_A, vi_R, vl_R, va_R, vr_R, p6], fun q => by simp [vi_I, vl_I, va_I, vr_I, vi_L, vl_L, va_L, vr_L, vi_A, vl_A, vA_A, vr_A, vi_R, vl_R, va_R, vr_R]; exact p7 q, by simp [vi_I, vl_I, va_I, vr_I, vi_L, vl_L, va_L, vr_L, vi_A, vl_A, vA_A, vr_A, vi_R, vl_R, va_R, vr_R, p8]⟩)
        refine ⟨(sI (sI u1 2 (nI (l - ct))) 1 (nI (hn + 1)), .inr (nI hn)), w', nI hn, ?_, ?_, Or.inr ⟨_, rfl, ?_, hd, cn, hn + 1, l - ct, b, fn, kn, ?_⟩⟩
        · simp (disch := omega) [pX5_go, e1, g0, g1, g2, g4, g5, pX5_requireElement, pX2_pointerCount, pX2_firstPointer, il0, il1, il2, il3, il4, il5, il6, il7, il8, il10, il16, il31, il32, il48, il35, il63, il64, ltT, ltF, leT, leF, eqT, eqF, inT, nI_clamp, nI_add, pk_sub, pk_mul, ea, hi, hw, pX5_requireFreeHandle, q3, q5, ef, p6', p6'', uf_F, us_F, uc_F, ui_F, uf_S, us_S, uc_S, ui_S, uf_C, us_C, uc_C, ui_C, uf_I, us_I, uc_I, ui_I]
        · simp only [il0] at em
          simp (disch := omega) [pX6_go, pX6_go_45, pX6_go_76, pX6_go_97, pX6_go_122, e2, e3, e4, r0, r1, r2, r4, r5, r6, il0, il1, il2, il3, il4, il5, il6, il7, il8, il10, il16, il31, il32, il48, il35, il63, il64, ltT, ltF, leT, leF, eqT, eqF, inT, nI_clamp, nI_add, pk_sub, pk_mul, vi_I, vl_I, va_I, vr_I, vi_L, vl_L, va_L, vr_L, vi_A, vl_A, vA_A, vr_A, vi_R, vl_R, va_R, vr_R, hi, hw, q4, q6', pX6_fail, em, p9, h12, lN_i, w6, t1]
        · rw [t4 0 (by omega)]
          simp [vi_I, p10]
        · obtain ⟨z1, z2, z3, z4, z5, z6, z7⟩ := p2
          refine ⟨gMSG_fr p1 (fun _ _ => rfl) (fun _ _ => rfl) (by rw [t7]; rfl) (by rw [t6]; rfl), ⟨by omega, by omega, by simp [uf_F, us_F, uc_F, ui_F, uf_S, us_S, uc_S, ui_S, uf_C, us_C, uc_C, ui_C, uf_I, us_I, uc_I, ui_I], t2, ?_, fun _ => ?_, fun s hs => ?_⟩, gBUD_fr p3 (by simp [uf_F, us_F, uc_F, ui_F, uf_S, us_S, uc_S, ui_S, uf_C, us_C, uc_C, ui_C, uf_I, us_I, uc_I, ui_I]) (by rw [t4 3 (by omega)]; simp [vi_I]), gFRM_fr p4 rfl rfl (by rw [t4 23 (by omega)]; simp [vi_I]) (by rw [t6]; rfl), gKPT_fr p5 rfl rfl (by rw [t4 25 (by omega)]; simp [vi_I]) (by rw [t6]; rfl)⟩
          · rw [if_neg (by omega)]
            simp [uf_F, us_F, uc_F, ui_F, uf_S, us_S, uc_S, ui_S, uf_C, us_C, uc_C, ui_C, uf_I, us_I, uc_I, ui_I]
          · rw [t4 4 (by omega)]
            simp [vi_I]
          · by_cases hs2 : s = hn
            · subst hs2
              exact ⟨sh', co', po', ed', sg', bg', dp + 1, k1, by omega, hdp, k5, t3⟩
            · obtain ⟨sh2, co2, po2, ed2, sg2, bg2, dp2, y1, y2, y3, y4, y5⟩ := z7 s (by omega)
              refine ⟨sh2, co2, po2, ed2, sg2, bg2, dp2, y1, y2, y3, y4, ?_⟩
              unfold obR at y5 ⊢
              rw [t8 _ s hs2, t8 _ s hs2, t8 _ s hs2, t8 _ s hs2, t8 _ s hs2, t8 _ s hs2, t8 _ s hs2]
              exact y5
    · refine ⟨(u, .inl 1), tI v 0 3, 0, ?_, ?_, Or.inl ⟨u, 1, rfl, by decide, ?_, hRx 3⟩⟩
      · simp (disch := omega) [pX5_go, e1, g0, g1, pX5_requireElement, il0, il1, il2, il3, il4, il5, il6, il7, il8, il10, il16, il31, il32, il48, il35, il63, il64, ltT, ltF, leT, leF, eqT, eqF, inT, nI_clamp, nI_add, pk_sub, pk_mul]
      · simp (disch := omega) [pX6_go, pX6_go_45, e2, e3, e4, r0, r1, il0, il1, il2, il3, il4, il5, il6, il7, il8, il10, il16, il31, il32, il48, il35, il63, il64, ltT, ltF, leT, leF, eqT, eqF, inT, nI_clamp, nI_add, pk_sub, pk_mul, vi_I, vl_I, va_I, vr_I, vi_L, vl_L, va_L, vr_L, vi_A, vl_A, vA_A, vr_A, vi_R, vl_R, va_R, vr_R, pX6_fail]
        exact hfl (nI 3)
      · simp [vi_I]; rfl
