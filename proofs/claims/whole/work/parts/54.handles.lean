/-! ===== of a call that may throw: both answer, or the class throws k and the reference has put its number down ===== -/
def zBoth {α : Type} (Z : CZ) (co : Nat → Int32) (ks : List Nat) (res : CS × (Nat ⊕ α)) (v' : MS) (b : α) : Prop :=
  (∃ w k, res = (w, .inl k) ∧ k ∈ ks ∧ Vi v' 0 = co k ∧ Rel Z w v') ∨ (∃ w, res = (w, .inr b) ∧ Vi v' 0 = 0 ∧ Rel Z w v')
theorem c_reqH0 {Z : CZ} {u : CS} {a1 : Int32} {hn : Nat} (h : Ui u 1 = nI hn) (hh : hn ≤ 16) (q : a1 < 0 ∨ ∃ j : Nat, j < 2147483648 ∧ a1 = nI j ∧ hn ≤ j) : pX5_requireHandle Z u a1 = some (u, .inl 2) := by
  rcases q with q | ⟨j, q1, rfl, q2⟩
  · simp [pX5_requireHandle, q]
  · simp (disch := omega) [pX5_requireHandle, h, il0, il1, il2, il3, il4, il5, il6, il7, il8, il10, il16, il31, il32, il48, il35, il63, il64, ltT, ltF, leT, leF, eqT, eqF, inT, nI_clamp, nI_add, pk_sub, pk_mul]
theorem c_reqH {Z : CZ} {u : CS} {j hn : Nat} (h : Ui u 1 = nI hn) (hh : hn ≤ 16) (q : j < hn) : pX5_requireHandle Z u (nI j) = some (u, .inr (Zh Z j)) := by
  simp (disch := omega) [pX5_requireHandle, h, il0, il1, il2, il3, il4, il5, il6, il7, il8, il10, il16, il31, il32, il48, il35, il63, il64, ltT, ltF, leT, leF, eqT, eqF, inT, nI_clamp, nI_add, pk_sub, pk_mul]
theorem m_isH0 {v : MS} {a1 : Int32} {hn : Nat} (h : Vi v 13 = nI hn) (hh : hn ≤ 16) (q : a1 < 0 ∨ ∃ j : Nat, j < 2147483648 ∧ a1 = nI j ∧ hn ≤ j) : pX6_isHandle v a1 = 0 := by
  rcases q with q | ⟨j, q1, rfl, q2⟩
  · simp [pX6_isHandle, q]
  · simp (disch := omega) [pX6_isHandle, h, il0, il1, il2, il3, il4, il5, il6, il7, il8, il10, il16, il31, il32, il48, il35, il63, il64, ltT, ltF, leT, leF, eqT, eqF, inT, nI_clamp, nI_add, pk_sub, pk_mul]
theorem m_isH {v : MS} {j hn : Nat} (h : Vi v 13 = nI hn) (hh : hn ≤ 16) (q : j < hn) : pX6_isHandle v (nI j) = 1 := by
  simp (disch := omega) [pX6_isHandle, h, il0, il1, il2, il3, il4, il5, il6, il7, il8, il10, il16, il31, il32, il48, il35, il63, il64, ltT, ltF, leT, leF, eqT, eqF, inT, nI_clamp, nI_add, pk_sub, pk_mul]
theorem z_hcase (a1 : Int32) {hn : Nat} (hh : hn ≤ 16) : (a1 < 0 ∨ ∃ j : Nat, j < 2147483648 ∧ a1 = nI j ∧ hn ≤ j) ∨ ∃ j : Nat, j < hn ∧ a1 = nI j := by
  rcases negI a1 with h | ⟨s, hs, rfl⟩
  · exact Or.inl (Or.inl h)
  · by_cases q : s < hn
    · exact Or.inr ⟨s, q, rfl⟩
    · exact Or.inl (Or.inr ⟨s, hs, rfl, by omega⟩)
theorem T_about {Z : CZ} {u : CS} {v : MS} (hR : Rel Z u v) (a1 a2 : Int32) : ∃ res v' b, pX5_about Z u a1 a2 = some res ∧ pX6_about v a1 a2 = some (v', b) ∧ zBoth Z lco3 [1, 2] res v' b := by
  have hRx := fun x => Rel_0 hR x
  obtain ⟨hd, cn, hn, l, b, fn, kn, hM, ⟨q1, q2, q3, q4, q5, q6, q7⟩, hB, hF, hK⟩ := hR
  rcases z_hcase a1 q1 with h | ⟨j, hj, rfl⟩
  · refine ⟨(u, .inl 2), tI v 0 1, 0, ?_, ?_, Or.inl ⟨u, 2, rfl, by decide, ?_, hRx 1⟩⟩
    · simp [pX5_about, c_reqH0 q3 q1 h]
    · simp [pX6_about, m_isH0 q4 q1 h, pX6_about_28]
    · simp [vi_I]; rfl
  · obtain ⟨sh, co, po, ed, sg, bg, dp, b1, b2, b3, ⟨g0, g1, g2, g3, g4, g5, g6⟩, ⟨r0, r1, r2, r3, r4, r5, r6⟩⟩ := q7 j hj
    have e1 : pX5_requireHandle Z u (nI j) = some (u, .inr (Zh Z j)) := c_reqH q3 q1 hj
    have e2 : pX6_isHandle v (nI j) = 1 := m_isH q4 q1 hj
    have e3 : inb (nI j) 16 = true := inT (by omega) (by omega)
    have e4 : (nI j).toNatClampNeg = j := nI_clamp (by omega)
    by_cases hp : ∃ p : Nat, p ≤ 6 ∧ a2 = nI p
    · obtain ⟨p, hp, rfl⟩ := hp
      have hk : p = 0 ∨ p = 1 ∨ p = 2 ∨ p = 3 ∨ p = 4 ∨ p = 5 ∨ p = 6 := by omega
      rcases hk with rfl | rfl | rfl | rfl | rfl | rfl | rfl
      · refine ⟨(u, .inr (nI sh)), tI v 0 0, nI sh, ?_, ?_, Or.inr ⟨u, rfl, by simp [vi_I], hRx 0⟩⟩
        · simp (disch := omega) [pX5_about, e1, il0, il1, il2, il3, il4, il5, il6, il7, il8, il10, il16, il31, il32, il48, il35, il63, il64, ltT, ltF, leT, leF, eqT, eqF, inT, nI_clamp, nI_add, pk_sub, pk_mul, g0, g1, g2, g3, g4, g5, g6]
        · simp (disch := omega) [pX6_about, pX6_about_28, e2, e3, e4, il0, il1, il2, il3, il4, il5, il6, il7, il8, il10, il16, il31, il32, il48, il35, il63, il64, ltT, ltF, leT, leF, eqT, eqF, inT, nI_clamp, nI_add, pk_sub, pk_mul, r0, r1, r2, r3, r4, r5, r6]
      · refine ⟨(u, .inr (nI co)), tI v 0 0, nI co, ?_, ?_, Or.inr ⟨u, rfl, by simp [vi_I], hRx 0⟩⟩
        · simp (disch := omega) [pX5_about, e1, il0, il1, il2, il3, il4, il5, il6, il7, il8, il10, il16, il31, il32, il48, il35, il63, il64, ltT, ltF, leT, leF, eqT, eqF, inT, nI_clamp, nI_add, pk_sub, pk_mul, g0, g1, g2, g3, g4, g5, g6]
        · simp (disch := omega) [pX6_about, pX6_about_28, e2, e3, e4, il0, il1, il2, il3, il4, il5, il6, il7, il8, il10, il16, il31, il32, il48, il35, il63, il64, ltT, ltF, leT, leF, eqT, eqF, inT, nI_clamp, nI_add, pk_sub, pk_mul, r0, r1, r2, r3, r4, r5, r6]
      · refine ⟨(u, .inr (nI po)), tI v 0 0, nI po, ?_, ?_, Or.inr ⟨u, rfl, by simp [vi_I], hRx 0⟩⟩
        · simp (disch := omega) [pX5_about, e1, il0, il1, il2, il3, il4, il5, il6, il7, il8, il10, il16, il31, il32, il48, il35, il63, il64, ltT, ltF, leT, leF, eqT, eqF, inT, nI_clamp, nI_add, pk_sub, pk_mul, g0, g1, g2, g3, g4, g5, g6]
        · simp (disch := omega) [pX6_about, pX6_about_28, e2, e3, e4, il0, il1, il2, il3, il4, il5, il6, il7, il8, il10, il16, il31, il32, il48, il35, il63, il64, ltT, ltF, leT, leF, eqT, eqF, inT, nI_clamp, nI_add, pk_sub, pk_mul, r0, r1, r2, r3, r4, r5, r6]
      · refine ⟨(u, .inr (nI ed)), tI v 0 0, nI ed, ?_, ?_, Or.inr ⟨u, rfl, by simp [vi_I], hRx 0⟩⟩
        · simp (disch := omega) [pX5_about, e1, il0, il1, il2, il3, il4, il5, il6, il7, il8, il10, il16, il31, il32, il48, il35, il63, il64, ltT, ltF, leT, leF, eqT, eqF, inT, nI_clamp, nI_add, pk_sub, pk_mul, g0, g1, g2, g3, g4, g5, g6]
        · simp (disch := omega) [pX6_about, pX6_about_28, e2, e3, e4, il0, il1, il2, il3, il4, il5, il6, il7, il8, il10, il16, il31, il32, il48, il35, il63, il64, ltT, ltF, leT, leF, eqT, eqF, inT, nI_clamp, nI_add, pk_sub, pk_mul, r0, r1, r2, r3, r4, r5, r6]
      · refine ⟨(u, .inr (nI sg)), tI v 0 0, nI sg, ?_, ?_, Or.inr ⟨u, rfl, by simp [vi_I], hRx 0⟩⟩
        · simp (disch := omega) [pX5_about, e1, il0, il1, il2, il3, il4, il5, il6, il7, il8, il10, il16, il31, il32, il48, il35, il63, il64, ltT, ltF, leT, leF, eqT, eqF, inT, nI_clamp, nI_add, pk_sub, pk_mul, g0, g1, g2, g3, g4, g5, g6]
        · simp (disch := omega) [pX6_about, pX6_about_28, e2, e3, e4, il0, il1, il2, il3, il4, il5, il6, il7, il8, il10, il16, il31, il32, il48, il35, il63, il64, ltT, ltF, leT, leF, eqT, eqF, inT, nI_clamp, nI_add, pk_sub, pk_mul, r0, r1, r2, r3, r4, r5, r6]
      · refine ⟨(u, .inr (nI bg)), tI v 0 0, nI bg, ?_, ?_, Or.inr ⟨u, rfl, by simp [vi_I], hRx 0⟩⟩
        · simp (disch := omega) [pX5_about, e1, il0, il1, il2, il3, il4, il5, il6, il7, il8, il10, il16, il31, il32, il48, il35, il63, il64, ltT, ltF, leT, leF, eqT, eqF, inT, nI_clamp, nI_add, pk_sub, pk_mul, g0, g1, g2, g3, g4, g5, g6]
        · simp (disch := omega) [pX6_about, pX6_about_28, e2, e3, e4, il0, il1, il2, il3, il4, il5, il6, il7, il8, il10, il16, il31, il32, il48, il35, il63, il64, ltT, ltF, leT, leF, eqT, eqF, inT, nI_clamp, nI_add, pk_sub, pk_mul, r0, r1, r2, r3, r4, r5, r6]
      · refine ⟨(u, .inr (nI dp)), tI v 0 0, nI dp, ?_, ?_, Or.inr ⟨u, rfl, by simp [vi_I], hRx 0⟩⟩
        · simp (disch := omega) [pX5_about, e1, il0, il1, il2, il3, il4, il5, il6, il7, il8, il10, il16, il31, il32, il48, il35, il63, il64, ltT, ltF, leT, leF, eqT, eqF, inT, nI_clamp, nI_add, pk_sub, pk_mul, g0, g1, g2, g3, g4, g5, g6]
        · simp (disch := omega) [pX6_about, pX6_about_28, e2, e3, e4, il0, il1, il2, il3, il4, il5, il6, il7, il8, il10, il16, il31, il32, il48, il35, il63, il64, ltT, ltF, leT, leF, eqT, eqF, inT, nI_clamp, nI_add, pk_sub, pk_mul, r0, r1, r2, r3, r4, r5, r6]
    · have n : ∀ p : Nat, p ≤ 6 → ¬ a2 = nI p := fun p h e => hp ⟨p, h, e⟩
      refine ⟨(u, .inl 1), tI v 0 2, 0, ?_, ?_, Or.inl ⟨u, 1, rfl, by decide, ?_, hRx 2⟩⟩
      · simp [pX5_about, e1, il0, il1, il2, il3, il4, il5, il6, n 0 (by omega), n 1 (by omega), n 2 (by omega), n 3 (by omega), n 4 (by omega), n 5 (by omega), n 6 (by omega)]
      · rcases negI a2 with h | ⟨p, hp2, rfl⟩
        · simp [pX6_about, pX6_about_23, pX6_about_28, e2, h]
        · have : ¬ p ≤ 6 := fun h => n p h rfl
          simp (disch := omega) [pX6_about, pX6_about_23, pX6_about_28, e2, il0, il1, il2, il3, il4, il5, il6, il7, il8, il10, il16, il31, il32, il48, il35, il63, il64, ltT, ltF, leT, leF, eqT, eqF, inT, nI_clamp, nI_add, pk_sub, pk_mul]
      · simp [vi_I]; rfl
/-! ===== a new handle ===== -/
theorem m_hold {v : MS} {hn : Nat} (h : Vi v 13 = nI hn) (hh : hn < 16) (a1 : Int32) : pX6_hold v a1 = some (tI (tA (tA (tA (tA (tA (tA (tA v 14 hn (Vi v 5)) 15 hn (Vi v 6)) 16 hn (Vi v 7)) 17 hn (Vl v 8).toInt32) 18 hn (Vi v 9)) 19 hn (Vi v 10)) 20 hn a1) 13 (nI (hn + 1)), nI hn) := by
  simp (disch := omega) [pX6_hold, h, il0, il1, il2, il3, il4, il5, il6, il7, il8, il10, il16, il31, il32, il48, il35, il63, il64, ltT, ltF, leT, leF, eqT, eqF, inT, nI_clamp, nI_add, pk_sub, pk_mul]
theorem T_element {Z : CZ} {u : CS} {v : MS} (hR : Rel Z u v) (a1 a2 : Int32) : ∃ res v' b, pX5_element Z u a1 a2 = some res ∧ pX6_element v a1 a2 = some (v', b) ∧ zBoth Z lco2 [1, 2, 4, 5] res v' b := by
  have hRx := fun x => Rel_0 hR x
  obtain ⟨hd, cn, hn, l, b, fn, kn, hM, ⟨q1, q2, q3, q4, q5, q6, q7⟩, hB, hF, hK⟩ := hR
  rcases z_hcase a1 q1 with h | ⟨j, hj, rfl⟩
  · refine ⟨(u, .inl 2), tI v 0 1, 0, ?_, ?_, Or.inl ⟨u, 2, rfl, by decide, ?_, hRx 1⟩⟩
    · simp [pX5_element, c_reqH0 q3 q1 h]
    · simp [pX6_element, m_isH0 q4 q1 h, pX6_element_60]
    · simp [vi_I]; rfl
  · obtain ⟨sh, co, po, ed, sg, bg, dp, ⟨o1, o2, o3, o4, o5, o6, o7, o8, o9⟩, b2, b3, ⟨g0, g1, g2, g3, g4, g5, g6⟩, ⟨r0, r1, r2, r3, r4, r5, r6⟩⟩ := q7 j hj
    have e1 : pX5_requireHandle Z u (nI j) = some (u, .inr (Zh Z j)) := c_reqH q3 q1 hj
    have e2 : pX6_isHandle v (nI j) = 1 := m_isH q4 q1 hj
    have e3 : inb (nI j) 16 = true := inT (by omega) (by omega)
    have e4 : (nI j).toNatClampNeg = j := nI_clamp (by omega)
    by_cases s8 : sh = 8
    · subst s8
      by_cases hk : ∃ k : Nat, k < co ∧ a2 = nI k
      · obtain ⟨k, hk, rfl⟩ := hk
        have e5 : pX5_requireElement Z u (Zh Z j) (nI k) = some (u, .inr ()) := by simp (disch := omega) [pX5_requireElement, g0, g1, il0, il1, il2, il3, il4, il5, il6, il7, il8, il10, il16, il31, il32, il48, il35, il63, il64, ltT, ltF, leT, leF, eqT, eqF, inT, nI_clamp, nI_add, pk_sub, pk_mul]
        by_cases hf : hn = 16
        · refine ⟨(u, .inl 4), tI v 0 4, 0, ?_, ?_, Or.inl ⟨u, 4, rfl, by decide, ?_, hRx 4⟩⟩
          · simp (disch := omega) [pX5_element, e1, e5, g0, il0, il1, il2, il3, il4, il5, il6, il7, il8, il10, il16, il31, il32, il48, il35, il63, il64, ltT, ltF, leT, leF, eqT, eqF, inT, nI_clamp, nI_add, pk_sub, pk_mul, pX5_requireFreeHandle, q3]
          · simp (disch := omega) [pX6_element, pX6_element_60, e2, e3, e4, r0, r1, q4, il0, il1, il2, il3, il4, il5, il6, il7, il8, il10, il16, il31, il32, il48, il35, il63, il64, ltT, ltF, leT, leF, eqT, eqF, inT, nI_clamp, nI_add, pk_sub, pk_mul]
          · simp [vi_I]; rfl
        · have hne : ∀ s, s < hn → ¬ Zh Z s = Zh Z hn := fun s hs => by
            rw [fd_h (by omega), fd_h (by omega)]
            exact zd_f hd (by omega) (by omega) (by omega)
          have hne2 : ¬ Zh Z j = Zh Z hn := hne j hj
          have hkb : (k + 1) * (ed + po) ≤ co * (ed + po) := Nat.mul_le_mul_right _ hk
          have h9 := o9 rfl
          rw [Nat.add_mul] at hkb
          have hcs := (hM sg o2).1
          refine ⟨(sI (sF (sF (sF (sF (sF (sF (sF u 0 (Zh Z hn) 0) 1 (Zh Z hn) (nI ed)) 2 (Zh Z hn) (nI po)) 3 (Zh Z hn) 0) 4 (Zh Z hn) (nI sg)) 5 (Zh Z hn) (nI (bg + k * (ed + po)))) 6 (Zh Z hn) (nI dp)) 1 (nI (hn + 1)), .inr (nI hn)),
            tI (tA (tA (tA (tA (tA (tA (tA (tI (tI (tL (tI (tI (tI (tI v 0 0) 5 0) 6 (nI sg)) 7 (nI (bg + k * (ed + po)))) 8 (lN ed)) 9 0) 10 (nI po)) 14 hn 0) 15 hn (nI sg)) 16 hn (nI (bg + k * (ed + po)))) 17 hn (nI ed)) 18 hn 0) 19 hn (nI po)) 20 hn (nI dp)) 13 (nI (hn + 1)), nI hn, ?_, ?_, Or.inr ⟨_, rfl, by simp [vi_I, vl_I, va_I, vr_I, vi_L, vl_L, va_L, vr_L, vi_A, vl_A, vA_A, vr_A, vi_R, vl_R, va_R, vr_R], hd, cn, hn + 1, l, b, fn, kn, ?_⟩⟩
          · simp (disch := omega) [pX5_element, e1, e5, g0, g2, g3, g4, g5, g6, il0, il1, il2, il3, il4, il5, il6, il7, il8, il10, il16, il31, il32, il48, il35, il63, il64, ltT, ltF, leT, leF, eqT, eqF, inT, nI_clamp, nI_add, pk_sub, pk_mul, pX5_requireFreeHandle, q3, pX2_becomeElement, pX2_elementBegin, uf_F, us_F, uc_F, ui_F, uf_S, us_S, uc_S, ui_S, uf_C, us_C, uc_C, ui_C, uf_I, us_I, uc_I, ui_I, hne2]
          · simp (disch := omega) [pX6_element, pX6_element_60, e2, e3, e4, r0, r1, r2, r3, r4, r5, r6, q4, il0, il1, il2, il3, il4, il5, il6, il7, il8, il10, il16, il31, il32, il48, il35, il63, il64, ltT, ltF, leT, leF, eqT, eqF, inT, nI_clamp, nI_add, pk_sub, pk_mul]
            rw [m_hold (hn := hn) (by simp [vi_I, vl_I, va_I, vr_I, vi_L, vl_L, va_L, vr_L, vi_A, vl_A, vA_A, vr_A, vi_R, vl_R, va_R, vr_R, q4]) (by omega)]
            simp (disch := omega) [vi_I, vl_I, va_I, vr_I, vi_L, vl_L, va_L, vr_L, vi_A, vl_A, vA_A, vr_A, vi_R, vl_R, va_R, vr_R, nI_l, lN_i, il0]
          · refine ⟨gMSG_fr hM (fun _ _ => rfl) (fun _ _ => rfl) (by simp [vi_I, vl_I, va_I, vr_I, vi_L, vl_L, va_L, vr_L, vi_A, vl_A, vA_A, vr_A, vi_R, vl_R, va_R, vr_R, va_A']) (by simp [vi_I, vl_I, va_I, vr_I, vi_L, vl_L, va_L, vr_L, vi_A, vl_A, vA_A, vr_A, vi_R, vl_R, va_R, vr_R]), ⟨by omega, q2, by simp [uf_F, us_F, uc_F, ui_F, uf_S, us_S, uc_S, ui_S, uf_C, us_C, uc_C, ui_C, uf_I, us_I, uc_I, ui_I], by simp [vi_I, vl_I, va_I, vr_I, vi_L, vl_L, va_L, vr_L, vi_A, vl_A, vA_A, vr_A, vi_R, vl_R, va_R, vr_R], ?_, fun _ => ?_, fun s hs => ?_⟩, gBUD_fr hB (by simp [uf_F, us_F, uc_F, ui_F, uf_S, us_S, uc_S, ui_S, uf_C, us_C, uc_C, ui_C, uf_I, us_I, uc_I, ui_I]) (by simp [vi_I, vl_I, va_I, vr_I, vi_L, vl_L, va_L, vr_L, vi_A, vl_A, vA_A, vr_A, vi_R, vl_R, va_R, vr_R]), gFRM_fr hF rfl rfl (by simp [vi_I, vl_I, va_I, vr_I, vi_L, vl_L, va_L, vr_L, vi_A, vl_A, vA_A, vr_A, vi_R, vl_R, va_R, vr_R]) (by simp [vi_I, vl_I, va_I, vr_I, vi_L, vl_L, va_L, vr_L, vi_A, vl_A, vA_A, vr_A, vi_R, vl_R, va_R, vr_R]), gKPT_fr hK rfl rfl (by simp [vi_I, vl_I, va_I, vr_I, vi_L, vl_L, va_L, vr_L, vi_A, vl_A, vA_A, vr_A, vi_R, vl_R, va_R, vr_R]) (by simp [vi_I, vl_I, va_I, vr_I, vi_L, vl_L, va_L, vr_L, vi_A, vl_A, vA_A, vr_A, vi_R, vl_R, va_R, vr_R])⟩
            · rw [if_neg (by omega)] at q5 ⊢
              simp [uf_F, us_F, uc_F, ui_F, uf_S, us_S, uc_S, ui_S, uf_C, us_C, uc_C, ui_C, uf_I, us_I, uc_I, ui_I, q5]
            · have := q6 (by omega)
              simp [vi_I, vl_I, va_I, vr_I, vi_L, vl_L, va_L, vr_L, vi_A, vl_A, vA_A, vr_A, vi_R, vl_R, va_R, vr_R, this]
            · by_cases hs2 : s = hn
              · subst hs2
                refine ⟨0, ed, po, 0, sg, bg + k * (ed + po), dp, ⟨by omega, o2, by omega, by omega, o5, by omega, fun _ => ⟨by omega, rfl⟩, fun q => absurd q (by omega), fun q => absurd q (by omega)⟩, b2, b3, ?_, ?_⟩
                · unfold obF
                  simp [uf_F, us_F, uc_F, ui_F, uf_S, us_S, uc_S, ui_S, uf_C, us_C, uc_C, ui_C, uf_I, us_I, uc_I, ui_I, nI_0]
                · unfold obR
                  simp [vi_I, vl_I, va_I, vr_I, vi_L, vl_L, va_L, vr_L, vi_A, vl_A, vA_A, vr_A, vi_R, vl_R, va_R, vr_R, nI_0]
              · obtain ⟨sh', co', po', ed', sg', bg', dp', p1, p2, p3, p4, p5⟩ := q7 s (by omega)
                refine ⟨sh', co', po', ed', sg', bg', dp', p1, p2, p3, ?_, ?_⟩
                · unfold obF at p4 ⊢
                  simp [uf_F, us_F, uc_F, ui_F, uf_S, us_S, uc_S, ui_S, uf_C, us_C, uc_C, ui_C, uf_I, us_I, uc_I, ui_I, hne s (by omega)]
                  exact p4
                · unfold obR at p5 ⊢
                  simp [vi_I, vl_I, va_I, vr_I, vi_L, vl_L, va_L, vr_L, vi_A, vl_A, vA_A, vr_A, vi_R, vl_R, va_R, vr_R, hs2]
                  exact p5
      · have n : ∀ k : Nat, k < co → ¬ a2 = nI k := fun p h e => hk ⟨p, h, e⟩
        refine ⟨(u, .inl 1), tI v 0 3, 0, ?_, ?_, Or.inl ⟨u, 1, rfl, by decide, ?_, hRx 3⟩⟩
        · rcases negI a2 with h | ⟨p, hp2, rfl⟩
          · simp (disch := omega) [pX5_element, e1, g0, pX5_requireElement, il0, il1, il2, il3, il4, il5, il6, il7, il8, il10, il16, il31, il32, il48, il35, il63, il64, ltT, ltF, leT, leF, eqT, eqF, inT, nI_clamp, nI_add, pk_sub, pk_mul, ngT h]
          · have : ¬ p < co := fun h => n p h rfl
            simp (disch := omega) [pX5_element, e1, g0, g1, pX5_requireElement, il0, il1, il2, il3, il4, il5, il6, il7, il8, il10, il16, il31, il32, il48, il35, il63, il64, ltT, ltF, leT, leF, eqT, eqF, inT, nI_clamp, nI_add, pk_sub, pk_mul]
        · rcases negI a2 with h | ⟨p, hp2, rfl⟩
          · simp (disch := omega) [pX6_element, pX6_element_42, pX6_element_60, e2, e3, e4, r0, il0, il1, il2, il3, il4, il5, il6, il7, il8, il10, il16, il31, il32, il48, il35, il63, il64, ltT, ltF, leT, leF, eqT, eqF, inT, nI_clamp, nI_add, pk_sub, pk_mul, ngT h]
          · have : ¬ p < co := fun h => n p h rfl
            simp (disch := omega) [pX6_element, pX6_element_42, pX6_element_60, e2, e3, e4, r0, r1, il0, il1, il2, il3, il4, il5, il6, il7, il8, il10, il16, il31, il32, il48, il35, il63, il64, ltT, ltF, leT, leF, eqT, eqF, inT, nI_clamp, nI_add, pk_sub, pk_mul]
        · simp [vi_I]; rfl
    · refine ⟨(u, .inl 5), tI v 0 2, 0, ?_, ?_, Or.inl ⟨u, 5, rfl, by decide, ?_, hRx 2⟩⟩
      · simp (disch := omega) [pX5_element, e1, g0, il0, il1, il2, il3, il4, il5, il6, il7, il8, il10, il16, il31, il32, il48, il35, il63, il64, ltT, ltF, leT, leF, eqT, eqF, inT, nI_clamp, nI_add, pk_sub, pk_mul]
      · simp (disch := omega) [pX6_element, pX6_element_60, e2, e3, e4, r0, il0, il1, il2, il3, il4, il5, il6, il7, il8, il10, il16, il31, il32, il48, il35, il63, il64, ltT, ltF, leT, leF, eqT, eqF, inT, nI_clamp, nI_add, pk_sub, pk_mul]
      · simp [vi_I]; rfl
