theorem z5_le {L i : Nat} (hL : L ≤ 2560) (h : ¬ Int32.ofNat L - 5 < nI i) (hi : i ≤ L := by omega) : i + 5 ≤ L := by
  have h1 : ((nI L) - (nI 5)).toInt = (L : Int) - 5 := by
    have := pk_sub_toInt (a := L) (b := 5) (by omega) (by omega)
    exact this
  have h2 : (nI i).toInt = (i : Int) := nI_toInt (by omega)
  have h3 : ¬ (nI L - nI 5 < nI i) := h
  rw [Int32.lt_iff_toInt_lt, h1, h2] at h3
  omega
theorem z_D3 {A : Nat → Prop} {a b c : va_W} (h : va_D A ((a ++ b) ++ c)) : va_D A ((b ++ c) ++ a) := by
  have h1 := va_D_l (va_D_l h)
  have h2 := va_D_r (va_D_l h)
  have h3 := va_D_r h
  have x12 : ∀ (i j : Nat) (p q : Nat × va_E), a[i]? = some p → b[j]? = some q → p.1 ≠ q.1 := fun i j p q q1 q2 => va_D_x (va_D_l h) q1 q2
  have x3 : ∀ (i j : Nat) (p q : Nat × va_E), (a ++ b)[i]? = some p → c[j]? = some q → p.1 ≠ q.1 := fun i j p q q1 q2 => va_D_x h q1 q2
  have x23 : ∀ (i j : Nat) (p q : Nat × va_E), b[i]? = some p → c[j]? = some q → p.1 ≠ q.1 := fun i j p q q1 q2 => x3 (a.length + i) j p q (by rw [List.getElem?_append_right (by omega), Nat.add_sub_cancel_left]; exact q1) q2
  have x13 : ∀ (i j : Nat) (p q : Nat × va_E), a[i]? = some p → c[j]? = some q → p.1 ≠ q.1 := fun i j p q q1 q2 => x3 i j p q (by rw [List.getElem?_append_left (List.getElem?_eq_some_iff.mp q1).1]; exact q1) q2
  refine (h2.app h3 x23).app h1 (fun i j p q q1 q2 => ?_)
  by_cases hi : i < b.length
  · rw [List.getElem?_append_left hi] at q1
    exact fun e => x12 j i q p q2 q1 e.symm
  · rw [List.getElem?_append_right (by omega)] at q1
    exact fun e => x13 j _ q p q2 q1 e.symm
theorem z_K {s : State} {args : Array Value} (hts : ∀ w ∈ lw_tbl, w.before args s = true) : ∃ (D : va_G) (c4 : Nat → ClassId), va_K D vwCl (cT c4) s := by
  obtain ⟨c_X1, i_X1, k_X1⟩ := u_known (C := RX1) (T := TX1) (N := 3) (n := 3) hts (fun w h => wgl (zin_X1 w h)) (hts _ (wgl zw_56))
  obtain ⟨c_X2, i_X2, k_X2⟩ := u_known (C := RX2) (T := TX2) (N := 7) (n := 7) hts (fun w h => wgl (zin_X2 w h)) (hts _ (wgl zw_65))
  obtain ⟨c_X3, i_X3, k_X3⟩ := u_known (C := RX3) (T := TX3) (N := 1) (n := 1) hts (fun w h => wgl (zin_X3 w h)) (hts _ (wgl zw_27))
  obtain ⟨c_X4, i_X4, k_X4⟩ := u_known (C := RX4) (T := TX4) (N := 2) (n := 2) hts (fun w h => wgl (zin_X4 w h)) (hts _ (wgl zw_34))
  obtain ⟨c_X5, i_X5, k_X5⟩ := u_known (C := RX5) (T := TX5) (N := 9) (n := 9) hts (fun w h => wgl (zin_X5 w h)) (hts _ (wgl zw_19))
  obtain ⟨c_X6, i_X6, k_X6⟩ := u_known (C := RX6) (T := TX6) (N := 33) (n := 33) hts (fun w h => wgl (zin_X6 w h)) (hts _ (wgl zw_632))
  obtain ⟨cJ, kJ, pJ, j1, j2, j3⟩ := Cond.arrayClass_spec (hts _ (wgl zwa_l))
  obtain ⟨cI, kI, pI, i1, i2, i3⟩ := Cond.arrayClass_spec (hts _ (wgl zwa_i))
  obtain ⟨pF, cF9, kF, f1, -, f3, f4, f5⟩ := Cond.arrayOver_spec (hts (.arrayOver (.object "PointedWords$Found")) (List.mem_append_right _ (List.mem_append_left _ (List.mem_of_getElem? (i := 64) rfl))))
  obtain ⟨pR, cR, kR, r1, -, r3, r4, r5⟩ := Cond.arrayOver_spec (hts (.arrayOver (.object "PointedWords$Row")) (List.mem_append_right _ (List.mem_append_left _ (List.mem_of_getElem? (i := 33) rfl))))
  refine ⟨(fun k => if k = 0 then c_X1 else if k = 1 then c_X2 else if k = 2 then c_X3 else if k = 3 then c_X4 else if k = 4 then c_X5 else c_X6, fun k => if k = 0 then i_X1 else if k = 1 then i_X2 else if k = 2 then i_X3 else if k = 3 then i_X4 else if k = 4 then i_X5 else i_X6), (fun k => if k = 0 then cJ else if k = 1 then cF9 else if k = 2 then cR else cI), ?_, ?_⟩
  · intro k q hq
    match k, hq with
    | 0, hq => cases hq; exact k_X1
    | 1, hq => cases hq; exact k_X2
    | 2, hq => cases hq; exact k_X3
    | 3, hq => cases hq; exact k_X4
    | 4, hq => cases hq; exact k_X5
    | 5, hq => cases hq; exact k_X6
    | k + 6, hq => simp [vwCl] at hq
  · intro k q hq
    match k, hq with
    | 0, hq => cases hq; exact ⟨fun n z => ⟨fun k h => (by cases h), kJ, j2, pJ, j3⟩, j1⟩
    | 1, hq => cases hq; exact ⟨fun n z => ⟨fun k h => (by cases h), kF, f3, pF, f4⟩, ⟨kF, pF, f3, f4, f1, f5⟩⟩
    | 2, hq => cases hq; exact ⟨fun n z => ⟨fun k h => (by cases h), kR, r3, pR, r4⟩, ⟨kR, pR, r3, r4, r1, r5⟩⟩
    | 3, hq => cases hq; exact ⟨fun n z => ⟨fun k h => (by cases h), kI, i2, pI, i3⟩, i1⟩
    | k + 4, hq => simp [cT] at hq
theorem z_Ns {s : State} {args : Array Value} (hts : ∀ w ∈ lw_tbl, w.before args s = true) : zNs s := ⟨va_Nw.of rfl (hts _ (List.mem_append_right _ (List.mem_append_left _ (List.mem_of_getElem? (i := 35) rfl)))), va_Nw.of rfl (hts _ (List.mem_append_right _ (List.mem_append_left _ (List.mem_of_getElem? (i := 62) rfl)))), va_Nw.of rfl (hts _ (List.mem_append_right _ (List.mem_append_left _ (List.mem_of_getElem? (i := 66) rfl)))), va_Nw.of rfl (hts _ (List.mem_append_right _ (List.mem_append_left _ (List.mem_of_getElem? (i := 125) rfl)))), va_Nw.of rfl (hts _ (List.mem_append_right _ (List.mem_append_left _ (List.mem_of_getElem? (i := 127) rfl)))), va_AO.of (hts _ (List.mem_append_right _ (List.mem_append_left _ (List.mem_of_getElem? (i := 33) rfl)))), va_AO.of (hts _ (List.mem_append_right _ (List.mem_append_left _ (List.mem_of_getElem? (i := 64) rfl))))⟩
theorem z_Nc {s : State} {args : Array Value} (hgv : (Jvm.Cond.and given_1 narrow_1).before args s = true) : zNc s := by
  have hf := flat_of_before _ hgv
  intro a ha b hb hne
  simp only [zCst, List.mem_cons, List.not_mem_nil, or_false] at ha hb
  rcases ha with rfl | rfl | rfl | rfl | rfl <;> rcases hb with rfl | rfl | rfl | rfl | rfl <;> first | exact absurd rfl hne | exact va_Nc.of (hf _ (by decide +kernel))
theorem z_str {own tx : String} {k : Nat} {A : Array Value} {s : State} (h1 : (Cond.stringRef own k tx).before A s = true) (h2 : (Cond.exactly (.string own k) "java/lang/String").before A s = true) : ∃ a : Nat, vk_R own k tx a s := by
  obtain ⟨a, c1, c2, c3, h3, -⟩ := Cond.exactly_spec h2
  exact ⟨a, vk_R.of h1 h3⟩
theorem z_eqi {t : Term} {n : Int32} {A : Array Value} {s : State} (h : (Cond.eq t (.int n)).before A s = true) : t.eval A s none [] s = some (.int n) := by
  simp only [Cond.before, Cond.holds, Cond.value] at h
  cases hv : t.eval A s none [] s with
  | none => simp [hv] at h
  | some v =>
    cases v <;> simp_all [Term.eval]
theorem z_eb {s : State} {args : Array Value} (hgv : (Jvm.Cond.and given_1 narrow_1).before args s = true) (hl : (Cond.laysStatic "PointedWords$Bits" "ELEMENT_BITS" "[I").before args s = true) (hi : (Cond.initialized "PointedWords$Bits").before args s = true) : ∃ te : Nat, va_Z RX0 "ELEMENT_BITS" "[I" (.ref te) (LA s) s s.heap ∧ va_T .int te 7 (fun j => .int (zEB j)) (LA s) s s.heap := by
  have hf := flat_of_before _ hgv
  have hA : ∀ a : Nat, a < s.heap.size → ¬ LA s a := fun a h => Nat.not_le.mpr h
  obtain ⟨t, h1, h2⟩ := va_Tof (tm := .static "PointedWords$Bits" "ELEMENT_BITS" "[I") (ty := .int) (N := 7) (f := fun j => .int (zEB j)) (by decide) (hf _ (by decide +kernel)) (z_eqi (hf (.eq (.length (.static "PointedWords$Bits" "ELEMENT_BITS" "[I")) (.int 7)) (by decide +kernel)))
    (fun j hj => by
      match j, hj with
      | 0, _ => exact z_eqi (hf (.eq (.elem (.static "PointedWords$Bits" "ELEMENT_BITS" "[I") (.int 0)) (.int 0)) (by decide +kernel))
      | 1, _ => exact z_eqi (hf (.eq (.elem (.static "PointedWords$Bits" "ELEMENT_BITS" "[I") (.int 1)) (.int 1)) (by decide +kernel))
      | 2, _ => exact z_eqi (hf (.eq (.elem (.static "PointedWords$Bits" "ELEMENT_BITS" "[I") (.int 2)) (.int 8)) (by decide +kernel))
      | 3, _ => exact z_eqi (hf (.eq (.elem (.static "PointedWords$Bits" "ELEMENT_BITS" "[I") (.int 3)) (.int 16)) (by decide +kernel))
      | 4, _ => exact z_eqi (hf (.eq (.elem (.static "PointedWords$Bits" "ELEMENT_BITS" "[I") (.int 4)) (.int 32)) (by decide +kernel))
      | 5, _ => exact z_eqi (hf (.eq (.elem (.static "PointedWords$Bits" "ELEMENT_BITS" "[I") (.int 5)) (.int 64)) (by decide +kernel))
      | 6, _ => exact z_eqi (hf (.eq (.elem (.static "PointedWords$Bits" "ELEMENT_BITS" "[I") (.int 6)) (.int 64)) (by decide +kernel))) hA
  exact ⟨t, va_Zof hl hi h1 hA, h2⟩
theorem z_a0 {α : Type} {P : α → Prop} : ∀ x ∈ ([] : List α), P x := fun _ h => nomatch h
theorem z_ac {α : Type} {P : α → Prop} {a : α} {l : List α} (h : P a) (t : ∀ x ∈ l, P x) : ∀ x ∈ a :: l, P x := fun x hx => (List.mem_cons.mp hx).elim (fun e => by rw [e]; exact h) (t x)
theorem z_E {s : State} {args : Array Value} (hts : ∀ w ∈ lw_tbl, w.before args s = true) (hgv : (Jvm.Cond.and given_1 narrow_1).before args s = true) : cEv (LA s) s s.heap := by
  have hf := flat_of_before _ hgv
  have hA : ∀ a : Nat, a < s.heap.size → ¬ LA s a := fun a h => Nat.not_le.mpr h
  refine ⟨vx_Zqof (hts _ (List.mem_append_right _ (List.mem_append_right _ (List.mem_append_left _ (List.mem_of_getElem? (i := 46) rfl))))) (hts _ (wgl zw_7)) (hf _ (by decide +kernel)) hA, vx_Zqof (hts _ (List.mem_append_right _ (List.mem_append_right _ (List.mem_append_left _ (List.mem_of_getElem? (i := 48) rfl))))) (hts _ (wgl zw_7)) (hf _ (by decide +kernel)) hA, z_eb hgv (hts _ (List.mem_append_right _ (List.mem_append_right _ (List.mem_append_left _ (List.mem_of_getElem? (i := 197) rfl))))) (hts _ (wgl zw_12)), va_Nw.of rfl (hts _ (List.mem_append_right _ (List.mem_append_left _ (List.mem_of_getElem? (i := 40) rfl)))), ?_, ?_, ?_⟩
  · exact z_ac (z_str (hts _ (List.mem_append_right _ (List.mem_append_right _ (List.mem_append_left _ (List.mem_of_getElem? (i := 62) rfl))))) (hf _ (by decide +kernel))) (z_ac (z_str (hts _ (List.mem_append_right _ (List.mem_append_right _ (List.mem_append_left _ (List.mem_of_getElem? (i := 99) rfl))))) (hf _ (by decide +kernel))) (z_ac (z_str (hts _ (List.mem_append_right _ (List.mem_append_right _ (List.mem_append_left _ (List.mem_of_getElem? (i := 129) rfl))))) (hf _ (by decide +kernel))) (z_ac (z_str (hts _ (List.mem_append_right _ (List.mem_append_right _ (List.mem_append_left _ (List.mem_of_getElem? (i := 149) rfl))))) (hf _ (by decide +kernel))) (z_ac (z_str (hts _ (List.mem_append_right _ (List.mem_append_right _ (List.mem_append_left _ (List.mem_of_getElem? (i := 153) rfl))))) (hf _ (by decide +kernel))) (z_ac (z_str (hts _ (List.mem_append_right _ (List.mem_append_right _ (List.mem_append_left _ (List.mem_of_getElem? (i := 169) rfl))))) (hf _ (by decide +kernel))) (z_ac (z_str (hts _ (List.mem_append_right _ (List.mem_append_right _ (List.mem_append_left _ (List.mem_of_getElem? (i := 183) rfl))))) (hf _ (by decide +kernel))) (z_ac (z_str (hts _ (List.mem_append_right _ (List.mem_append_right _ (List.mem_append_left _ (List.mem_of_getElem? (i := 184) rfl))))) (hf _ (by decide +kernel))) (z_ac (z_str (hts _ (List.mem_append_right _ (List.mem_append_right _ (List.mem_append_left _ (List.mem_of_getElem? (i := 188) rfl))))) (hf _ (by decide +kernel))) (z_ac (z_str (hts _ (List.mem_append_right _ (List.mem_append_right _ (List.mem_append_left _ (List.mem_of_getElem? (i := 203) rfl))))) (hf _ (by decide +kernel))) (z_ac (z_str (hts _ (List.mem_append_right _ (List.mem_append_right _ (List.mem_append_left _ (List.mem_of_getElem? (i := 216) rfl))))) (hf _ (by decide +kernel))) (z_ac (z_str (hts _ (List.mem_append_right _ (List.mem_append_right _ (List.mem_append_left _ (List.mem_of_getElem? (i := 223) rfl))))) (hf _ (by decide +kernel))) (z_ac (z_str (hts _ (List.mem_append_right _ (List.mem_append_right _ (List.mem_append_right _ (List.mem_append_left _ (List.mem_of_getElem? (i := 1) rfl)))))) (hf _ (by decide +kernel))) (z_ac (z_str (hts _ (List.mem_append_right _ (List.mem_append_right _ (List.mem_append_right _ (List.mem_append_left _ (List.mem_of_getElem? (i := 12) rfl)))))) (hf _ (by decide +kernel))) (z_ac (z_str (hts _ (List.mem_append_right _ (List.mem_append_right _ (List.mem_append_right _ (List.mem_append_left _ (List.mem_of_getElem? (i := 23) rfl)))))) (hf _ (by decide +kernel))) (z_ac (z_str (hts _ (List.mem_append_right _ (List.mem_append_right _ (List.mem_append_right _ (List.mem_append_left _ (List.mem_of_getElem? (i := 38) rfl)))))) (hf _ (by decide +kernel))) (z_ac (z_str (hts _ (List.mem_append_right _ (List.mem_append_right _ (List.mem_append_right _ (List.mem_append_left _ (List.mem_of_getElem? (i := 51) rfl)))))) (hf _ (by decide +kernel))) (z_ac (z_str (hts _ (List.mem_append_right _ (List.mem_append_right _ (List.mem_append_right _ (List.mem_append_left _ (List.mem_of_getElem? (i := 67) rfl)))))) (hf _ (by decide +kernel))) (z_ac (z_str (hts _ (List.mem_append_right _ (List.mem_append_right _ (List.mem_append_right _ (List.mem_append_left _ (List.mem_of_getElem? (i := 75) rfl)))))) (hf _ (by decide +kernel))) (z_a0)))))))))))))))))))
  · exact z_ac (va_Nw.of rfl (hts _ (List.mem_append_right _ (List.mem_append_right _ (List.mem_append_left _ (List.mem_of_getElem? (i := 23) rfl)))))) (z_ac (va_Nw.of rfl (hts _ (List.mem_append_right _ (List.mem_append_right _ (List.mem_append_left _ (List.mem_of_getElem? (i := 25) rfl)))))) (z_ac (va_Nw.of rfl (hts _ (List.mem_append_right _ (List.mem_append_right _ (List.mem_append_left _ (List.mem_of_getElem? (i := 27) rfl)))))) (z_a0)))
  · exact z_ac (va_Nw.of rfl (hts _ (List.mem_append_right _ (List.mem_append_right _ (List.mem_append_left _ (List.mem_of_getElem? (i := 21) rfl)))))) (z_ac (va_Nw.of rfl (hts _ (List.mem_append_right _ (List.mem_append_right _ (List.mem_append_left _ (List.mem_of_getElem? (i := 92) rfl)))))) (z_ac (va_Nw.of rfl (hts _ (List.mem_append_right _ (List.mem_append_right _ (List.mem_append_left _ (List.mem_of_getElem? (i := 122) rfl)))))) (z_ac (va_Nw.of rfl (hts _ (List.mem_append_right _ (List.mem_append_right _ (List.mem_append_left _ (List.mem_of_getElem? (i := 209) rfl)))))) (z_ac (va_Nw.of rfl (hts _ (List.mem_append_right _ (List.mem_append_right _ (List.mem_append_right _ (List.mem_append_left _ (List.mem_of_getElem? (i := 5) rfl))))))) (z_a0)))))
