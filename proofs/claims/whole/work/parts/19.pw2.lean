def pX5_requireHandle (Z : CZ) (u : CS) (a1 : Int32) : Option (CS × (Nat ⊕ Nat)) := (if a1 < 0 then some (u, .inl 2) else (if a1 < (Ui u 1) then (if inb a1 16 = true then some (u, .inr (Zh Z a1.toNatClampNeg)) else none) else some (u, .inl 2)))
set_option maxHeartbeats 4000000 in
set_option maxRecDepth 100000 in
theorem ct_X5_requireHandle (l : Launch) (hl0 : l.stackTraces = false) (D : va_G) (c4 : Nat → ClassId) (A : Nat → Prop) (Z : CZ) (hZ : cok Z) (u : CS) (a1 : Int32) (res : CS × (Nat ⊕ Nat)) (h : pX5_requireHandle Z u a1 = some res) : vx_Met l yX5_requireHandle (wz yX5_requireHandle cX5_requireHandle 2 (some (.object "PointedWords$Found"))) ({ frames := 6, cells := 1, slots := 6, locals := 90 } : Room) (va_Pc [.ref (Zz Z 0), .int a1] (fun U => cPre D c4 A Z u U)) (va_Qr (fun w : CS × Nat => res = (w.1, .inr w.2)) (fun w a t => w.2 = a ∧ wPre D c4 A (cW c4 Z w.1) t) A) (vx_X (fun kw : Nat × CS => res = (kw.2, .inl kw.1)) (fun E kw t => E = zEx kw.1 ∧ wPre D c4 A (cW c4 Z kw.2) t) A) 1 6 A := by
  refine vx_ofW (cc := cX5_requireHandle) (maxL := 2) (ret := (some (.object "PointedWords$Found"))) (by decide) rfl ?_
  intro p e s m args below meth c s₁ B hml htb hv
  obtain ⟨rfl, ⟨hP, hD, hK, hA⟩, hE⟩ := hv
  have hx := B.exec
  have hb := B.bytes
  have hr := B.returns
  have hts := atoms_spec (ws := (wz yX5_requireHandle cX5_requireHandle 2 (some (.object "PointedWords$Found")))) B.pre
  have hown : s.vm.findClass RX5 = some m.cls := findClass_of_methodNamed B.named
  have hlocks := B.notSynchronized
  have hS : va_S A s.heap s.heap [] := va_S.rf
  have hl := lv_entry ([.ref (Zz Z 0), .int a1]) (n := 2) (Nat.le_of_ble_eq_true rfl)
  rw [lg_entry_eq]
  generalize (lg_sl ([.ref (Zz Z 0), .int a1]) ++ List.replicate (2 - (lg_sl ([.ref (Zz Z 0), .int a1])).length) Slot.unset).toArray = ls at hl ⊢
  have hl : lv_has ls 2 [(0, .ref (Zz Z 0)), (1, .int a1)] := hl
  unfold pX5_requireHandle at h
  refine lv_iload_n hx hb dX5_requireHandle_0 rfl (lv_at hl 1 rfl) ?_
  refine lv_if_lt (tgt := 12) hx hb dX5_requireHandle_1 (by decide) (fun c_1 => ?_) (fun c_1 => ?_)
  · skip
    rw [if_pos c_1] at h
    obtain ⟨sa, hsa⟩ := hE.2.2.2.2.1 ("PointedWords", 177, "no such handle") (by decide)
    exact zx_throwS (ix := 13) (rx := prog_20_method_4_code) (by decide +kernel) (by decide +kernel) (by decide +kernel) (by decide +kernel) (A := A) (own := RX5) (cls := "java/util/NoSuchElementException") (names := ["java/lang/RuntimeException", "java/lang/Exception"]) hx hb hl0 hown (by decide +kernel) (by decide +kernel) (hts _ (wm zw_480)) (hts _ (wm zw_11)) hsa (zat_X5_179 (fun w h => hts w (wm h)) hE.2.2.2.2.2) zgd_X5_179 hE.1 hE.2.1 hS (hl.1.trans hml.symm) dX5_requireHandle_12 dX5_requireHandle_15 dX5_requireHandle_16 dX5_requireHandle_18 dX5_requireHandle_21 (fun x9 hx9 => (htb x9 hx9).elim) (Nat.le_of_ble_eq_true rfl) (Nat.le_of_ble_eq_true rfl) (Nat.le_of_ble_eq_true rfl) (Nat.le_of_ble_eq_true rfl) hlocks (fun t hal hz hk => ⟨(2, u), (Option.some.inj h).symm, ⟨rfl, wPre_up hP hD hK hA hS hz hk hal⟩, va_S_up hS hz hk⟩) hS.2.2 (Nat.le_of_ble_eq_true rfl) (Nat.le_of_ble_eq_true rfl)
  · skip
    rw [if_neg c_1] at h
    refine lv_iload_n hx hb dX5_requireHandle_4 rfl (lv_at hl 1 rfl) ?_
    refine lv_aload_n hx hb dX5_requireHandle_5 rfl (lv_at hl 0 rfl) ?_
    refine va_get (D := D) (ci := 4) (v := .int (Ui u 1)) (C := RX5) (T := TX5) (N := 9) hx hb hts (fun w h => wm (zin_X5 w h)) hown hK hP 0 rfl rfl 6 (by decide) (hts _ (wm zw_134)) (fun _ h9 => h9) rfl dX5_requireHandle_6 ?_
    refine lv_icmp_lt (tgt := 22) hx hb dX5_requireHandle_9 (by decide) (fun c_2 => ?_) (fun c_2 => ?_)
    · skip
      rw [if_pos c_2] at h
      refine lv_aload_n hx hb dX5_requireHandle_22 rfl (lv_at hl 0 rfl) ?_
      refine va_get (D := D) (ci := 4) (v := .ref (Zz Z 4)) (C := RX5) (T := TX5) (N := 9) hx hb hts (fun w h => wm (zin_X5 w h)) hown hK hP 0 rfl rfl 2 (by decide) (hts _ (wm zw_130)) (fun _ h9 => h9) rfl dX5_requireHandle_23 ?_
      refine lv_iload_n hx hb dX5_requireHandle_26 rfl (lv_at hl 1 rfl) ?_
      obtain ⟨hi_3, h⟩ := zb_if h
      refine va_aldq hx hb hK hP 4 1 rfl rfl (inb_in hi_3) dX5_requireHandle_27 ?_
      refine W.eq (g2 := F0 m 28 ls ([.ref (Zh Z a1.toNatClampNeg)])) rfl ?_
      refine vx_ret ?_
      exact W.aret (v := .ref (Zh Z a1.toNatClampNeg)) hx hb hr (Or.inl ⟨_, rfl⟩) (Or.inr ⟨_, rfl⟩) (fun t ht hW => ⟨⟨(u, (Zh Z a1.toNatClampNeg)), (Zh Z a1.toNatClampNeg), rfl, (Option.some.inj h).symm, rfl, wPre_go hP hD hK hA hS ht hW.alike⟩, hS.F ht⟩) hS.2.2 dX5_requireHandle_28
    · skip
      rw [if_neg c_2] at h
      obtain ⟨sa, hsa⟩ := hE.2.2.2.2.1 ("PointedWords", 177, "no such handle") (by decide)
      exact zx_throwS (ix := 13) (rx := prog_20_method_4_code) (by decide +kernel) (by decide +kernel) (by decide +kernel) (by decide +kernel) (A := A) (own := RX5) (cls := "java/util/NoSuchElementException") (names := ["java/lang/RuntimeException", "java/lang/Exception"]) hx hb hl0 hown (by decide +kernel) (by decide +kernel) (hts _ (wm zw_480)) (hts _ (wm zw_11)) hsa (zat_X5_179 (fun w h => hts w (wm h)) hE.2.2.2.2.2) zgd_X5_179 hE.1 hE.2.1 hS (hl.1.trans hml.symm) dX5_requireHandle_12 dX5_requireHandle_15 dX5_requireHandle_16 dX5_requireHandle_18 dX5_requireHandle_21 (fun x9 hx9 => (htb x9 hx9).elim) (Nat.le_of_ble_eq_true rfl) (Nat.le_of_ble_eq_true rfl) (Nat.le_of_ble_eq_true rfl) (Nat.le_of_ble_eq_true rfl) hlocks (fun t hal hz hk => ⟨(2, u), (Option.some.inj h).symm, ⟨rfl, wPre_up hP hD hK hA hS hz hk hal⟩, va_S_up hS hz hk⟩) hS.2.2 (Nat.le_of_ble_eq_true rfl) (Nat.le_of_ble_eq_true rfl)
theorem zhnd {Z : CZ} {u u' : CS} {i : Int32} {r : Nat} (hZ : cok Z) (h : pX5_requireHandle Z u i = some (u', .inr r)) : isF Z r := by
  unfold pX5_requireHandle at h
  by_cases c1 : i < 0
  · rw [if_pos c1] at h
    cases h
  · rw [if_neg c1] at h
    by_cases c2 : i < Ui u 1
    · rw [if_pos c2] at h
      obtain ⟨hi, h⟩ := zb_if h
      cases h
      exact cok_h hZ hi
    · rw [if_neg c2] at h
      cases h
def pX5_requireFreeHandle (Z : CZ) (u : CS) : Option (CS × (Nat ⊕ Unit)) := (if (Ui u 1) < (16 : Int32) then some (u, .inr ()) else some (u, .inl 4))
set_option maxHeartbeats 4000000 in
set_option maxRecDepth 100000 in
theorem ct_X5_requireFreeHandle (l : Launch) (hl0 : l.stackTraces = false) (D : va_G) (c4 : Nat → ClassId) (A : Nat → Prop) (Z : CZ) (hZ : cok Z) (u : CS) (res : CS × (Nat ⊕ Unit)) (h : pX5_requireFreeHandle Z u = some res) : vx_Met l yX5_requireFreeHandle (wz yX5_requireFreeHandle cX5_requireFreeHandle 1 none) ({ frames := 6, cells := 1, slots := 6, locals := 90 } : Room) (va_Pc [.ref (Zz Z 0)] (fun U => cPre D c4 A Z u U)) (va_Qv (fun w => res = (w, .inr ())) (fun w t => wPre D c4 A (cW c4 Z w) t) A) (vx_X (fun kw : Nat × CS => res = (kw.2, .inl kw.1)) (fun E kw t => E = zEx kw.1 ∧ wPre D c4 A (cW c4 Z kw.2) t) A) 1 6 A := by
  refine vx_ofW (cc := cX5_requireFreeHandle) (maxL := 1) (ret := none) (by decide) rfl ?_
  intro p e s m args below meth c s₁ B hml htb hv
  obtain ⟨rfl, ⟨hP, hD, hK, hA⟩, hE⟩ := hv
  have hx := B.exec
  have hb := B.bytes
  have hr := B.returns
  have hts := atoms_spec (ws := (wz yX5_requireFreeHandle cX5_requireFreeHandle 1 none)) B.pre
  have hown : s.vm.findClass RX5 = some m.cls := findClass_of_methodNamed B.named
  have hlocks := B.notSynchronized
  have hS : va_S A s.heap s.heap [] := va_S.rf
  have hl := lv_entry ([.ref (Zz Z 0)]) (n := 1) (Nat.le_of_ble_eq_true rfl)
  rw [lg_entry_eq]
  generalize (lg_sl ([.ref (Zz Z 0)]) ++ List.replicate (1 - (lg_sl ([.ref (Zz Z 0)])).length) Slot.unset).toArray = ls at hl ⊢
  have hl : lv_has ls 1 [(0, .ref (Zz Z 0))] := hl
  unfold pX5_requireFreeHandle at h
  refine lv_aload_n hx hb dX5_requireFreeHandle_0 rfl (lv_at hl 0 rfl) ?_
  refine va_get (D := D) (ci := 4) (v := .int (Ui u 1)) (C := RX5) (T := TX5) (N := 9) hx hb hts (fun w h => wm (zin_X5 w h)) hown hK hP 0 rfl rfl 6 (by decide) (hts _ (wm zw_134)) (fun _ h9 => h9) rfl dX5_requireFreeHandle_1 ?_
  refine lv_bipush (v := (16 : Int32)) hx hb dX5_requireFreeHandle_4 (by decide) ?_
  refine lv_icmp_lt (tgt := 19) hx hb dX5_requireFreeHandle_6 (by decide) (fun c_1 => ?_) (fun c_1 => ?_)
  · skip
    rw [if_pos c_1] at h
    refine vx_ret ?_
    exact W.vret hx hb hr (fun t ht hW => ⟨⟨u, rfl, (Option.some.inj h).symm, wPre_go hP hD hK hA hS ht hW.alike⟩, hS.F ht⟩) hS.2.2 dX5_requireFreeHandle_19
  · skip
    rw [if_neg c_1] at h
    obtain ⟨sa, hsa⟩ := hE.2.2.2.2.1 ("PointedWords", 182, "all handles are in use") (by decide)
    exact vx_throwS (A := A) (own := RX5) (cls := "java/lang/IllegalStateException") (names := ["java/lang/RuntimeException", "java/lang/Exception"]) hx hb hl0 hown (by decide +kernel) (by decide +kernel) (hts _ (wm zw_517)) (hts _ (wm zw_15)) hsa (zat_X5_184 (fun w h => hts w (wm h)) hE.2.2.2.2.2) zgd_X5_184 hE.1 hE.2.1 hS (hl.1.trans hml.symm) dX5_requireFreeHandle_9 dX5_requireFreeHandle_12 dX5_requireFreeHandle_13 dX5_requireFreeHandle_15 dX5_requireFreeHandle_18 (fun x9 hx9 => (htb x9 hx9).elim) (Nat.le_of_ble_eq_true rfl) (Nat.le_of_ble_eq_true rfl) (Nat.le_of_ble_eq_true rfl) (Nat.le_of_ble_eq_true rfl) hlocks (fun t hal hz hk => ⟨(4, u), (Option.some.inj h).symm, ⟨rfl, wPre_up hP hD hK hA hS hz hk hal⟩, va_S_up hS hz hk⟩) hS.2.2 (Nat.le_of_ble_eq_true rfl) (Nat.le_of_ble_eq_true rfl)
def pX5_requireElement (Z : CZ) (u : CS) (a1 : Nat) (a2 : Int32) : Option (CS × (Nat ⊕ Unit)) := (if a2 < 0 then some (u, .inl 1) else (if (Uf u 0 a1) = 0 then some (u, .inr ()) else (if a2 < (Uf u 1 a1) then some (u, .inr ()) else some (u, .inl 1))))
set_option maxHeartbeats 4000000 in
set_option maxRecDepth 100000 in
theorem ct_X5_requireElement (l : Launch) (hl0 : l.stackTraces = false) (D : va_G) (c4 : Nat → ClassId) (A : Nat → Prop) (Z : CZ) (hZ : cok Z) (u : CS) (a1 : Nat) (ha1 : isF Z a1) (a2 : Int32) (res : CS × (Nat ⊕ Unit)) (h : pX5_requireElement Z u a1 a2 = some res) : vx_Met l yX5_requireElement (wz yX5_requireElement cX5_requireElement 2 none) ({ frames := 6, cells := 1, slots := 6, locals := 90 } : Room) (va_Pc [.ref a1, .int a2] (fun U => cPre D c4 A Z u U)) (va_Qv (fun w => res = (w, .inr ())) (fun w t => wPre D c4 A (cW c4 Z w) t) A) (vx_X (fun kw : Nat × CS => res = (kw.2, .inl kw.1)) (fun E kw t => E = zEx kw.1 ∧ wPre D c4 A (cW c4 Z kw.2) t) A) 1 6 A := by
  refine vx_ofW (cc := cX5_requireElement) (maxL := 2) (ret := none) (by decide) rfl ?_
  intro p e s m args below meth c s₁ B hml htb hv
  obtain ⟨rfl, ⟨hP, hD, hK, hA⟩, hE⟩ := hv
  have hx := B.exec
  have hb := B.bytes
  have hr := B.returns
  have hts := atoms_spec (ws := (wz yX5_requireElement cX5_requireElement 2 none)) B.pre
  have hown : s.vm.findClass RX5 = some m.cls := findClass_of_methodNamed B.named
  have hlocks := B.notSynchronized
  have hS : va_S A s.heap s.heap [] := va_S.rf
  have hl := lv_entry ([.ref a1, .int a2]) (n := 2) (Nat.le_of_ble_eq_true rfl)
  rw [lg_entry_eq]
  generalize (lg_sl ([.ref a1, .int a2]) ++ List.replicate (2 - (lg_sl ([.ref a1, .int a2])).length) Slot.unset).toArray = ls at hl ⊢
  have hl : lv_has ls 2 [(0, .ref a1), (1, .int a2)] := hl
  unfold pX5_requireElement at h
  refine lv_iload_n hx hb dX5_requireElement_0 rfl (lv_at hl 1 rfl) ?_
  refine lv_if_lt (tgt := 19) hx hb dX5_requireElement_1 (by decide) (fun c_1 => ?_) (fun c_1 => ?_)
  · skip
    rw [if_pos c_1] at h
    obtain ⟨sa, hsa⟩ := hE.2.2.2.2.1 ("PointedWords", 185, "no such element") (by decide)
    exact vx_throwS (A := A) (own := RX5) (cls := "java/lang/IndexOutOfBoundsException") (names := ["java/lang/RuntimeException", "java/lang/Exception"]) hx hb hl0 hown (by decide +kernel) (by decide +kernel) (hts _ (wm zw_502)) (hts _ (wm zw_10)) hsa (zat_X5_151 (fun w h => hts w (wm h)) hE.2.2.2.2.2) zgd_X5_151 hE.1 hE.2.1 hS (hl.1.trans hml.symm) dX5_requireElement_19 dX5_requireElement_22 dX5_requireElement_23 dX5_requireElement_25 dX5_requireElement_28 (fun x9 hx9 => (htb x9 hx9).elim) (Nat.le_of_ble_eq_true rfl) (Nat.le_of_ble_eq_true rfl) (Nat.le_of_ble_eq_true rfl) (Nat.le_of_ble_eq_true rfl) hlocks (fun t hal hz hk => ⟨(1, u), (Option.some.inj h).symm, ⟨rfl, wPre_up hP hD hK hA hS hz hk hal⟩, va_S_up hS hz hk⟩) hS.2.2 (Nat.le_of_ble_eq_true rfl) (Nat.le_of_ble_eq_true rfl)
  · skip
    rw [if_neg c_1] at h
    refine lv_aload_n hx hb dX5_requireElement_4 rfl (lv_at hl 0 rfl) ?_
    obtain ⟨n_2, hn_2⟩ := cW_F (c4 := c4) (u := u) ha1
    refine va_get (D := D) (ci := 1) (v := .int (Uf u 0 a1)) (C := RX2) (T := TX2) (N := 7) hx hb hts (fun w h => wm (zin_X2 w h)) hown hK hP n_2 hn_2 rfl 0 (by decide) (hts _ (wm zw_73)) (fun _ h9 => h9) rfl dX5_requireElement_5 ?_
    refine lv_if_eq (tgt := 29) hx hb dX5_requireElement_8 (by decide) (fun c_3 => ?_) (fun c_3 => ?_)
    · skip
      rw [if_pos c_3] at h
      refine vx_ret ?_
      exact W.vret hx hb hr (fun t ht hW => ⟨⟨u, rfl, (Option.some.inj h).symm, wPre_go hP hD hK hA hS ht hW.alike⟩, hS.F ht⟩) hS.2.2 dX5_requireElement_29
    · skip
      rw [if_neg c_3] at h
      refine lv_iload_n hx hb dX5_requireElement_11 rfl (lv_at hl 1 rfl) ?_
      refine lv_aload_n hx hb dX5_requireElement_12 rfl (lv_at hl 0 rfl) ?_
      obtain ⟨n_4, hn_4⟩ := cW_F (c4 := c4) (u := u) ha1
      refine va_get (D := D) (ci := 1) (v := .int (Uf u 1 a1)) (C := RX2) (T := TX2) (N := 7) hx hb hts (fun w h => wm (zin_X2 w h)) hown hK hP n_4 hn_4 rfl 1 (by decide) (hts _ (wm zw_76)) (fun _ h9 => h9) rfl dX5_requireElement_13 ?_
      refine lv_icmp_lt (tgt := 29) hx hb dX5_requireElement_16 (by decide) (fun c_5 => ?_) (fun c_5 => ?_)
      · skip
        rw [if_pos c_5] at h
        refine vx_ret ?_
        exact W.vret hx hb hr (fun t ht hW => ⟨⟨u, rfl, (Option.some.inj h).symm, wPre_go hP hD hK hA hS ht hW.alike⟩, hS.F ht⟩) hS.2.2 dX5_requireElement_29
      · skip
        rw [if_neg c_5] at h
        obtain ⟨sa, hsa⟩ := hE.2.2.2.2.1 ("PointedWords", 185, "no such element") (by decide)
        exact vx_throwS (A := A) (own := RX5) (cls := "java/lang/IndexOutOfBoundsException") (names := ["java/lang/RuntimeException", "java/lang/Exception"]) hx hb hl0 hown (by decide +kernel) (by decide +kernel) (hts _ (wm zw_502)) (hts _ (wm zw_10)) hsa (zat_X5_151 (fun w h => hts w (wm h)) hE.2.2.2.2.2) zgd_X5_151 hE.1 hE.2.1 hS (hl.1.trans hml.symm) dX5_requireElement_19 dX5_requireElement_22 dX5_requireElement_23 dX5_requireElement_25 dX5_requireElement_28 (fun x9 hx9 => (htb x9 hx9).elim) (Nat.le_of_ble_eq_true rfl) (Nat.le_of_ble_eq_true rfl) (Nat.le_of_ble_eq_true rfl) (Nat.le_of_ble_eq_true rfl) hlocks (fun t hal hz hk => ⟨(1, u), (Option.some.inj h).symm, ⟨rfl, wPre_up hP hD hK hA hS hz hk hal⟩, va_S_up hS hz hk⟩) hS.2.2 (Nat.le_of_ble_eq_true rfl) (Nat.le_of_ble_eq_true rfl)
def pX5_open (Z : CZ) (u : CS) : Option (CS × (Nat ⊕ Int32)) := ((pX3_findRoot Z u (Ui u 3) (Zz Z 6)).bind fun x_1 => match x_1.2 with | .inl j => some (x_1.1, .inl j) | .inr r_1 => (if inb (0 : Int32) 16 = true then ((pX2_become Z (x_1.1) (Zh Z (0 : Int32).toNatClampNeg) (Zz Z 6)).bind fun x_3 => ((some ((Ui (x_3.1) 3) - r_1)).bind fun y_5 => some ((sI (sI (x_3.1) 1 (1 : Int32)) 2 y_5), .inr ((Uf (x_3.1) 1 (Zz Z 6)) + (Uf (x_3.1) 2 (Zz Z 6)))))) else none))
set_option maxHeartbeats 4000000 in
set_option maxRecDepth 100000 in
theorem ct_X5_open (l : Launch) (hl0 : l.stackTraces = false) (D : va_G) (c4 : Nat → ClassId) (A : Nat → Prop) (Z : CZ) (hZ : cok Z) (u : CS) (res : CS × (Nat ⊕ Int32)) (h : pX5_open Z u = some res) : vx_Met l yX5_open (wz yX5_open cX5_open 2 (some .int)) ({ frames := 9, cells := 1, slots := 6, locals := 169 } : Room) (va_Pc [.ref (Zz Z 0)] (fun U => cPre D c4 A Z u U)) (va_Qi (fun q w => res = (w, .inr q)) (fun w t => wPre D c4 A (cW c4 Z w) t) A) (vx_X (fun kw : Nat × CS => res = (kw.2, .inl kw.1)) (fun E kw t => E = zEx kw.1 ∧ wPre D c4 A (cW c4 Z kw.2) t) A) 1 6 A := by
  refine vx_ofW (cc := cX5_open) (maxL := 2) (ret := (some .int)) (by decide) rfl ?_
  intro p e s m args below meth c s₁ B hml htb hv
  obtain ⟨rfl, ⟨hP, hD, hK, hA⟩, hE⟩ := hv
  have hx := B.exec
  have hb := B.bytes
  have hr := B.returns
  have hts := atoms_spec (ws := (wz yX5_open cX5_open 2 (some .int))) B.pre
  have hown : s.vm.findClass RX5 = some m.cls := findClass_of_methodNamed B.named
  have hlocks := B.notSynchronized
  have hS : va_S A s.heap s.heap [] := va_S.rf
  have hl := lv_entry ([.ref (Zz Z 0)]) (n := 2) (Nat.le_of_ble_eq_true rfl)
  rw [lg_entry_eq]
  generalize (lg_sl ([.ref (Zz Z 0)]) ++ List.replicate (2 - (lg_sl ([.ref (Zz Z 0)])).length) Slot.unset).toArray = ls at hl ⊢
  have hl : lv_has ls 2 [(0, .ref (Zz Z 0))] := hl
  unfold pX5_open at h
  refine lv_aload_n hx hb dX5_open_0 rfl (lv_at hl 0 rfl) ?_
  refine va_get (D := D) (ci := 4) (v := .ref (Zz Z 1)) (C := RX5) (T := TX5) (N := 9) hx hb hts (fun w h => wm (zin_X5 w h)) hown hK hP 0 rfl rfl 0 (by decide) (hts _ (wm zw_128)) (fun _ h9 => h9) rfl dX5_open_1 ?_
  refine lv_aload_n hx hb dX5_open_4 rfl (lv_at hl 0 rfl) ?_
  refine va_get (D := D) (ci := 4) (v := .int (Ui u 3)) (C := RX5) (T := TX5) (N := 9) hx hb hts (fun w h => wm (zin_X5 w h)) hown hK hP 0 rfl rfl 8 (by decide) (hts _ (wm zw_136)) (fun _ h9 => h9) rfl dX5_open_5 ?_
  refine lv_aload_n hx hb dX5_open_8 rfl (lv_at hl 0 rfl) ?_
  refine va_get (D := D) (ci := 4) (v := .ref (Zz Z 6)) (C := RX5) (T := TX5) (N := 9) hx hb hts (fun w h => wm (zin_X5 w h)) hown hK hP 0 rfl rfl 3 (by decide) (hts _ (wm zw_131)) (fun _ h9 => h9) rfl dX5_open_9 ?_
  obtain ⟨x_1, hc_1, h⟩ := zb_bind h
  try dsimp only at h
  refine vx_calli (vx_runV (As := [.int (Ui u 3), .ref (Zz Z 6)]) (rest := []) ⟨hx, hb, hml, hown, hts⟩ (ct_X3_findRoot l hl0 D c4 A Z hZ u (Ui u 3) (Zz Z 6) hZ.2.2.2.1 _ hc_1) (cwV 2 hts (wz_V zw_254 zw_255 zw_256 zw_2 zw_257) rfl rfl rfl (by decide +kernel) ⟨Nat.le_of_ble_eq_true rfl, Nat.le_of_ble_eq_true rfl⟩) ⟨fbC, va_recv hK hP (ci := 2) (q0 := 1) rfl rfl, fun U9 hU hW => ⟨rfl, goC hP hD hK hA hE hS hU hW⟩⟩ rfl rfl hl.1 rfl (lv_room (Nat.le_of_ble_eq_true rfl)) dX5_open_12 ⟨Nat.le_of_ble_eq_true rfl, Nat.le_of_ble_eq_true rfl⟩) hS (fun q _ h => h) (fun q h => h) (fun q _ h => h) (fun E9 ce9 q9 kw_1 t H1 locs ht hvm e_1 hB hz1 hk1 hS hc9 hv9 hcl9 => ?_) (fun r_1 u_1 t H1 locs ht hvm e_1 hB hz1 hk1 hS => ?_)
  · subst e_1
    try dsimp only at h
    obtain ⟨rfl, hP, hD, -, -⟩ := hB
    rw [ht] at hP
    exact vx_out (fun x9 hx9 => (htb x9 hx9).elim) hlocks hc9 hv9 hcl9 (fun t ht hal => ⟨kw_1, (Option.some.inj h).symm, ⟨rfl, wPre_go hP hD hK hA hS ht hal⟩, hS.F ht⟩) hS.2.2 (Nat.le_of_ble_eq_true rfl) (Nat.le_of_ble_eq_true rfl)
  subst e_1
  try dsimp only at h
  obtain ⟨hP, hD, -, -⟩ := hB
  rw [ht] at hP
  generalize H1 = H at hP hS ⊢
  refine lv_istore_n (lv' := [(1, .int r_1), (0, .ref (Zz Z 0))]) hx hb dX5_open_15 rfl hl (by decide) rfl (fun ls hl => ?_)
  refine lv_aload_n hx hb dX5_open_16 rfl (lv_at hl 1 rfl) ?_
  refine va_get (D := D) (ci := 4) (v := .ref (Zz Z 4)) (C := RX5) (T := TX5) (N := 9) hx hb hts (fun w h => wm (zin_X5 w h)) hown hK hP 0 rfl rfl 2 (by decide) (hts _ (wm zw_130)) (fun _ h9 => h9) rfl dX5_open_17 ?_
  refine lv_iconst (v := (0 : Int32)) hx hb dX5_open_20 (by decide) ?_
  obtain ⟨hi_2, h⟩ := zb_if h
  refine va_aldq hx hb hK hP 4 1 rfl rfl (inb_in hi_2) dX5_open_21 ?_
  refine W.eq (g2 := F0 m 22 ls ([.ref (Zh Z (0 : Int32).toNatClampNeg)])) rfl ?_
  refine lv_aload_n hx hb dX5_open_22 rfl (lv_at hl 1 rfl) ?_
  refine va_get (D := D) (ci := 4) (v := .ref (Zz Z 6)) (C := RX5) (T := TX5) (N := 9) hx hb hts (fun w h => wm (zin_X5 w h)) hown hK hP 0 rfl rfl 3 (by decide) (hts _ (wm zw_131)) (fun _ h9 => h9) rfl dX5_open_23 ?_
  obtain ⟨n_4, hn_4⟩ := cW_F (c4 := c4) (u := u_1) (cok_h hZ hi_2)
  obtain ⟨x_3, hc_3, h⟩ := zb_bind h
  try dsimp only at h
  refine va_callv (va_runV (As := [.ref (Zz Z 6)]) (rest := []) ⟨hx, hb, hml, hown, hts⟩ (ct_X2_become l D c4 A Z hZ u_1 (Zh Z (0 : Int32).toNatClampNeg) (cok_h hZ hi_2) (Zz Z 6) hZ.2.2.2.1 _ hc_3) (cwV 1 hts (wz_V zw_464 zw_465 zw_466 zw_5 zw_467) rfl rfl rfl (by decide +kernel) ⟨Nat.le_of_ble_eq_true rfl, Nat.le_of_ble_eq_true rfl⟩) ⟨fbC, va_recv hK hP (ci := 1) (q0 := n_4) rfl hn_4, fun U9 hU hW => ⟨rfl, goC hP hD hK hA hE hS hU hW⟩⟩ rfl rfl hl.1 rfl (lv_room (Nat.le_of_ble_eq_true rfl)) dX5_open_26 ⟨Nat.le_of_ble_eq_true rfl, Nat.le_of_ble_eq_true rfl⟩) hS (fun q _ h => h) (fun q h => h) (fun u_3 t H1 locs ht hvm e_3 hB hz1 hk1 hS => ?_)
  subst e_3
  try dsimp only at h
  obtain ⟨hP, hD, -, -⟩ := hB
  rw [ht] at hP
  generalize H1 = H at hP hS ⊢
  refine lv_aload_n hx hb dX5_open_29 rfl (lv_at hl 1 rfl) ?_
  refine lv_iconst (v := (1 : Int32)) hx hb dX5_open_30 (by decide) ?_
  refine va_put (D := D) (ci := 4) (v := .int (1 : Int32)) (ty := .int) (C := RX5) (T := TX5) (N := 9) hx hb hts (fun w h => wm (zin_X5 w h)) tyX5 tyX5_ok nmX5 hown hK hP hD hS 0 rfl rfl 6 (by decide) (hts _ (wm zw_134)) (fun _ h9 => h9) rfl (by decide +kernel) rfl rfl (Nat.le_of_ble_eq_true rfl) dX5_open_31 (fun H locs hP hD hS => ?_)
  have hP : va_P D vwCl (cW c4 Z (sI u_3 1 (1 : Int32))) H := hP
  have hD : va_D A (cW c4 Z (sI u_3 1 (1 : Int32))) := hD
  refine lv_aload_n hx hb dX5_open_34 rfl (lv_at hl 1 rfl) ?_
  refine lv_aload_n hx hb dX5_open_35 rfl (lv_at hl 1 rfl) ?_
  refine va_get (D := D) (ci := 4) (v := .int (Ui u_3 3)) (C := RX5) (T := TX5) (N := 9) hx hb hts (fun w h => wm (zin_X5 w h)) hown hK hP 0 rfl rfl 8 (by decide) (hts _ (wm zw_136)) (fun _ h9 => h9) rfl dX5_open_36 ?_
  refine lv_iload_n hx hb dX5_open_39 rfl (lv_at hl 0 rfl) ?_
  refine lv_isub hx hb dX5_open_40 ?_
  obtain ⟨y_5, e_5, h⟩ := zb_bind h
  try dsimp only at h
  refine zt_i (Option.some.inj e_5) ?_
  refine va_put (D := D) (ci := 4) (v := .int y_5) (ty := .int) (C := RX5) (T := TX5) (N := 9) hx hb hts (fun w h => wm (zin_X5 w h)) tyX5 tyX5_ok nmX5 hown hK hP hD hS 0 rfl rfl 7 (by decide) (hts _ (wm zw_135)) (fun _ h9 => h9) rfl (by decide +kernel) rfl rfl (Nat.le_of_ble_eq_true rfl) dX5_open_41 (fun H locs hP hD hS => ?_)
  have hP : va_P D vwCl (cW c4 Z (sI (sI u_3 1 (1 : Int32)) 2 y_5)) H := hP
  have hD : va_D A (cW c4 Z (sI (sI u_3 1 (1 : Int32)) 2 y_5)) := hD
  refine lv_aload_n hx hb dX5_open_44 rfl (lv_at hl 1 rfl) ?_
  refine va_get (D := D) (ci := 4) (v := .ref (Zz Z 6)) (C := RX5) (T := TX5) (N := 9) hx hb hts (fun w h => wm (zin_X5 w h)) hown hK hP 0 rfl rfl 3 (by decide) (hts _ (wm zw_131)) (fun _ h9 => h9) rfl dX5_open_45 ?_
  obtain ⟨n_6, hn_6⟩ := cW_F (c4 := c4) (u := (sI (sI u_3 1 (1 : Int32)) 2 y_5)) hZ.2.2.2.1
  refine va_get (D := D) (ci := 1) (v := .int (Uf u_3 1 (Zz Z 6))) (C := RX2) (T := TX2) (N := 7) hx hb hts (fun w h => wm (zin_X2 w h)) hown hK hP n_6 hn_6 rfl 1 (by decide) (hts _ (wm zw_76)) (fun _ h9 => h9) rfl dX5_open_48 ?_
  refine lv_aload_n hx hb dX5_open_51 rfl (lv_at hl 1 rfl) ?_
  refine va_get (D := D) (ci := 4) (v := .ref (Zz Z 6)) (C := RX5) (T := TX5) (N := 9) hx hb hts (fun w h => wm (zin_X5 w h)) hown hK hP 0 rfl rfl 3 (by decide) (hts _ (wm zw_131)) (fun _ h9 => h9) rfl dX5_open_52 ?_
  obtain ⟨n_7, hn_7⟩ := cW_F (c4 := c4) (u := (sI (sI u_3 1 (1 : Int32)) 2 y_5)) hZ.2.2.2.1
  refine va_get (D := D) (ci := 1) (v := .int (Uf u_3 2 (Zz Z 6))) (C := RX2) (T := TX2) (N := 7) hx hb hts (fun w h => wm (zin_X2 w h)) hown hK hP n_7 hn_7 rfl 2 (by decide) (hts _ (wm zw_80)) (fun _ h9 => h9) rfl dX5_open_55 ?_
  refine lv_iadd hx hb dX5_open_58 ?_
  refine vx_ret ?_
  exact W.iret (v := ((Uf u_3 1 (Zz Z 6)) + (Uf u_3 2 (Zz Z 6)))) hx hb hr (fun t ht hW => ⟨⟨((Uf u_3 1 (Zz Z 6)) + (Uf u_3 2 (Zz Z 6))), (sI (sI u_3 1 (1 : Int32)) 2 y_5), rfl, (Option.some.inj h).symm, wPre_go hP hD hK hA hS ht hW.alike⟩, hS.F ht⟩) hS.2.2 dX5_open_59
def pX5_element (Z : CZ) (u : CS) (a1 : Int32) (a2 : Int32) : Option (CS × (Nat ⊕ Int32)) := ((pX5_requireHandle Z u a1).bind fun x_1 => match x_1.2 with | .inl j => some (x_1.1, .inl j) | .inr r_1 => (if (Uf (x_1.1) 0 r_1) = (8 : Int32) then ((pX5_requireElement Z (x_1.1) r_1 a2).bind fun x_4 => match x_4.2 with | .inl j => some (x_4.1, .inl j) | .inr r_4 => ((pX5_requireFreeHandle Z (x_4.1)).bind fun x_5 => match x_5.2 with | .inl j => some (x_5.1, .inl j) | .inr r_5 => (if inb (Ui (x_5.1) 1) 16 = true then ((pX2_becomeElement Z (x_5.1) (Zh Z (Ui (x_5.1) 1).toNatClampNeg) r_1 a2).bind fun x_7 => ((some ((Ui (x_7.1) 1) + (1 : Int32))).bind fun y_9 => some ((sI (x_7.1) 1 y_9), .inr (y_9 - (1 : Int32))))) else none))) else some ((x_1.1), .inl 5)))
set_option maxHeartbeats 4000000 in
set_option maxRecDepth 100000 in
theorem ct_X5_element (l : Launch) (hl0 : l.stackTraces = false) (D : va_G) (c4 : Nat → ClassId) (A : Nat → Prop) (Z : CZ) (hZ : cok Z) (u : CS) (a1 : Int32) (a2 : Int32) (res : CS × (Nat ⊕ Int32)) (h : pX5_element Z u a1 a2 = some res) : vx_Met l yX5_element (wz yX5_element cX5_element 4 (some .int)) ({ frames := 7, cells := 1, slots := 6, locals := 111 } : Room) (va_Pc [.ref (Zz Z 0), .int a1, .int a2] (fun U => cPre D c4 A Z u U)) (va_Qi (fun q w => res = (w, .inr q)) (fun w t => wPre D c4 A (cW c4 Z w) t) A) (vx_X (fun kw : Nat × CS => res = (kw.2, .inl kw.1)) (fun E kw t => E = zEx kw.1 ∧ wPre D c4 A (cW c4 Z kw.2) t) A) 1 6 A := by
  refine vx_ofW (cc := cX5_element) (maxL := 4) (ret := (some .int)) (by decide) rfl ?_
  intro p e s m args below meth c s₁ B hml htb hv
  obtain ⟨rfl, ⟨hP, hD, hK, hA⟩, hE⟩ := hv
  have hx := B.exec
  have hb := B.bytes
  have hr := B.returns
  have hts := atoms_spec (ws := (wz yX5_element cX5_element 4 (some .int))) B.pre
  have hown : s.vm.findClass RX5 = some m.cls := findClass_of_methodNamed B.named
  have hlocks := B.notSynchronized
  have hS : va_S A s.heap s.heap [] := va_S.rf
  have hl := lv_entry ([.ref (Zz Z 0), .int a1, .int a2]) (n := 4) (Nat.le_of_ble_eq_true rfl)
  rw [lg_entry_eq]
  generalize (lg_sl ([.ref (Zz Z 0), .int a1, .int a2]) ++ List.replicate (4 - (lg_sl ([.ref (Zz Z 0), .int a1, .int a2])).length) Slot.unset).toArray = ls at hl ⊢
  have hl : lv_has ls 4 [(0, .ref (Zz Z 0)), (1, .int a1), (2, .int a2)] := hl
  unfold pX5_element at h
  refine lv_aload_n hx hb dX5_element_0 rfl (lv_at hl 0 rfl) ?_
  refine lv_iload_n hx hb dX5_element_1 rfl (lv_at hl 1 rfl) ?_
  obtain ⟨x_1, hc_1, h⟩ := zb_bind h
  try dsimp only at h
  refine vx_callr (vx_runV (As := [.int a1]) (rest := []) ⟨hx, hb, hml, hown, hts⟩ (ct_X5_requireHandle l hl0 D c4 A Z hZ u a1 _ hc_1) (cwV 1 hts (wz_V zw_476 zw_478 zs_7 zw_1 zw_479) rfl rfl rfl (by decide +kernel) ⟨Nat.le_of_ble_eq_true rfl, Nat.le_of_ble_eq_true rfl⟩) ⟨fbC, va_recv hK hP (ci := 4) (q0 := 0) rfl rfl, fun U9 hU hW => ⟨rfl, goC hP hD hK hA hE hS hU hW⟩⟩ rfl rfl hl.1 rfl (lv_room (Nat.le_of_ble_eq_true rfl)) dX5_element_2 ⟨Nat.le_of_ble_eq_true rfl, Nat.le_of_ble_eq_true rfl⟩) hS (fun q _ h => h) (fun q h => h) (fun q _ h => h) (fun E9 ce9 q9 kw_1 t H1 locs ht hvm e_1 hB hz1 hk1 hS hc9 hv9 hcl9 => ?_) (fun w_1 y_1 t H1 locs ht hvm e_1 hB hz1 hk1 hS => ?_)
  · subst e_1
    try dsimp only at h
    obtain ⟨rfl, hP, hD, -, -⟩ := hB
    rw [ht] at hP
    exact vx_out (fun x9 hx9 => (htb x9 hx9).elim) hlocks hc9 hv9 hcl9 (fun t ht hal => ⟨kw_1, (Option.some.inj h).symm, ⟨rfl, wPre_go hP hD hK hA hS ht hal⟩, hS.F ht⟩) hS.2.2 (Nat.le_of_ble_eq_true rfl) (Nat.le_of_ble_eq_true rfl)
  obtain ⟨u_1, r_1⟩ := w_1
  subst e_1
  try dsimp only at h
  obtain ⟨rfl, hP, hD, -, -⟩ := hB
  rw [ht] at hP
  generalize H1 = H at hP hS ⊢
  refine lv_astore_n (lv' := [(3, .ref r_1), (0, .ref (Zz Z 0)), (1, .int a1), (2, .int a2)]) hx hb dX5_element_5 rfl hl (by decide) rfl (fun ls hl => ?_)
  refine lv_aload_n hx hb dX5_element_6 rfl (lv_at hl 0 rfl) ?_
  obtain ⟨n_2, hn_2⟩ := cW_F (c4 := c4) (u := u_1) (zhnd hZ hc_1)
  refine va_get (D := D) (ci := 1) (v := .int (Uf u_1 0 r_1)) (C := RX2) (T := TX2) (N := 7) hx hb hts (fun w h => wm (zin_X2 w h)) hown hK hP n_2 hn_2 rfl 0 (by decide) (hts _ (wm zw_73)) (fun _ h9 => h9) rfl dX5_element_7 ?_
  refine lv_bipush (v := (8 : Int32)) hx hb dX5_element_10 (by decide) ?_
  refine lv_icmp_eq (tgt := 25) hx hb dX5_element_12 (by decide) (fun c_3 => ?_) (fun c_3 => ?_)
  · skip
    rw [if_pos c_3] at h
    refine lv_aload_n hx hb dX5_element_25 rfl (lv_at hl 0 rfl) ?_
    refine lv_iload_n hx hb dX5_element_26 rfl (lv_at hl 3 rfl) ?_
    obtain ⟨x_4, hc_4, h⟩ := zb_bind h
    try dsimp only at h
    refine vx_callv (vx_runS (As := [.ref r_1, .int a2]) (rest := []) ⟨hx, hb, hml, hown, hts⟩ (ct_X5_requireElement l hl0 D c4 A Z hZ u_1 r_1 (zhnd hZ hc_1) a2 _ hc_4) (va_cwS 2 hts (wz_S zw_499 zw_500 zw_1 zw_501) rfl rfl rfl (by decide +kernel) ⟨Nat.le_of_ble_eq_true rfl, Nat.le_of_ble_eq_true rfl⟩) ⟨fbC, fun U9 hU hW => ⟨rfl, goC hP hD hK hA hE hS hU hW⟩⟩ rfl rfl hl.1 rfl (lv_room (Nat.le_of_ble_eq_true rfl)) dX5_element_27 ⟨Nat.le_of_ble_eq_true rfl, Nat.le_of_ble_eq_true rfl⟩) hS (fun q _ h => h) (fun q h => h) (fun q _ h => h) (fun E9 ce9 q9 kw_4 t H1 locs ht hvm e_4 hB hz1 hk1 hS hc9 hv9 hcl9 => ?_) (fun u_4 t H1 locs ht hvm e_4 hB hz1 hk1 hS => ?_)
    · subst e_4
      try dsimp only at h
      obtain ⟨rfl, hP, hD, -, -⟩ := hB
      rw [ht] at hP
      exact vx_out (fun x9 hx9 => (htb x9 hx9).elim) hlocks hc9 hv9 hcl9 (fun t ht hal => ⟨kw_4, (Option.some.inj h).symm, ⟨rfl, wPre_go hP hD hK hA hS ht hal⟩, hS.F ht⟩) hS.2.2 (Nat.le_of_ble_eq_true rfl) (Nat.le_of_ble_eq_true rfl)
    subst e_4
    try dsimp only at h
    obtain ⟨hP, hD, -, -⟩ := hB
    rw [ht] at hP
    generalize H1 = H at hP hS ⊢
    refine lv_aload_n hx hb dX5_element_30 rfl (lv_at hl 1 rfl) ?_
    obtain ⟨x_5, hc_5, h⟩ := zb_bind h
    try dsimp only at h
    refine vx_callv (vx_runV (As := []) (rest := []) ⟨hx, hb, hml, hown, hts⟩ (ct_X5_requireFreeHandle l hl0 D c4 A Z hZ u_4 _ hc_5) (cwV 0 hts (wz_V zw_513 zw_515 zs_8 zw_1 zw_516) rfl rfl rfl (by decide +kernel) ⟨Nat.le_of_ble_eq_true rfl, Nat.le_of_ble_eq_true rfl⟩) ⟨fbC, va_recv hK hP (ci := 4) (q0 := 0) rfl rfl, fun U9 hU hW => ⟨rfl, goC hP hD hK hA hE hS hU hW⟩⟩ rfl rfl hl.1 rfl (lv_room (Nat.le_of_ble_eq_true rfl)) dX5_element_31 ⟨Nat.le_of_ble_eq_true rfl, Nat.le_of_ble_eq_true rfl⟩) hS (fun q _ h => h) (fun q h => h) (fun q _ h => h) (fun E9 ce9 q9 kw_5 t H1 locs ht hvm e_5 hB hz1 hk1 hS hc9 hv9 hcl9 => ?_) (fun u_5 t H1 locs ht hvm e_5 hB hz1 hk1 hS => ?_)
    · subst e_5
      try dsimp only at h
      obtain ⟨rfl, hP, hD, -, -⟩ := hB
      rw [ht] at hP
      exact vx_out (fun x9 hx9 => (htb x9 hx9).elim) hlocks hc9 hv9 hcl9 (fun t ht hal => ⟨kw_5, (Option.some.inj h).symm, ⟨rfl, wPre_go hP hD hK hA hS ht hal⟩, hS.F ht⟩) hS.2.2 (Nat.le_of_ble_eq_true rfl) (Nat.le_of_ble_eq_true rfl)
    subst e_5
    try dsimp only at h
    obtain ⟨hP, hD, -, -⟩ := hB
    rw [ht] at hP
    generalize H1 = H at hP hS ⊢
    refine lv_aload_n hx hb dX5_element_34 rfl (lv_at hl 1 rfl) ?_
    refine va_get (D := D) (ci := 4) (v := .ref (Zz Z 4)) (C := RX5) (T := TX5) (N := 9) hx hb hts (fun w h => wm (zin_X5 w h)) hown hK hP 0 rfl rfl 2 (by decide) (hts _ (wm zw_130)) (fun _ h9 => h9) rfl dX5_element_35 ?_
    refine lv_aload_n hx hb dX5_element_38 rfl (lv_at hl 1 rfl) ?_
    refine va_get (D := D) (ci := 4) (v := .int (Ui u_5 1)) (C := RX5) (T := TX5) (N := 9) hx hb hts (fun w h => wm (zin_X5 w h)) hown hK hP 0 rfl rfl 6 (by decide) (hts _ (wm zw_134)) (fun _ h9 => h9) rfl dX5_element_39 ?_
    obtain ⟨hi_6, h⟩ := zb_if h
    refine va_aldq hx hb hK hP 4 1 rfl rfl (inb_in hi_6) dX5_element_42 ?_
    refine W.eq (g2 := F0 m 43 ls ([.ref (Zh Z (Ui u_5 1).toNatClampNeg)])) rfl ?_
    refine lv_aload_n hx hb dX5_element_43 rfl (lv_at hl 0 rfl) ?_
    refine lv_iload_n hx hb dX5_element_44 rfl (lv_at hl 3 rfl) ?_
    obtain ⟨n_8, hn_8⟩ := cW_F (c4 := c4) (u := u_5) (cok_h hZ hi_6)
    obtain ⟨x_7, hc_7, h⟩ := zb_bind h
    try dsimp only at h
    refine va_callv (va_runV (As := [.ref r_1, .int a2]) (rest := []) ⟨hx, hb, hml, hown, hts⟩ (ct_X2_becomeElement l D c4 A Z hZ u_5 (Zh Z (Ui u_5 1).toNatClampNeg) (cok_h hZ hi_6) r_1 (zhnd hZ hc_1) a2 _ hc_7) (cwV 2 hts (wz_V zw_532 zw_533 zw_534 zw_5 zw_535) rfl rfl rfl (by decide +kernel) ⟨Nat.le_of_ble_eq_true rfl, Nat.le_of_ble_eq_true rfl⟩) ⟨fbC, va_recv hK hP (ci := 1) (q0 := n_8) rfl hn_8, fun U9 hU hW => ⟨rfl, goC hP hD hK hA hE hS hU hW⟩⟩ rfl rfl hl.1 rfl (lv_room (Nat.le_of_ble_eq_true rfl)) dX5_element_45 ⟨Nat.le_of_ble_eq_true rfl, Nat.le_of_ble_eq_true rfl⟩) hS (fun q _ h => h) (fun q h => h) (fun u_7 t H1 locs ht hvm e_7 hB hz1 hk1 hS => ?_)
    subst e_7
    try dsimp only at h
    obtain ⟨hP, hD, -, -⟩ := hB
    rw [ht] at hP
    generalize H1 = H at hP hS ⊢
    refine lv_aload_n hx hb dX5_element_48 rfl (lv_at hl 1 rfl) ?_
    refine lv_dup hx hb dX5_element_49 rfl ?_
    refine va_get (D := D) (ci := 4) (v := .int (Ui u_7 1)) (C := RX5) (T := TX5) (N := 9) hx hb hts (fun w h => wm (zin_X5 w h)) hown hK hP 0 rfl rfl 6 (by decide) (hts _ (wm zw_134)) (fun _ h9 => h9) rfl dX5_element_50 ?_
    refine lv_iconst (v := (1 : Int32)) hx hb dX5_element_53 (by decide) ?_
    refine lv_iadd hx hb dX5_element_54 ?_
    obtain ⟨y_9, e_9, h⟩ := zb_bind h
    try dsimp only at h
    refine zt_i (Option.some.inj e_9) ?_
    refine va_put (D := D) (ci := 4) (v := .int y_9) (ty := .int) (C := RX5) (T := TX5) (N := 9) hx hb hts (fun w h => wm (zin_X5 w h)) tyX5 tyX5_ok nmX5 hown hK hP hD hS 0 rfl rfl 6 (by decide) (hts _ (wm zw_134)) (fun _ h9 => h9) rfl (by decide +kernel) rfl rfl (Nat.le_of_ble_eq_true rfl) dX5_element_55 (fun H locs hP hD hS => ?_)
    have hP : va_P D vwCl (cW c4 Z (sI u_7 1 y_9)) H := hP
    have hD : va_D A (cW c4 Z (sI u_7 1 y_9)) := hD
    refine lv_aload_n hx hb dX5_element_58 rfl (lv_at hl 1 rfl) ?_
    refine va_get (D := D) (ci := 4) (v := .int y_9) (C := RX5) (T := TX5) (N := 9) hx hb hts (fun w h => wm (zin_X5 w h)) hown hK hP 0 rfl rfl 6 (by decide) (hts _ (wm zw_134)) (fun _ h9 => h9) rfl dX5_element_59 ?_
    refine lv_iconst (v := (1 : Int32)) hx hb dX5_element_62 (by decide) ?_
    refine lv_isub hx hb dX5_element_63 ?_
    refine vx_ret ?_
    exact W.iret (v := (y_9 - (1 : Int32))) hx hb hr (fun t ht hW => ⟨⟨(y_9 - (1 : Int32)), (sI u_7 1 y_9), rfl, (Option.some.inj h).symm, wPre_go hP hD hK hA hS ht hW.alike⟩, hS.F ht⟩) hS.2.2 dX5_element_64
  · skip
    rw [if_neg c_3] at h
    obtain ⟨sa, hsa⟩ := hE.2.2.2.2.1 ("PointedWords", 133, "no list of structs") (by decide)
    exact vx_throwS (A := A) (own := RX5) (cls := "java/lang/UnsupportedOperationException") (names := ["java/lang/RuntimeException", "java/lang/Exception"]) hx hb hl0 hown (by decide +kernel) (by decide +kernel) (hts _ (wm zw_483)) (hts _ (wm zw_16)) hsa (zat_X5_109 (fun w h => hts w (wm h)) hE.2.2.2.2.2) zgd_X5_109 hE.1 hE.2.1 hS (hl.1.trans hml.symm) dX5_element_15 dX5_element_18 dX5_element_19 dX5_element_21 dX5_element_24 (fun x9 hx9 => (htb x9 hx9).elim) (Nat.le_of_ble_eq_true rfl) (Nat.le_of_ble_eq_true rfl) (Nat.le_of_ble_eq_true rfl) (Nat.le_of_ble_eq_true rfl) hlocks (fun t hal hz hk => ⟨(5, u_1), (Option.some.inj h).symm, ⟨rfl, wPre_up hP hD hK hA hS hz hk hal⟩, va_S_up hS hz hk⟩) hS.2.2 (Nat.le_of_ble_eq_true rfl) (Nat.le_of_ble_eq_true rfl)
def pX5_about (Z : CZ) (u : CS) (a1 : Int32) (a2 : Int32) : Option (CS × (Nat ⊕ Int32)) := ((pX5_requireHandle Z u a1).bind fun x_1 => match x_1.2 with | .inl j => some (x_1.1, .inl j) | .inr r_1 => (if a2 = (0 : Int32) then some ((x_1.1), .inr (Uf (x_1.1) 0 r_1)) else (if a2 = (1 : Int32) then some ((x_1.1), .inr (Uf (x_1.1) 1 r_1)) else (if a2 = (2 : Int32) then some ((x_1.1), .inr (Uf (x_1.1) 2 r_1)) else (if a2 = (3 : Int32) then some ((x_1.1), .inr (Uf (x_1.1) 3 r_1)) else (if a2 = (4 : Int32) then some ((x_1.1), .inr (Uf (x_1.1) 4 r_1)) else (if a2 = (5 : Int32) then some ((x_1.1), .inr (Uf (x_1.1) 5 r_1)) else (if a2 = (6 : Int32) then some ((x_1.1), .inr (Uf (x_1.1) 6 r_1)) else some ((x_1.1), .inl 1)))))))))
set_option maxHeartbeats 4000000 in
set_option maxRecDepth 100000 in
theorem ct_X5_about (l : Launch) (hl0 : l.stackTraces = false) (D : va_G) (c4 : Nat → ClassId) (A : Nat → Prop) (Z : CZ) (hZ : cok Z) (u : CS) (a1 : Int32) (a2 : Int32) (res : CS × (Nat ⊕ Int32)) (h : pX5_about Z u a1 a2 = some res) : vx_Met l yX5_about (wz yX5_about cX5_about 4 (some .int)) ({ frames := 7, cells := 1, slots := 6, locals := 111 } : Room) (va_Pc [.ref (Zz Z 0), .int a1, .int a2] (fun U => cPre D c4 A Z u U)) (va_Qi (fun q w => res = (w, .inr q)) (fun w t => wPre D c4 A (cW c4 Z w) t) A) (vx_X (fun kw : Nat × CS => res = (kw.2, .inl kw.1)) (fun E kw t => E = zEx kw.1 ∧ wPre D c4 A (cW c4 Z kw.2) t) A) 1 6 A := by
  refine vx_ofW (cc := cX5_about) (maxL := 4) (ret := (some .int)) (by decide) rfl ?_
  intro p e s m args below meth c s₁ B hml htb hv
  obtain ⟨rfl, ⟨hP, hD, hK, hA⟩, hE⟩ := hv
  have hx := B.exec
  have hb := B.bytes
  have hr := B.returns
  have hts := atoms_spec (ws := (wz yX5_about cX5_about 4 (some .int))) B.pre
  have hown : s.vm.findClass RX5 = some m.cls := findClass_of_methodNamed B.named
  have hlocks := B.notSynchronized
  have hS : va_S A s.heap s.heap [] := va_S.rf
  have hl := lv_entry ([.ref (Zz Z 0), .int a1, .int a2]) (n := 4) (Nat.le_of_ble_eq_true rfl)
  rw [lg_entry_eq]
  generalize (lg_sl ([.ref (Zz Z 0), .int a1, .int a2]) ++ List.replicate (4 - (lg_sl ([.ref (Zz Z 0), .int a1, .int a2])).length) Slot.unset).toArray = ls at hl ⊢
  have hl : lv_has ls 4 [(0, .ref (Zz Z 0)), (1, .int a1), (2, .int a2)] := hl
  unfold pX5_about at h
  refine lv_aload_n hx hb dX5_about_0 rfl (lv_at hl 0 rfl) ?_
  refine lv_iload_n hx hb dX5_about_1 rfl (lv_at hl 1 rfl) ?_
  obtain ⟨x_1, hc_1, h⟩ := zb_bind h
  try dsimp only at h
  refine vx_callr (vx_runV (As := [.int a1]) (rest := []) ⟨hx, hb, hml, hown, hts⟩ (ct_X5_requireHandle l hl0 D c4 A Z hZ u a1 _ hc_1) (cwV 1 hts (wz_V zw_476 zw_478 zs_7 zw_1 zw_479) rfl rfl rfl (by decide +kernel) ⟨Nat.le_of_ble_eq_true rfl, Nat.le_of_ble_eq_true rfl⟩) ⟨fbC, va_recv hK hP (ci := 4) (q0 := 0) rfl rfl, fun U9 hU hW => ⟨rfl, goC hP hD hK hA hE hS hU hW⟩⟩ rfl rfl hl.1 rfl (lv_room (Nat.le_of_ble_eq_true rfl)) dX5_about_2 ⟨Nat.le_of_ble_eq_true rfl, Nat.le_of_ble_eq_true rfl⟩) hS (fun q _ h => h) (fun q h => h) (fun q _ h => h) (fun E9 ce9 q9 kw_1 t H1 locs ht hvm e_1 hB hz1 hk1 hS hc9 hv9 hcl9 => ?_) (fun w_1 y_1 t H1 locs ht hvm e_1 hB hz1 hk1 hS => ?_)
  · subst e_1
    try dsimp only at h
    obtain ⟨rfl, hP, hD, -, -⟩ := hB
    rw [ht] at hP
    exact vx_out (fun x9 hx9 => (htb x9 hx9).elim) hlocks hc9 hv9 hcl9 (fun t ht hal => ⟨kw_1, (Option.some.inj h).symm, ⟨rfl, wPre_go hP hD hK hA hS ht hal⟩, hS.F ht⟩) hS.2.2 (Nat.le_of_ble_eq_true rfl) (Nat.le_of_ble_eq_true rfl)
  obtain ⟨u_1, r_1⟩ := w_1
  subst e_1
  try dsimp only at h
  obtain ⟨rfl, hP, hD, -, -⟩ := hB
  rw [ht] at hP
  generalize H1 = H at hP hS ⊢
  refine lv_astore_n (lv' := [(3, .ref r_1), (0, .ref (Zz Z 0)), (1, .int a1), (2, .int a2)]) hx hb dX5_about_5 rfl hl (by decide) rfl (fun ls hl => ?_)
  refine lv_iload_n hx hb dX5_about_6 rfl (lv_at hl 3 rfl) ?_
  by_cases c_2 : a2 = (0 : Int32)
  · rw [if_pos c_2] at h
    refine lv_tableIn (tgt := 48) hx hb dX5_about_7 (by rw [c_2]; decide) (by rw [c_2]; decide) (by rw [c_2]; rfl) (by decide) ?_
    refine lv_aload_n hx hb dX5_about_48 rfl (lv_at hl 0 rfl) ?_
    obtain ⟨n_3, hn_3⟩ := cW_F (c4 := c4) (u := u_1) (zhnd hZ hc_1)
    refine va_get (D := D) (ci := 1) (v := .int (Uf u_1 0 r_1)) (C := RX2) (T := TX2) (N := 7) hx hb hts (fun w h => wm (zin_X2 w h)) hown hK hP n_3 hn_3 rfl 0 (by decide) (hts _ (wm zw_73)) (fun _ h9 => h9) rfl dX5_about_49 ?_
    refine vx_ret ?_
    exact W.iret (v := (Uf u_1 0 r_1)) hx hb hr (fun t ht hW => ⟨⟨(Uf u_1 0 r_1), u_1, rfl, (Option.some.inj h).symm, wPre_go hP hD hK hA hS ht hW.alike⟩, hS.F ht⟩) hS.2.2 dX5_about_52
  rw [if_neg c_2] at h
  by_cases c_4 : a2 = (1 : Int32)
  · rw [if_pos c_4] at h
    refine lv_tableIn (tgt := 53) hx hb dX5_about_7 (by rw [c_4]; decide) (by rw [c_4]; decide) (by rw [c_4]; rfl) (by decide) ?_
    refine lv_aload_n hx hb dX5_about_53 rfl (lv_at hl 0 rfl) ?_
    obtain ⟨n_5, hn_5⟩ := cW_F (c4 := c4) (u := u_1) (zhnd hZ hc_1)
    refine va_get (D := D) (ci := 1) (v := .int (Uf u_1 1 r_1)) (C := RX2) (T := TX2) (N := 7) hx hb hts (fun w h => wm (zin_X2 w h)) hown hK hP n_5 hn_5 rfl 1 (by decide) (hts _ (wm zw_76)) (fun _ h9 => h9) rfl dX5_about_54 ?_
    refine vx_ret ?_
    exact W.iret (v := (Uf u_1 1 r_1)) hx hb hr (fun t ht hW => ⟨⟨(Uf u_1 1 r_1), u_1, rfl, (Option.some.inj h).symm, wPre_go hP hD hK hA hS ht hW.alike⟩, hS.F ht⟩) hS.2.2 dX5_about_57
  rw [if_neg c_4] at h
  by_cases c_6 : a2 = (2 : Int32)
  · rw [if_pos c_6] at h
    refine lv_tableIn (tgt := 58) hx hb dX5_about_7 (by rw [c_6]; decide) (by rw [c_6]; decide) (by rw [c_6]; rfl) (by decide) ?_
    refine lv_aload_n hx hb dX5_about_58 rfl (lv_at hl 0 rfl) ?_
    obtain ⟨n_7, hn_7⟩ := cW_F (c4 := c4) (u := u_1) (zhnd hZ hc_1)
    refine va_get (D := D) (ci := 1) (v := .int (Uf u_1 2 r_1)) (C := RX2) (T := TX2) (N := 7) hx hb hts (fun w h => wm (zin_X2 w h)) hown hK hP n_7 hn_7 rfl 2 (by decide) (hts _ (wm zw_80)) (fun _ h9 => h9) rfl dX5_about_59 ?_
    refine vx_ret ?_
    exact W.iret (v := (Uf u_1 2 r_1)) hx hb hr (fun t ht hW => ⟨⟨(Uf u_1 2 r_1), u_1, rfl, (Option.some.inj h).symm, wPre_go hP hD hK hA hS ht hW.alike⟩, hS.F ht⟩) hS.2.2 dX5_about_62
  rw [if_neg c_6] at h
  by_cases c_8 : a2 = (3 : Int32)
  · rw [if_pos c_8] at h
    refine lv_tableIn (tgt := 63) hx hb dX5_about_7 (by rw [c_8]; decide) (by rw [c_8]; decide) (by rw [c_8]; rfl) (by decide) ?_
    refine lv_aload_n hx hb dX5_about_63 rfl (lv_at hl 0 rfl) ?_
    obtain ⟨n_9, hn_9⟩ := cW_F (c4 := c4) (u := u_1) (zhnd hZ hc_1)
    refine va_get (D := D) (ci := 1) (v := .int (Uf u_1 3 r_1)) (C := RX2) (T := TX2) (N := 7) hx hb hts (fun w h => wm (zin_X2 w h)) hown hK hP n_9 hn_9 rfl 3 (by decide) (hts _ (wm zw_84)) (fun _ h9 => h9) rfl dX5_about_64 ?_
    refine vx_ret ?_
    exact W.iret (v := (Uf u_1 3 r_1)) hx hb hr (fun t ht hW => ⟨⟨(Uf u_1 3 r_1), u_1, rfl, (Option.some.inj h).symm, wPre_go hP hD hK hA hS ht hW.alike⟩, hS.F ht⟩) hS.2.2 dX5_about_67
  rw [if_neg c_8] at h
  by_cases c_10 : a2 = (4 : Int32)
  · rw [if_pos c_10] at h
    refine lv_tableIn (tgt := 68) hx hb dX5_about_7 (by rw [c_10]; decide) (by rw [c_10]; decide) (by rw [c_10]; rfl) (by decide) ?_
    refine lv_aload_n hx hb dX5_about_68 rfl (lv_at hl 0 rfl) ?_
    obtain ⟨n_11, hn_11⟩ := cW_F (c4 := c4) (u := u_1) (zhnd hZ hc_1)
    refine va_get (D := D) (ci := 1) (v := .int (Uf u_1 4 r_1)) (C := RX2) (T := TX2) (N := 7) hx hb hts (fun w h => wm (zin_X2 w h)) hown hK hP n_11 hn_11 rfl 4 (by decide) (hts _ (wm zw_89)) (fun _ h9 => h9) rfl dX5_about_69 ?_
    refine vx_ret ?_
    exact W.iret (v := (Uf u_1 4 r_1)) hx hb hr (fun t ht hW => ⟨⟨(Uf u_1 4 r_1), u_1, rfl, (Option.some.inj h).symm, wPre_go hP hD hK hA hS ht hW.alike⟩, hS.F ht⟩) hS.2.2 dX5_about_72
  rw [if_neg c_10] at h
  by_cases c_12 : a2 = (5 : Int32)
  · rw [if_pos c_12] at h
    refine lv_tableIn (tgt := 73) hx hb dX5_about_7 (by rw [c_12]; decide) (by rw [c_12]; decide) (by rw [c_12]; rfl) (by decide) ?_
    refine lv_aload_n hx hb dX5_about_73 rfl (lv_at hl 0 rfl) ?_
    obtain ⟨n_13, hn_13⟩ := cW_F (c4 := c4) (u := u_1) (zhnd hZ hc_1)
    refine va_get (D := D) (ci := 1) (v := .int (Uf u_1 5 r_1)) (C := RX2) (T := TX2) (N := 7) hx hb hts (fun w h => wm (zin_X2 w h)) hown hK hP n_13 hn_13 rfl 5 (by decide) (hts _ (wm zw_93)) (fun _ h9 => h9) rfl dX5_about_74 ?_
    refine vx_ret ?_
    exact W.iret (v := (Uf u_1 5 r_1)) hx hb hr (fun t ht hW => ⟨⟨(Uf u_1 5 r_1), u_1, rfl, (Option.some.inj h).symm, wPre_go hP hD hK hA hS ht hW.alike⟩, hS.F ht⟩) hS.2.2 dX5_about_77
  rw [if_neg c_12] at h
  by_cases c_14 : a2 = (6 : Int32)
  · rw [if_pos c_14] at h
    refine lv_tableIn (tgt := 78) hx hb dX5_about_7 (by rw [c_14]; decide) (by rw [c_14]; decide) (by rw [c_14]; rfl) (by decide) ?_
    refine lv_aload_n hx hb dX5_about_78 rfl (lv_at hl 0 rfl) ?_
    obtain ⟨n_15, hn_15⟩ := cW_F (c4 := c4) (u := u_1) (zhnd hZ hc_1)
    refine va_get (D := D) (ci := 1) (v := .int (Uf u_1 6 r_1)) (C := RX2) (T := TX2) (N := 7) hx hb hts (fun w h => wm (zin_X2 w h)) hown hK hP n_15 hn_15 rfl 6 (by decide) (hts _ (wm zw_97)) (fun _ h9 => h9) rfl dX5_about_79 ?_
    refine vx_ret ?_
    exact W.iret (v := (Uf u_1 6 r_1)) hx hb hr (fun t ht hW => ⟨⟨(Uf u_1 6 r_1), u_1, rfl, (Option.some.inj h).symm, wPre_go hP hD hK hA hS ht hW.alike⟩, hS.F ht⟩) hS.2.2 dX5_about_82
  rw [if_neg c_14] at h
  refine lv_tableOut (tgt := 83) hx hb dX5_about_7 (zt_out (lo := 0) (hi := 6) (fun j h1 h2 => by rcases (show j = 0 ∨ j = 1 ∨ j = 2 ∨ j = 3 ∨ j = 4 ∨ j = 5 ∨ j = 6 by omega) with rfl | rfl | rfl | rfl | rfl | rfl | rfl <;> first | exact lv_neT c_2 (by decide) | exact lv_neT c_4 (by decide) | exact lv_neT c_6 (by decide) | exact lv_neT c_8 (by decide) | exact lv_neT c_10 (by decide) | exact lv_neT c_12 (by decide) | exact lv_neT c_14 (by decide))) (by decide) ?_
  obtain ⟨sa, hsa⟩ := hE.2.2.2.2.1 ("PointedWords", 149, "no such part") (by decide)
  exact vx_throwS (A := A) (own := RX5) (cls := "java/lang/IndexOutOfBoundsException") (names := ["java/lang/RuntimeException", "java/lang/Exception"]) hx hb hl0 hown (by decide +kernel) (by decide +kernel) (hts _ (wm zw_502)) (hts _ (wm zw_10)) hsa (zat_X5_151 (fun w h => hts w (wm h)) hE.2.2.2.2.2) zgd_X5_151 hE.1 hE.2.1 hS (hl.1.trans hml.symm) dX5_about_83 dX5_about_86 dX5_about_87 dX5_about_89 dX5_about_92 (fun x9 hx9 => (htb x9 hx9).elim) (Nat.le_of_ble_eq_true rfl) (Nat.le_of_ble_eq_true rfl) (Nat.le_of_ble_eq_true rfl) (Nat.le_of_ble_eq_true rfl) hlocks (fun t hal hz hk => ⟨(1, u_1), (Option.some.inj h).symm, ⟨rfl, wPre_up hP hD hK hA hS hz hk hal⟩, va_S_up hS hz hk⟩) hS.2.2 (Nat.le_of_ble_eq_true rfl) (Nat.le_of_ble_eq_true rfl)
def pX5_data (Z : CZ) (u : CS) (a1 : Int32) (a2 : Int32) : Option (CS × (Nat ⊕ Int64)) := ((pX5_requireHandle Z u a1).bind fun x_1 => match x_1.2 with | .inl j => some (x_1.1, .inl j) | .inr r_1 => (if (Uf (x_1.1) 0 r_1) = (7 : Int32) then some ((x_1.1), .inl 5) else (if (Uf (x_1.1) 0 r_1) = (8 : Int32) then some ((x_1.1), .inl 5) else ((pX5_requireElement Z (x_1.1) r_1 a2).bind fun x_6 => match x_6.2 with | .inl j => some (x_6.1, .inl j) | .inr r_6 => (if (Uf (x_6.1) 0 r_1) = 0 then (if (Uf (x_6.1) 1 r_1) ≤ a2 then some ((x_6.1), .inr (0 : Int64)) else ((pX3_at Z (x_6.1) (Uf (x_6.1) 4 r_1) ((Uf (x_6.1) 5 r_1) + a2)).bind fun r_13 => some ((x_6.1), .inr r_13))) else ((pX3_flatElement Z (x_6.1) r_1 a2).bind fun r_14 => some ((x_6.1), .inr r_14)))))))
set_option maxHeartbeats 4000000 in
set_option maxRecDepth 100000 in
theorem ct_X5_data (l : Launch) (hl0 : l.stackTraces = false) (D : va_G) (c4 : Nat → ClassId) (A : Nat → Prop) (Z : CZ) (hZ : cok Z) (u : CS) (a1 : Int32) (a2 : Int32) (res : CS × (Nat ⊕ Int64)) (h : pX5_data Z u a1 a2 = some res) : vx_Met l yX5_data (wz yX5_data cX5_data 4 (some .long)) ({ frames := 7, cells := 1, slots := 6, locals := 111 } : Room) (va_Pc [.ref (Zz Z 0), .int a1, .int a2] (fun U => cPre D c4 A Z u U)) (va_Ql (fun q w => res = (w, .inr q)) (fun w t => wPre D c4 A (cW c4 Z w) t) A) (vx_X (fun kw : Nat × CS => res = (kw.2, .inl kw.1)) (fun E kw t => E = zEx kw.1 ∧ wPre D c4 A (cW c4 Z kw.2) t) A) 1 6 A := by
  refine vx_ofW (cc := cX5_data) (maxL := 4) (ret := (some .long)) (by decide) rfl ?_
  intro p e s m args below meth c s₁ B hml htb hv
  obtain ⟨rfl, ⟨hP, hD, hK, hA⟩, hE⟩ := hv
  have hx := B.exec
  have hb := B.bytes
  have hr := B.returns
  have hts := atoms_spec (ws := (wz yX5_data cX5_data 4 (some .long))) B.pre
  have hown : s.vm.findClass RX5 = some m.cls := findClass_of_methodNamed B.named
  have hlocks := B.notSynchronized
  have hS : va_S A s.heap s.heap [] := va_S.rf
  have hl := lv_entry ([.ref (Zz Z 0), .int a1, .int a2]) (n := 4) (Nat.le_of_ble_eq_true rfl)
  rw [lg_entry_eq]
  generalize (lg_sl ([.ref (Zz Z 0), .int a1, .int a2]) ++ List.replicate (4 - (lg_sl ([.ref (Zz Z 0), .int a1, .int a2])).length) Slot.unset).toArray = ls at hl ⊢
  have hl : lv_has ls 4 [(0, .ref (Zz Z 0)), (1, .int a1), (2, .int a2)] := hl
  unfold pX5_data at h
  refine lv_aload_n hx hb dX5_data_0 rfl (lv_at hl 0 rfl) ?_
  refine lv_iload_n hx hb dX5_data_1 rfl (lv_at hl 1 rfl) ?_
  obtain ⟨x_1, hc_1, h⟩ := zb_bind h
  try dsimp only at h
  refine vx_callr (vx_runV (As := [.int a1]) (rest := []) ⟨hx, hb, hml, hown, hts⟩ (ct_X5_requireHandle l hl0 D c4 A Z hZ u a1 _ hc_1) (cwV 1 hts (wz_V zw_476 zw_478 zs_7 zw_1 zw_479) rfl rfl rfl (by decide +kernel) ⟨Nat.le_of_ble_eq_true rfl, Nat.le_of_ble_eq_true rfl⟩) ⟨fbC, va_recv hK hP (ci := 4) (q0 := 0) rfl rfl, fun U9 hU hW => ⟨rfl, goC hP hD hK hA hE hS hU hW⟩⟩ rfl rfl hl.1 rfl (lv_room (Nat.le_of_ble_eq_true rfl)) dX5_data_2 ⟨Nat.le_of_ble_eq_true rfl, Nat.le_of_ble_eq_true rfl⟩) hS (fun q _ h => h) (fun q h => h) (fun q _ h => h) (fun E9 ce9 q9 kw_1 t H1 locs ht hvm e_1 hB hz1 hk1 hS hc9 hv9 hcl9 => ?_) (fun w_1 y_1 t H1 locs ht hvm e_1 hB hz1 hk1 hS => ?_)
  · subst e_1
    try dsimp only at h
    obtain ⟨rfl, hP, hD, -, -⟩ := hB
    rw [ht] at hP
    exact vx_out (fun x9 hx9 => (htb x9 hx9).elim) hlocks hc9 hv9 hcl9 (fun t ht hal => ⟨kw_1, (Option.some.inj h).symm, ⟨rfl, wPre_go hP hD hK hA hS ht hal⟩, hS.F ht⟩) hS.2.2 (Nat.le_of_ble_eq_true rfl) (Nat.le_of_ble_eq_true rfl)
  obtain ⟨u_1, r_1⟩ := w_1
  subst e_1
  try dsimp only at h
  obtain ⟨rfl, hP, hD, -, -⟩ := hB
  rw [ht] at hP
  generalize H1 = H at hP hS ⊢
  refine lv_astore_n (lv' := [(3, .ref r_1), (0, .ref (Zz Z 0)), (1, .int a1), (2, .int a2)]) hx hb dX5_data_5 rfl hl (by decide) rfl (fun ls hl => ?_)
  refine lv_aload_n hx hb dX5_data_6 rfl (lv_at hl 0 rfl) ?_
  obtain ⟨n_2, hn_2⟩ := cW_F (c4 := c4) (u := u_1) (zhnd hZ hc_1)
  refine va_get (D := D) (ci := 1) (v := .int (Uf u_1 0 r_1)) (C := RX2) (T := TX2) (N := 7) hx hb hts (fun w h => wm (zin_X2 w h)) hown hK hP n_2 hn_2 rfl 0 (by decide) (hts _ (wm zw_73)) (fun _ h9 => h9) rfl dX5_data_7 ?_
  refine lv_bipush (v := (7 : Int32)) hx hb dX5_data_10 (by decide) ?_
  refine lv_icmp_eq (tgt := 24) hx hb dX5_data_12 (by decide) (fun c_3 => ?_) (fun c_3 => ?_)
  · skip
    rw [if_pos c_3] at h
    obtain ⟨sa, hsa⟩ := hE.2.2.2.2.1 ("PointedWords", 152, "a list without data of its own") (by decide)
    exact vx_throwS (A := A) (own := RX5) (cls := "java/lang/UnsupportedOperationException") (names := ["java/lang/RuntimeException", "java/lang/Exception"]) hx hb hl0 hown (by decide +kernel) (by decide +kernel) (hts _ (wm zw_483)) (hts _ (wm zw_16)) hsa (zat_X5_109 (fun w h => hts w (wm h)) hE.2.2.2.2.2) zgd_X5_109 hE.1 hE.2.1 hS (hl.1.trans hml.symm) dX5_data_24 dX5_data_27 dX5_data_28 dX5_data_30 dX5_data_33 (fun x9 hx9 => (htb x9 hx9).elim) (Nat.le_of_ble_eq_true rfl) (Nat.le_of_ble_eq_true rfl) (Nat.le_of_ble_eq_true rfl) (Nat.le_of_ble_eq_true rfl) hlocks (fun t hal hz hk => ⟨(5, u_1), (Option.some.inj h).symm, ⟨rfl, wPre_up hP hD hK hA hS hz hk hal⟩, va_S_up hS hz hk⟩) hS.2.2 (Nat.le_of_ble_eq_true rfl) (Nat.le_of_ble_eq_true rfl)
  · skip
    rw [if_neg c_3] at h
    refine lv_aload_n hx hb dX5_data_15 rfl (lv_at hl 0 rfl) ?_
    obtain ⟨n_4, hn_4⟩ := cW_F (c4 := c4) (u := u_1) (zhnd hZ hc_1)
    refine va_get (D := D) (ci := 1) (v := .int (Uf u_1 0 r_1)) (C := RX2) (T := TX2) (N := 7) hx hb hts (fun w h => wm (zin_X2 w h)) hown hK hP n_4 hn_4 rfl 0 (by decide) (hts _ (wm zw_73)) (fun _ h9 => h9) rfl dX5_data_16 ?_
    refine lv_bipush (v := (8 : Int32)) hx hb dX5_data_19 (by decide) ?_
    refine lv_icmp_ne (tgt := 34) hx hb dX5_data_21 (by decide) (fun c_5 => ?_) (fun c_5 => ?_)
    · skip
      rw [if_neg c_5] at h
      refine lv_aload_n hx hb dX5_data_34 rfl (lv_at hl 0 rfl) ?_
      refine lv_iload_n hx hb dX5_data_35 rfl (lv_at hl 3 rfl) ?_
      obtain ⟨x_6, hc_6, h⟩ := zb_bind h
      try dsimp only at h
      refine vx_callv (vx_runS (As := [.ref r_1, .int a2]) (rest := []) ⟨hx, hb, hml, hown, hts⟩ (ct_X5_requireElement l hl0 D c4 A Z hZ u_1 r_1 (zhnd hZ hc_1) a2 _ hc_6) (va_cwS 2 hts (wz_S zw_499 zw_500 zw_1 zw_501) rfl rfl rfl (by decide +kernel) ⟨Nat.le_of_ble_eq_true rfl, Nat.le_of_ble_eq_true rfl⟩) ⟨fbC, fun U9 hU hW => ⟨rfl, goC hP hD hK hA hE hS hU hW⟩⟩ rfl rfl hl.1 rfl (lv_room (Nat.le_of_ble_eq_true rfl)) dX5_data_36 ⟨Nat.le_of_ble_eq_true rfl, Nat.le_of_ble_eq_true rfl⟩) hS (fun q _ h => h) (fun q h => h) (fun q _ h => h) (fun E9 ce9 q9 kw_6 t H1 locs ht hvm e_6 hB hz1 hk1 hS hc9 hv9 hcl9 => ?_) (fun u_6 t H1 locs ht hvm e_6 hB hz1 hk1 hS => ?_)
      · subst e_6
        try dsimp only at h
        obtain ⟨rfl, hP, hD, -, -⟩ := hB
        rw [ht] at hP
        exact vx_out (fun x9 hx9 => (htb x9 hx9).elim) hlocks hc9 hv9 hcl9 (fun t ht hal => ⟨kw_6, (Option.some.inj h).symm, ⟨rfl, wPre_go hP hD hK hA hS ht hal⟩, hS.F ht⟩) hS.2.2 (Nat.le_of_ble_eq_true rfl) (Nat.le_of_ble_eq_true rfl)
      subst e_6
      try dsimp only at h
      obtain ⟨hP, hD, -, -⟩ := hB
      rw [ht] at hP
      generalize H1 = H at hP hS ⊢
      refine lv_aload_n hx hb dX5_data_39 rfl (lv_at hl 0 rfl) ?_
      obtain ⟨n_7, hn_7⟩ := cW_F (c4 := c4) (u := u_6) (zhnd hZ hc_1)
      refine va_get (D := D) (ci := 1) (v := .int (Uf u_6 0 r_1)) (C := RX2) (T := TX2) (N := 7) hx hb hts (fun w h => wm (zin_X2 w h)) hown hK hP n_7 hn_7 rfl 0 (by decide) (hts _ (wm zw_73)) (fun _ h9 => h9) rfl dX5_data_40 ?_
      refine lv_if_eq (tgt := 56) hx hb dX5_data_43 (by decide) (fun c_8 => ?_) (fun c_8 => ?_)
      · skip
        rw [if_pos c_8] at h
        refine lv_iload_n hx hb dX5_data_56 rfl (lv_at hl 3 rfl) ?_
        refine lv_aload_n hx hb dX5_data_57 rfl (lv_at hl 0 rfl) ?_
        obtain ⟨n_9, hn_9⟩ := cW_F (c4 := c4) (u := u_6) (zhnd hZ hc_1)
        refine va_get (D := D) (ci := 1) (v := .int (Uf u_6 1 r_1)) (C := RX2) (T := TX2) (N := 7) hx hb hts (fun w h => wm (zin_X2 w h)) hown hK hP n_9 hn_9 rfl 1 (by decide) (hts _ (wm zw_76)) (fun _ h9 => h9) rfl dX5_data_58 ?_
        refine lv_icmp_ge (tgt := 84) hx hb dX5_data_61 (by decide) (fun c_10 => ?_) (fun c_10 => ?_)
        · skip
          rw [if_pos c_10] at h
          refine lv_lconst (v := (0 : Int64)) hx hb dX5_data_84 (by decide) ?_
          refine vx_ret ?_
          exact W.lret (v := (0 : Int64)) hx hb hr (fun t ht hW => ⟨⟨(0 : Int64), u_6, rfl, (Option.some.inj h).symm, wPre_go hP hD hK hA hS ht hW.alike⟩, hS.F ht⟩) hS.2.2 dX5_data_85
        · skip
          rw [if_neg c_10] at h
          refine lv_aload_n hx hb dX5_data_64 rfl (lv_at hl 1 rfl) ?_
          refine va_get (D := D) (ci := 4) (v := .ref (Zz Z 1)) (C := RX5) (T := TX5) (N := 9) hx hb hts (fun w h => wm (zin_X5 w h)) hown hK hP 0 rfl rfl 0 (by decide) (hts _ (wm zw_128)) (fun _ h9 => h9) rfl dX5_data_65 ?_
          refine lv_aload_n hx hb dX5_data_68 rfl (lv_at hl 0 rfl) ?_
          obtain ⟨n_11, hn_11⟩ := cW_F (c4 := c4) (u := u_6) (zhnd hZ hc_1)
          refine va_get (D := D) (ci := 1) (v := .int (Uf u_6 4 r_1)) (C := RX2) (T := TX2) (N := 7) hx hb hts (fun w h => wm (zin_X2 w h)) hown hK hP n_11 hn_11 rfl 4 (by decide) (hts _ (wm zw_89)) (fun _ h9 => h9) rfl dX5_data_69 ?_
          refine lv_aload_n hx hb dX5_data_72 rfl (lv_at hl 0 rfl) ?_
          obtain ⟨n_12, hn_12⟩ := cW_F (c4 := c4) (u := u_6) (zhnd hZ hc_1)
          refine va_get (D := D) (ci := 1) (v := .int (Uf u_6 5 r_1)) (C := RX2) (T := TX2) (N := 7) hx hb hts (fun w h => wm (zin_X2 w h)) hown hK hP n_12 hn_12 rfl 5 (by decide) (hts _ (wm zw_93)) (fun _ h9 => h9) rfl dX5_data_73 ?_
          refine lv_iload_n hx hb dX5_data_76 rfl (lv_at hl 3 rfl) ?_
          refine lv_iadd hx hb dX5_data_77 ?_
          obtain ⟨q_13, hc_13, h⟩ := zb_bind h
          try dsimp only at h
          refine vp_callSl (W.runV (As := [.int (Uf u_6 4 r_1), .int ((Uf u_6 5 r_1) + a2)]) (rest := []) ⟨hx, hb, hml, hown, hts⟩ (ct_X3_at l D c4 A Z hZ u_6 (Uf u_6 4 r_1) ((Uf u_6 5 r_1) + a2) _ hc_13) (cwV 2 hts (wz_V zw_200 zw_201 zw_202 zw_2 zw_203) rfl rfl rfl (by decide +kernel) ⟨Nat.le_of_ble_eq_true rfl, Nat.le_of_ble_eq_true rfl⟩) ⟨fbC, va_recv hK hP (ci := 2) (q0 := 1) rfl rfl, fun U9 hU hW => ⟨rfl, goC hP hD hK hA hE hS hU hW⟩⟩ rfl rfl hl.1 rfl (lv_room (Nat.le_of_ble_eq_true rfl)) dX5_data_78 ⟨Nat.le_of_ble_eq_true rfl, Nat.le_of_ble_eq_true rfl⟩) (fun r_13 e_13 => ?_)
          subst e_13
          refine lv_goto (tgt := 85) hx hb dX5_data_81 (by decide) ?_
          refine vx_ret ?_
          exact W.lret (v := r_13) hx hb hr (fun t ht hW => ⟨⟨r_13, u_6, rfl, (Option.some.inj h).symm, wPre_go hP hD hK hA hS ht hW.alike⟩, hS.F ht⟩) hS.2.2 dX5_data_85
      · skip
        rw [if_neg c_8] at h
        refine lv_aload_n hx hb dX5_data_46 rfl (lv_at hl 1 rfl) ?_
        refine va_get (D := D) (ci := 4) (v := .ref (Zz Z 1)) (C := RX5) (T := TX5) (N := 9) hx hb hts (fun w h => wm (zin_X5 w h)) hown hK hP 0 rfl rfl 0 (by decide) (hts _ (wm zw_128)) (fun _ h9 => h9) rfl dX5_data_47 ?_
        refine lv_aload_n hx hb dX5_data_50 rfl (lv_at hl 0 rfl) ?_
        refine lv_iload_n hx hb dX5_data_51 rfl (lv_at hl 3 rfl) ?_
        obtain ⟨q_14, hc_14, h⟩ := zb_bind h
        try dsimp only at h
        refine vp_callSl (W.runV (As := [.ref r_1, .int a2]) (rest := []) ⟨hx, hb, hml, hown, hts⟩ (ct_X3_flatElement l D c4 A Z hZ u_6 r_1 (zhnd hZ hc_1) a2 _ hc_14) (cwV 2 hts (wz_V zw_556 zw_557 zw_558 zw_2 zw_559) rfl rfl rfl (by decide +kernel) ⟨Nat.le_of_ble_eq_true rfl, Nat.le_of_ble_eq_true rfl⟩) ⟨fbC, va_recv hK hP (ci := 2) (q0 := 1) rfl rfl, fun U9 hU hW => ⟨rfl, goC hP hD hK hA hE hS hU hW⟩⟩ rfl rfl hl.1 rfl (lv_room (Nat.le_of_ble_eq_true rfl)) dX5_data_52 ⟨Nat.le_of_ble_eq_true rfl, Nat.le_of_ble_eq_true rfl⟩) (fun r_14 e_14 => ?_)
        subst e_14
        refine vx_ret ?_
        exact W.lret (v := r_14) hx hb hr (fun t ht hW => ⟨⟨r_14, u_6, rfl, (Option.some.inj h).symm, wPre_go hP hD hK hA hS ht hW.alike⟩, hS.F ht⟩) hS.2.2 dX5_data_55
    · skip
      rw [if_pos c_5] at h
      obtain ⟨sa, hsa⟩ := hE.2.2.2.2.1 ("PointedWords", 152, "a list without data of its own") (by decide)
      exact vx_throwS (A := A) (own := RX5) (cls := "java/lang/UnsupportedOperationException") (names := ["java/lang/RuntimeException", "java/lang/Exception"]) hx hb hl0 hown (by decide +kernel) (by decide +kernel) (hts _ (wm zw_483)) (hts _ (wm zw_16)) hsa (zat_X5_109 (fun w h => hts w (wm h)) hE.2.2.2.2.2) zgd_X5_109 hE.1 hE.2.1 hS (hl.1.trans hml.symm) dX5_data_24 dX5_data_27 dX5_data_28 dX5_data_30 dX5_data_33 (fun x9 hx9 => (htb x9 hx9).elim) (Nat.le_of_ble_eq_true rfl) (Nat.le_of_ble_eq_true rfl) (Nat.le_of_ble_eq_true rfl) (Nat.le_of_ble_eq_true rfl) hlocks (fun t hal hz hk => ⟨(5, u_1), (Option.some.inj h).symm, ⟨rfl, wPre_up hP hD hK hA hS hz hk hal⟩, va_S_up hS hz hk⟩) hS.2.2 (Nat.le_of_ble_eq_true rfl) (Nat.le_of_ble_eq_true rfl)
def pX5_go (Z : CZ) (u : CS) (a1 : Int32) (a2 : Int32) : Option (CS × (Nat ⊕ Int32)) := ((pX5_requireHandle Z u a1).bind fun x_1 => match x_1.2 with | .inl j => some (x_1.1, .inl j) | .inr r_1 => (if (Uf (x_1.1) 0 r_1) = 0 then ((pX5_requireElement Z (x_1.1) r_1 a2).bind fun x_4 => match x_4.2 with | .inl j => some (x_4.1, .inl j) | .inr r_4 => (if a2 < (pX2_pointerCount Z (x_4.1) r_1) then ((some ((pX2_firstPointer Z (x_4.1) r_1) + a2)).bind fun y_10 => ((pX3_at Z (x_4.1) (Uf (x_4.1) 4 r_1) y_10).bind fun r_12 => (if r_12 = (0 : Int64) then some ((x_4.1), .inr (-1 : Int32)) else ((pX5_requireFreeHandle Z (x_4.1)).bind fun x_14 => match x_14.2 with | .inl j => some (x_14.1, .inl j) | .inr r_14 => (if inb (Ui (x_14.1) 1) 16 = true then ((pX3_find Z (x_14.1) r_1 y_10 (Ui (x_14.1) 2) (Zh Z (Ui (x_14.1) 1).toNatClampNeg)).bind fun x_16 => match x_16.2 with | .inl j => some (x_16.1, .inl j) | .inr r_16 => ((some ((Ui (x_16.1) 2) - r_16)).bind fun y_17 => ((some ((Ui (x_16.1) 1) + (1 : Int32))).bind fun y_18 => some ((sI (sI (x_16.1) 2 y_17) 1 y_18), .inr (y_18 - (1 : Int32)))))) else none))))) else some ((x_4.1), .inr (-1 : Int32)))) else (if (Uf (x_1.1) 0 r_1) = (7 : Int32) then ((pX5_requireElement Z (x_1.1) r_1 a2).bind fun x_21 => match x_21.2 with | .inl j => some (x_21.1, .inl j) | .inr r_21 => (if a2 < (pX2_pointerCount Z (x_21.1) r_1) then ((some ((pX2_firstPointer Z (x_21.1) r_1) + a2)).bind fun y_27 => ((pX3_at Z (x_21.1) (Uf (x_21.1) 4 r_1) y_27).bind fun r_29 => (if r_29 = (0 : Int64) then some ((x_21.1), .inr (-1 : Int32)) else ((pX5_requireFreeHandle Z (x_21.1)).bind fun x_31 => match x_31.2 with | .inl j => some (x_31.1, .inl j) | .inr r_31 => (if inb (Ui (x_31.1) 1) 16 = true then ((pX3_find Z (x_31.1) r_1 y_27 (Ui (x_31.1) 2) (Zh Z (Ui (x_31.1) 1).toNatClampNeg)).bind fun x_33 => match x_33.2 with | .inl j => some (x_33.1, .inl j) | .inr r_33 => ((some ((Ui (x_33.1) 2) - r_33)).bind fun y_34 => ((some ((Ui (x_33.1) 1) + (1 : Int32))).bind fun y_35 => some ((sI (sI (x_33.1) 2 y_34) 1 y_35), .inr (y_35 - (1 : Int32)))))) else none))))) else some ((x_21.1), .inr (-1 : Int32)))) else some ((x_1.1), .inl 5))))
set_option maxHeartbeats 4000000 in
set_option maxRecDepth 100000 in
theorem ct_X5_go (l : Launch) (hl0 : l.stackTraces = false) (D : va_G) (c4 : Nat → ClassId) (A : Nat → Prop) (Z : CZ) (hZ : cok Z) (u : CS) (a1 : Int32) (a2 : Int32) (res : CS × (Nat ⊕ Int32)) (h : pX5_go Z u a1 a2 = some res) : vx_Met l yX5_go (wz yX5_go cX5_go 6 (some .int)) ({ frames := 9, cells := 1, slots := 6, locals := 171 } : Room) (va_Pc [.ref (Zz Z 0), .int a1, .int a2] (fun U => cPre D c4 A Z u U)) (va_Qi (fun q w => res = (w, .inr q)) (fun w t => wPre D c4 A (cW c4 Z w) t) A) (vx_X (fun kw : Nat × CS => res = (kw.2, .inl kw.1)) (fun E kw t => E = zEx kw.1 ∧ wPre D c4 A (cW c4 Z kw.2) t) A) 1 6 A := by
  refine vx_ofW (cc := cX5_go) (maxL := 6) (ret := (some .int)) (by decide) rfl ?_
  intro p e s m args below meth c s₁ B hml htb hv
  obtain ⟨rfl, ⟨hP, hD, hK, hA⟩, hE⟩ := hv
  have hx := B.exec
  have hb := B.bytes
  have hr := B.returns
  have hts := atoms_spec (ws := (wz yX5_go cX5_go 6 (some .int))) B.pre
  have hown : s.vm.findClass RX5 = some m.cls := findClass_of_methodNamed B.named
  have hlocks := B.notSynchronized
  have hS : va_S A s.heap s.heap [] := va_S.rf
  have hl := lv_entry ([.ref (Zz Z 0), .int a1, .int a2]) (n := 6) (Nat.le_of_ble_eq_true rfl)
  rw [lg_entry_eq]
  generalize (lg_sl ([.ref (Zz Z 0), .int a1, .int a2]) ++ List.replicate (6 - (lg_sl ([.ref (Zz Z 0), .int a1, .int a2])).length) Slot.unset).toArray = ls at hl ⊢
  have hl : lv_has ls 6 [(0, .ref (Zz Z 0)), (1, .int a1), (2, .int a2)] := hl
  unfold pX5_go at h
  refine lv_aload_n hx hb dX5_go_0 rfl (lv_at hl 0 rfl) ?_
  refine lv_iload_n hx hb dX5_go_1 rfl (lv_at hl 1 rfl) ?_
  obtain ⟨x_1, hc_1, h⟩ := zb_bind h
  try dsimp only at h
  refine vx_callr (vx_runV (As := [.int a1]) (rest := []) ⟨hx, hb, hml, hown, hts⟩ (ct_X5_requireHandle l hl0 D c4 A Z hZ u a1 _ hc_1) (cwV 1 hts (wz_V zw_476 zw_478 zs_7 zw_1 zw_479) rfl rfl rfl (by decide +kernel) ⟨Nat.le_of_ble_eq_true rfl, Nat.le_of_ble_eq_true rfl⟩) ⟨fbC, va_recv hK hP (ci := 4) (q0 := 0) rfl rfl, fun U9 hU hW => ⟨rfl, goC hP hD hK hA hE hS hU hW⟩⟩ rfl rfl hl.1 rfl (lv_room (Nat.le_of_ble_eq_true rfl)) dX5_go_2 ⟨Nat.le_of_ble_eq_true rfl, Nat.le_of_ble_eq_true rfl⟩) hS (fun q _ h => h) (fun q h => h) (fun q _ h => h) (fun E9 ce9 q9 kw_1 t H1 locs ht hvm e_1 hB hz1 hk1 hS hc9 hv9 hcl9 => ?_) (fun w_1 y_1 t H1 locs ht hvm e_1 hB hz1 hk1 hS => ?_)
  · subst e_1
    try dsimp only at h
    obtain ⟨rfl, hP, hD, -, -⟩ := hB
    rw [ht] at hP
    exact vx_out (fun x9 hx9 => (htb x9 hx9).elim) hlocks hc9 hv9 hcl9 (fun t ht hal => ⟨kw_1, (Option.some.inj h).symm, ⟨rfl, wPre_go hP hD hK hA hS ht hal⟩, hS.F ht⟩) hS.2.2 (Nat.le_of_ble_eq_true rfl) (Nat.le_of_ble_eq_true rfl)
  obtain ⟨u_1, r_1⟩ := w_1
  subst e_1
  try dsimp only at h
  obtain ⟨rfl, hP, hD, -, -⟩ := hB
  rw [ht] at hP
  generalize H1 = H at hP hS ⊢
  refine lv_astore_n (lv' := [(3, .ref r_1), (0, .ref (Zz Z 0)), (1, .int a1), (2, .int a2)]) hx hb dX5_go_5 rfl hl (by decide) rfl (fun ls hl => ?_)
  refine lv_aload_n hx hb dX5_go_6 rfl (lv_at hl 0 rfl) ?_
  obtain ⟨n_2, hn_2⟩ := cW_F (c4 := c4) (u := u_1) (zhnd hZ hc_1)
  refine va_get (D := D) (ci := 1) (v := .int (Uf u_1 0 r_1)) (C := RX2) (T := TX2) (N := 7) hx hb hts (fun w h => wm (zin_X2 w h)) hown hK hP n_2 hn_2 rfl 0 (by decide) (hts _ (wm zw_73)) (fun _ h9 => h9) rfl dX5_go_7 ?_
  refine lv_if_eq (tgt := 32) hx hb dX5_go_10 (by decide) (fun c_3 => ?_) (fun c_3 => ?_)
  · skip
    rw [if_pos c_3] at h
    refine lv_aload_n hx hb dX5_go_32 rfl (lv_at hl 0 rfl) ?_
    refine lv_iload_n hx hb dX5_go_33 rfl (lv_at hl 3 rfl) ?_
    obtain ⟨x_4, hc_4, h⟩ := zb_bind h
    try dsimp only at h
    refine vx_callv (vx_runS (As := [.ref r_1, .int a2]) (rest := []) ⟨hx, hb, hml, hown, hts⟩ (ct_X5_requireElement l hl0 D c4 A Z hZ u_1 r_1 (zhnd hZ hc_1) a2 _ hc_4) (va_cwS 2 hts (wz_S zw_499 zw_500 zw_1 zw_501) rfl rfl rfl (by decide +kernel) ⟨Nat.le_of_ble_eq_true rfl, Nat.le_of_ble_eq_true rfl⟩) ⟨fbC, fun U9 hU hW => ⟨rfl, goC hP hD hK hA hE hS hU hW⟩⟩ rfl rfl hl.1 rfl (lv_room (Nat.le_of_ble_eq_true rfl)) dX5_go_34 ⟨Nat.le_of_ble_eq_true rfl, Nat.le_of_ble_eq_true rfl⟩) hS (fun q _ h => h) (fun q h => h) (fun q _ h => h) (fun E9 ce9 q9 kw_4 t H1 locs ht hvm e_4 hB hz1 hk1 hS hc9 hv9 hcl9 => ?_) (fun u_4 t H1 locs ht hvm e_4 hB hz1 hk1 hS => ?_)
    · subst e_4
      try dsimp only at h
      obtain ⟨rfl, hP, hD, -, -⟩ := hB
      rw [ht] at hP
      exact vx_out (fun x9 hx9 => (htb x9 hx9).elim) hlocks hc9 hv9 hcl9 (fun t ht hal => ⟨kw_4, (Option.some.inj h).symm, ⟨rfl, wPre_go hP hD hK hA hS ht hal⟩, hS.F ht⟩) hS.2.2 (Nat.le_of_ble_eq_true rfl) (Nat.le_of_ble_eq_true rfl)
    subst e_4
    try dsimp only at h
    obtain ⟨hP, hD, -, -⟩ := hB
    rw [ht] at hP
    generalize H1 = H at hP hS ⊢
    refine lv_iload_n hx hb dX5_go_37 rfl (lv_at hl 3 rfl) ?_
    refine lv_aload_n hx hb dX5_go_38 rfl (lv_at hl 0 rfl) ?_
    obtain ⟨n_6, hn_6⟩ := cW_F (c4 := c4) (u := u_4) (zhnd hZ hc_1)
    refine vp_callSi (W.runV (As := []) (rest := [.int a2]) ⟨hx, hb, hml, hown, hts⟩ (ct_X2_pointerCount l D c4 A Z hZ u_4 r_1 (zhnd hZ hc_1) _ rfl) (cwV 0 hts (wz_V zw_505 zw_506 zw_507 zw_5 zw_508) rfl rfl rfl (by decide +kernel) ⟨Nat.le_of_ble_eq_true rfl, Nat.le_of_ble_eq_true rfl⟩) ⟨fbC, va_recv hK hP (ci := 1) (q0 := n_6) rfl hn_6, fun U9 hU hW => ⟨rfl, goC hP hD hK hA hE hS hU hW⟩⟩ rfl rfl hl.1 rfl (lv_room (Nat.le_of_ble_eq_true rfl)) dX5_go_39 ⟨Nat.le_of_ble_eq_true rfl, Nat.le_of_ble_eq_true rfl⟩) (fun r_5 e_5 => ?_)
    subst e_5
    refine lv_icmp_lt (tgt := 47) hx hb dX5_go_42 (by decide) (fun c_7 => ?_) (fun c_7 => ?_)
    · skip
      rw [if_pos c_7] at h
      refine lv_aload_n hx hb dX5_go_47 rfl (lv_at hl 0 rfl) ?_
      obtain ⟨n_9, hn_9⟩ := cW_F (c4 := c4) (u := u_4) (zhnd hZ hc_1)
      refine vp_callSi (W.runV (As := []) (rest := []) ⟨hx, hb, hml, hown, hts⟩ (ct_X2_firstPointer l D c4 A Z hZ u_4 r_1 (zhnd hZ hc_1) _ rfl) (cwV 0 hts (wz_V zw_509 zw_510 zw_511 zw_5 zw_512) rfl rfl rfl (by decide +kernel) ⟨Nat.le_of_ble_eq_true rfl, Nat.le_of_ble_eq_true rfl⟩) ⟨fbC, va_recv hK hP (ci := 1) (q0 := n_9) rfl hn_9, fun U9 hU hW => ⟨rfl, goC hP hD hK hA hE hS hU hW⟩⟩ rfl rfl hl.1 rfl (lv_room (Nat.le_of_ble_eq_true rfl)) dX5_go_48 ⟨Nat.le_of_ble_eq_true rfl, Nat.le_of_ble_eq_true rfl⟩) (fun r_8 e_8 => ?_)
      subst e_8
      refine lv_iload_n hx hb dX5_go_51 rfl (lv_at hl 3 rfl) ?_
      refine lv_iadd hx hb dX5_go_52 ?_
      obtain ⟨y_10, e_10, h⟩ := zb_bind h
      try dsimp only at h
      refine zt_i (Option.some.inj e_10) ?_
      refine lv_istore (lv' := [(4, .int y_10), (3, .ref r_1), (0, .ref (Zz Z 0)), (1, .int a1), (2, .int a2)]) hx hb dX5_go_53 hl (by decide) rfl (fun ls hl => ?_)
      refine lv_aload_n hx hb dX5_go_55 rfl (lv_at hl 2 rfl) ?_
      refine va_get (D := D) (ci := 4) (v := .ref (Zz Z 1)) (C := RX5) (T := TX5) (N := 9) hx hb hts (fun w h => wm (zin_X5 w h)) hown hK hP 0 rfl rfl 0 (by decide) (hts _ (wm zw_128)) (fun _ h9 => h9) rfl dX5_go_56 ?_
      refine lv_aload_n hx hb dX5_go_59 rfl (lv_at hl 1 rfl) ?_
      obtain ⟨n_11, hn_11⟩ := cW_F (c4 := c4) (u := u_4) (zhnd hZ hc_1)
      refine va_get (D := D) (ci := 1) (v := .int (Uf u_4 4 r_1)) (C := RX2) (T := TX2) (N := 7) hx hb hts (fun w h => wm (zin_X2 w h)) hown hK hP n_11 hn_11 rfl 4 (by decide) (hts _ (wm zw_89)) (fun _ h9 => h9) rfl dX5_go_60 ?_
      refine lv_iload hx hb dX5_go_63 (lv_at hl 0 rfl) ?_
      obtain ⟨q_12, hc_12, h⟩ := zb_bind h
      try dsimp only at h
      refine vp_callSl (W.runV (As := [.int (Uf u_4 4 r_1), .int y_10]) (rest := []) ⟨hx, hb, hml, hown, hts⟩ (ct_X3_at l D c4 A Z hZ u_4 (Uf u_4 4 r_1) y_10 _ hc_12) (cwV 2 hts (wz_V zw_200 zw_201 zw_202 zw_2 zw_203) rfl rfl rfl (by decide +kernel) ⟨Nat.le_of_ble_eq_true rfl, Nat.le_of_ble_eq_true rfl⟩) ⟨fbC, va_recv hK hP (ci := 2) (q0 := 1) rfl rfl, fun U9 hU hW => ⟨rfl, goC hP hD hK hA hE hS hU hW⟩⟩ rfl rfl hl.1 rfl (lv_room (Nat.le_of_ble_eq_true rfl)) dX5_go_65 ⟨Nat.le_of_ble_eq_true rfl, Nat.le_of_ble_eq_true rfl⟩) (fun r_12 e_12 => ?_)
      subst e_12
      refine lv_lconst (v := (0 : Int64)) hx hb dX5_go_68 (by decide) ?_
      refine W.lcmp hx hb dX5_go_69 ?_
      refine lv_if_ne (tgt := 75) hx hb dX5_go_70 (by decide) (fun c_13 => ?_) (fun c_13 => ?_)
      · skip
        have c_13 := mt (lg_cmp_eq _ _).mpr c_13
        rw [if_neg c_13] at h
        refine lv_aload_n hx hb dX5_go_75 rfl (lv_at hl 2 rfl) ?_
        obtain ⟨x_14, hc_14, h⟩ := zb_bind h
        try dsimp only at h
        refine vx_callv (vx_runV (As := []) (rest := []) ⟨hx, hb, hml, hown, hts⟩ (ct_X5_requireFreeHandle l hl0 D c4 A Z hZ u_4 _ hc_14) (cwV 0 hts (wz_V zw_513 zw_515 zs_8 zw_1 zw_516) rfl rfl rfl (by decide +kernel) ⟨Nat.le_of_ble_eq_true rfl, Nat.le_of_ble_eq_true rfl⟩) ⟨fbC, va_recv hK hP (ci := 4) (q0 := 0) rfl rfl, fun U9 hU hW => ⟨rfl, goC hP hD hK hA hE hS hU hW⟩⟩ rfl rfl hl.1 rfl (lv_room (Nat.le_of_ble_eq_true rfl)) dX5_go_76 ⟨Nat.le_of_ble_eq_true rfl, Nat.le_of_ble_eq_true rfl⟩) hS (fun q _ h => h) (fun q h => h) (fun q _ h => h) (fun E9 ce9 q9 kw_14 t H1 locs ht hvm e_14 hB hz1 hk1 hS hc9 hv9 hcl9 => ?_) (fun u_14 t H1 locs ht hvm e_14 hB hz1 hk1 hS => ?_)
        · subst e_14
          try dsimp only at h
          obtain ⟨rfl, hP, hD, -, -⟩ := hB
          rw [ht] at hP
          exact vx_out (fun x9 hx9 => (htb x9 hx9).elim) hlocks hc9 hv9 hcl9 (fun t ht hal => ⟨kw_14, (Option.some.inj h).symm, ⟨rfl, wPre_go hP hD hK hA hS ht hal⟩, hS.F ht⟩) hS.2.2 (Nat.le_of_ble_eq_true rfl) (Nat.le_of_ble_eq_true rfl)
        subst e_14
        try dsimp only at h
        obtain ⟨hP, hD, -, -⟩ := hB
        rw [ht] at hP
        generalize H1 = H at hP hS ⊢
        refine lv_aload_n hx hb dX5_go_79 rfl (lv_at hl 2 rfl) ?_
        refine va_get (D := D) (ci := 4) (v := .ref (Zz Z 1)) (C := RX5) (T := TX5) (N := 9) hx hb hts (fun w h => wm (zin_X5 w h)) hown hK hP 0 rfl rfl 0 (by decide) (hts _ (wm zw_128)) (fun _ h9 => h9) rfl dX5_go_80 ?_
        refine lv_aload_n hx hb dX5_go_83 rfl (lv_at hl 1 rfl) ?_
        refine lv_iload hx hb dX5_go_84 (lv_at hl 0 rfl) ?_
        refine lv_aload_n hx hb dX5_go_86 rfl (lv_at hl 2 rfl) ?_
        refine va_get (D := D) (ci := 4) (v := .int (Ui u_14 2)) (C := RX5) (T := TX5) (N := 9) hx hb hts (fun w h => wm (zin_X5 w h)) hown hK hP 0 rfl rfl 7 (by decide) (hts _ (wm zw_135)) (fun _ h9 => h9) rfl dX5_go_87 ?_
        refine lv_aload_n hx hb dX5_go_90 rfl (lv_at hl 2 rfl) ?_
        refine va_get (D := D) (ci := 4) (v := .ref (Zz Z 4)) (C := RX5) (T := TX5) (N := 9) hx hb hts (fun w h => wm (zin_X5 w h)) hown hK hP 0 rfl rfl 2 (by decide) (hts _ (wm zw_130)) (fun _ h9 => h9) rfl dX5_go_91 ?_
        refine lv_aload_n hx hb dX5_go_94 rfl (lv_at hl 2 rfl) ?_
        refine va_get (D := D) (ci := 4) (v := .int (Ui u_14 1)) (C := RX5) (T := TX5) (N := 9) hx hb hts (fun w h => wm (zin_X5 w h)) hown hK hP 0 rfl rfl 6 (by decide) (hts _ (wm zw_134)) (fun _ h9 => h9) rfl dX5_go_95 ?_
        obtain ⟨hi_15, h⟩ := zb_if h
        refine va_aldq hx hb hK hP 4 1 rfl rfl (inb_in hi_15) dX5_go_98 ?_
        refine W.eq (g2 := F0 m 99 ls ([.ref (Zh Z (Ui u_14 1).toNatClampNeg), .int (Ui u_14 2), .int y_10, .ref r_1, .ref (Zz Z 1)])) rfl ?_
        obtain ⟨x_16, hc_16, h⟩ := zb_bind h
        try dsimp only at h
        refine vx_calli (vx_runV (As := [.ref r_1, .int y_10, .int (Ui u_14 2), .ref (Zh Z (Ui u_14 1).toNatClampNeg)]) (rest := []) ⟨hx, hb, hml, hown, hts⟩ (ct_X3_find l hl0 D c4 A Z hZ u_14 r_1 (zhnd hZ hc_1) y_10 (Ui u_14 2) (Zh Z (Ui u_14 1).toNatClampNeg) (cok_h hZ hi_15) _ hc_16) (cwV 4 hts (wz_V zw_520 zw_521 zw_522 zw_2 zw_523) rfl rfl rfl (by decide +kernel) ⟨Nat.le_of_ble_eq_true rfl, Nat.le_of_ble_eq_true rfl⟩) ⟨fbC, va_recv hK hP (ci := 2) (q0 := 1) rfl rfl, fun U9 hU hW => ⟨rfl, goC hP hD hK hA hE hS hU hW⟩⟩ rfl rfl hl.1 rfl (lv_room (Nat.le_of_ble_eq_true rfl)) dX5_go_99 ⟨Nat.le_of_ble_eq_true rfl, Nat.le_of_ble_eq_true rfl⟩) hS (fun q _ h => h) (fun q h => h) (fun q _ h => h) (fun E9 ce9 q9 kw_16 t H1 locs ht hvm e_16 hB hz1 hk1 hS hc9 hv9 hcl9 => ?_) (fun r_16 u_16 t H1 locs ht hvm e_16 hB hz1 hk1 hS => ?_)
        · subst e_16
          try dsimp only at h
          obtain ⟨rfl, hP, hD, -, -⟩ := hB
          rw [ht] at hP
          exact vx_out (fun x9 hx9 => (htb x9 hx9).elim) hlocks hc9 hv9 hcl9 (fun t ht hal => ⟨kw_16, (Option.some.inj h).symm, ⟨rfl, wPre_go hP hD hK hA hS ht hal⟩, hS.F ht⟩) hS.2.2 (Nat.le_of_ble_eq_true rfl) (Nat.le_of_ble_eq_true rfl)
        subst e_16
        try dsimp only at h
        obtain ⟨hP, hD, -, -⟩ := hB
        rw [ht] at hP
        generalize H1 = H at hP hS ⊢
        refine lv_istore (lv' := [(5, .int r_16), (4, .int y_10), (3, .ref r_1), (0, .ref (Zz Z 0)), (1, .int a1), (2, .int a2)]) hx hb dX5_go_102 hl (by decide) rfl (fun ls hl => ?_)
        refine lv_aload_n hx hb dX5_go_104 rfl (lv_at hl 3 rfl) ?_
        refine lv_dup hx hb dX5_go_105 rfl ?_
        refine va_get (D := D) (ci := 4) (v := .int (Ui u_16 2)) (C := RX5) (T := TX5) (N := 9) hx hb hts (fun w h => wm (zin_X5 w h)) hown hK hP 0 rfl rfl 7 (by decide) (hts _ (wm zw_135)) (fun _ h9 => h9) rfl dX5_go_106 ?_
        refine lv_iload hx hb dX5_go_109 (lv_at hl 0 rfl) ?_
        refine lv_isub hx hb dX5_go_111 ?_
        obtain ⟨y_17, e_17, h⟩ := zb_bind h
        try dsimp only at h
        refine zt_i (Option.some.inj e_17) ?_
        refine va_put (D := D) (ci := 4) (v := .int y_17) (ty := .int) (C := RX5) (T := TX5) (N := 9) hx hb hts (fun w h => wm (zin_X5 w h)) tyX5 tyX5_ok nmX5 hown hK hP hD hS 0 rfl rfl 7 (by decide) (hts _ (wm zw_135)) (fun _ h9 => h9) rfl (by decide +kernel) rfl rfl (Nat.le_of_ble_eq_true rfl) dX5_go_112 (fun H locs hP hD hS => ?_)
        have hP : va_P D vwCl (cW c4 Z (sI u_16 2 y_17)) H := hP
        have hD : va_D A (cW c4 Z (sI u_16 2 y_17)) := hD
        refine lv_aload_n hx hb dX5_go_115 rfl (lv_at hl 3 rfl) ?_
        refine lv_dup hx hb dX5_go_116 rfl ?_
        refine va_get (D := D) (ci := 4) (v := .int (Ui u_16 1)) (C := RX5) (T := TX5) (N := 9) hx hb hts (fun w h => wm (zin_X5 w h)) hown hK hP 0 rfl rfl 6 (by decide) (hts _ (wm zw_134)) (fun _ h9 => h9) rfl dX5_go_117 ?_
        refine lv_iconst (v := (1 : Int32)) hx hb dX5_go_120 (by decide) ?_
        refine lv_iadd hx hb dX5_go_121 ?_
        obtain ⟨y_18, e_18, h⟩ := zb_bind h
        try dsimp only at h
        refine zt_i (Option.some.inj e_18) ?_
        refine va_put (D := D) (ci := 4) (v := .int y_18) (ty := .int) (C := RX5) (T := TX5) (N := 9) hx hb hts (fun w h => wm (zin_X5 w h)) tyX5 tyX5_ok nmX5 hown hK hP hD hS 0 rfl rfl 6 (by decide) (hts _ (wm zw_134)) (fun _ h9 => h9) rfl (by decide +kernel) rfl rfl (Nat.le_of_ble_eq_true rfl) dX5_go_122 (fun H locs hP hD hS => ?_)
        have hP : va_P D vwCl (cW c4 Z (sI (sI u_16 2 y_17) 1 y_18)) H := hP
        have hD : va_D A (cW c4 Z (sI (sI u_16 2 y_17) 1 y_18)) := hD
        refine lv_aload_n hx hb dX5_go_125 rfl (lv_at hl 3 rfl) ?_
        refine va_get (D := D) (ci := 4) (v := .int y_18) (C := RX5) (T := TX5) (N := 9) hx hb hts (fun w h => wm (zin_X5 w h)) hown hK hP 0 rfl rfl 6 (by decide) (hts _ (wm zw_134)) (fun _ h9 => h9) rfl dX5_go_126 ?_
        refine lv_iconst (v := (1 : Int32)) hx hb dX5_go_129 (by decide) ?_
        refine lv_isub hx hb dX5_go_130 ?_
        refine vx_ret ?_
        exact W.iret (v := (y_18 - (1 : Int32))) hx hb hr (fun t ht hW => ⟨⟨(y_18 - (1 : Int32)), (sI (sI u_16 2 y_17) 1 y_18), rfl, (Option.some.inj h).symm, wPre_go hP hD hK hA hS ht hW.alike⟩, hS.F ht⟩) hS.2.2 dX5_go_131
      · skip
        have c_13 := (lg_cmp_eq _ _).mp c_13
        rw [if_pos c_13] at h
        refine lv_iconst (v := (-1 : Int32)) hx hb dX5_go_73 (by decide) ?_
        refine vx_ret ?_
        exact W.iret (v := (-1 : Int32)) hx hb hr (fun t ht hW => ⟨⟨(-1 : Int32), u_4, rfl, (Option.some.inj h).symm, wPre_go hP hD hK hA hS ht hW.alike⟩, hS.F ht⟩) hS.2.2 dX5_go_74
    · skip
      rw [if_neg c_7] at h
      refine lv_iconst (v := (-1 : Int32)) hx hb dX5_go_45 (by decide) ?_
      refine vx_ret ?_
      exact W.iret (v := (-1 : Int32)) hx hb hr (fun t ht hW => ⟨⟨(-1 : Int32), u_4, rfl, (Option.some.inj h).symm, wPre_go hP hD hK hA hS ht hW.alike⟩, hS.F ht⟩) hS.2.2 dX5_go_46
  · skip
    rw [if_neg c_3] at h
    refine lv_aload_n hx hb dX5_go_13 rfl (lv_at hl 0 rfl) ?_
    obtain ⟨n_19, hn_19⟩ := cW_F (c4 := c4) (u := u_1) (zhnd hZ hc_1)
    refine va_get (D := D) (ci := 1) (v := .int (Uf u_1 0 r_1)) (C := RX2) (T := TX2) (N := 7) hx hb hts (fun w h => wm (zin_X2 w h)) hown hK hP n_19 hn_19 rfl 0 (by decide) (hts _ (wm zw_73)) (fun _ h9 => h9) rfl dX5_go_14 ?_
    refine lv_bipush (v := (7 : Int32)) hx hb dX5_go_17 (by decide) ?_
    refine lv_icmp_eq (tgt := 32) hx hb dX5_go_19 (by decide) (fun c_20 => ?_) (fun c_20 => ?_)
    · skip
      rw [if_pos c_20] at h
      refine lv_aload_n hx hb dX5_go_32 rfl (lv_at hl 0 rfl) ?_
      refine lv_iload_n hx hb dX5_go_33 rfl (lv_at hl 3 rfl) ?_
      obtain ⟨x_21, hc_21, h⟩ := zb_bind h
      try dsimp only at h
      refine vx_callv (vx_runS (As := [.ref r_1, .int a2]) (rest := []) ⟨hx, hb, hml, hown, hts⟩ (ct_X5_requireElement l hl0 D c4 A Z hZ u_1 r_1 (zhnd hZ hc_1) a2 _ hc_21) (va_cwS 2 hts (wz_S zw_499 zw_500 zw_1 zw_501) rfl rfl rfl (by decide +kernel) ⟨Nat.le_of_ble_eq_true rfl, Nat.le_of_ble_eq_true rfl⟩) ⟨fbC, fun U9 hU hW => ⟨rfl, goC hP hD hK hA hE hS hU hW⟩⟩ rfl rfl hl.1 rfl (lv_room (Nat.le_of_ble_eq_true rfl)) dX5_go_34 ⟨Nat.le_of_ble_eq_true rfl, Nat.le_of_ble_eq_true rfl⟩) hS (fun q _ h => h) (fun q h => h) (fun q _ h => h) (fun E9 ce9 q9 kw_21 t H1 locs ht hvm e_21 hB hz1 hk1 hS hc9 hv9 hcl9 => ?_) (fun u_21 t H1 locs ht hvm e_21 hB hz1 hk1 hS => ?_)
      · subst e_21
        try dsimp only at h
        obtain ⟨rfl, hP, hD, -, -⟩ := hB
        rw [ht] at hP
        exact vx_out (fun x9 hx9 => (htb x9 hx9).elim) hlocks hc9 hv9 hcl9 (fun t ht hal => ⟨kw_21, (Option.some.inj h).symm, ⟨rfl, wPre_go hP hD hK hA hS ht hal⟩, hS.F ht⟩) hS.2.2 (Nat.le_of_ble_eq_true rfl) (Nat.le_of_ble_eq_true rfl)
      subst e_21
      try dsimp only at h
      obtain ⟨hP, hD, -, -⟩ := hB
      rw [ht] at hP
      generalize H1 = H at hP hS ⊢
      refine lv_iload_n hx hb dX5_go_37 rfl (lv_at hl 3 rfl) ?_
      refine lv_aload_n hx hb dX5_go_38 rfl (lv_at hl 0 rfl) ?_
      obtain ⟨n_23, hn_23⟩ := cW_F (c4 := c4) (u := u_21) (zhnd hZ hc_1)
      refine vp_callSi (W.runV (As := []) (rest := [.int a2]) ⟨hx, hb, hml, hown, hts⟩ (ct_X2_pointerCount l D c4 A Z hZ u_21 r_1 (zhnd hZ hc_1) _ rfl) (cwV 0 hts (wz_V zw_505 zw_506 zw_507 zw_5 zw_508) rfl rfl rfl (by decide +kernel) ⟨Nat.le_of_ble_eq_true rfl, Nat.le_of_ble_eq_true rfl⟩) ⟨fbC, va_recv hK hP (ci := 1) (q0 := n_23) rfl hn_23, fun U9 hU hW => ⟨rfl, goC hP hD hK hA hE hS hU hW⟩⟩ rfl rfl hl.1 rfl (lv_room (Nat.le_of_ble_eq_true rfl)) dX5_go_39 ⟨Nat.le_of_ble_eq_true rfl, Nat.le_of_ble_eq_true rfl⟩) (fun r_22 e_22 => ?_)
      subst e_22
      refine lv_icmp_lt (tgt := 47) hx hb dX5_go_42 (by decide) (fun c_24 => ?_) (fun c_24 => ?_)
      · skip
        rw [if_pos c_24] at h
        refine lv_aload_n hx hb dX5_go_47 rfl (lv_at hl 0 rfl) ?_
        obtain ⟨n_26, hn_26⟩ := cW_F (c4 := c4) (u := u_21) (zhnd hZ hc_1)
        refine vp_callSi (W.runV (As := []) (rest := []) ⟨hx, hb, hml, hown, hts⟩ (ct_X2_firstPointer l D c4 A Z hZ u_21 r_1 (zhnd hZ hc_1) _ rfl) (cwV 0 hts (wz_V zw_509 zw_510 zw_511 zw_5 zw_512) rfl rfl rfl (by decide +kernel) ⟨Nat.le_of_ble_eq_true rfl, Nat.le_of_ble_eq_true rfl⟩) ⟨fbC, va_recv hK hP (ci := 1) (q0 := n_26) rfl hn_26, fun U9 hU hW => ⟨rfl, goC hP hD hK hA hE hS hU hW⟩⟩ rfl rfl hl.1 rfl (lv_room (Nat.le_of_ble_eq_true rfl)) dX5_go_48 ⟨Nat.le_of_ble_eq_true rfl, Nat.le_of_ble_eq_true rfl⟩) (fun r_25 e_25 => ?_)
        subst e_25
        refine lv_iload_n hx hb dX5_go_51 rfl (lv_at hl 3 rfl) ?_
        refine lv_iadd hx hb dX5_go_52 ?_
        obtain ⟨y_27, e_27, h⟩ := zb_bind h
        try dsimp only at h
        refine zt_i (Option.some.inj e_27) ?_
        refine lv_istore (lv' := [(4, .int y_27), (3, .ref r_1), (0, .ref (Zz Z 0)), (1, .int a1), (2, .int a2)]) hx hb dX5_go_53 hl (by decide) rfl (fun ls hl => ?_)
        refine lv_aload_n hx hb dX5_go_55 rfl (lv_at hl 2 rfl) ?_
        refine va_get (D := D) (ci := 4) (v := .ref (Zz Z 1)) (C := RX5) (T := TX5) (N := 9) hx hb hts (fun w h => wm (zin_X5 w h)) hown hK hP 0 rfl rfl 0 (by decide) (hts _ (wm zw_128)) (fun _ h9 => h9) rfl dX5_go_56 ?_
        refine lv_aload_n hx hb dX5_go_59 rfl (lv_at hl 1 rfl) ?_
        obtain ⟨n_28, hn_28⟩ := cW_F (c4 := c4) (u := u_21) (zhnd hZ hc_1)
        refine va_get (D := D) (ci := 1) (v := .int (Uf u_21 4 r_1)) (C := RX2) (T := TX2) (N := 7) hx hb hts (fun w h => wm (zin_X2 w h)) hown hK hP n_28 hn_28 rfl 4 (by decide) (hts _ (wm zw_89)) (fun _ h9 => h9) rfl dX5_go_60 ?_
        refine lv_iload hx hb dX5_go_63 (lv_at hl 0 rfl) ?_
        obtain ⟨q_29, hc_29, h⟩ := zb_bind h
        try dsimp only at h
        refine vp_callSl (W.runV (As := [.int (Uf u_21 4 r_1), .int y_27]) (rest := []) ⟨hx, hb, hml, hown, hts⟩ (ct_X3_at l D c4 A Z hZ u_21 (Uf u_21 4 r_1) y_27 _ hc_29) (cwV 2 hts (wz_V zw_200 zw_201 zw_202 zw_2 zw_203) rfl rfl rfl (by decide +kernel) ⟨Nat.le_of_ble_eq_true rfl, Nat.le_of_ble_eq_true rfl⟩) ⟨fbC, va_recv hK hP (ci := 2) (q0 := 1) rfl rfl, fun U9 hU hW => ⟨rfl, goC hP hD hK hA hE hS hU hW⟩⟩ rfl rfl hl.1 rfl (lv_room (Nat.le_of_ble_eq_true rfl)) dX5_go_65 ⟨Nat.le_of_ble_eq_true rfl, Nat.le_of_ble_eq_true rfl⟩) (fun r_29 e_29 => ?_)
        subst e_29
        refine lv_lconst (v := (0 : Int64)) hx hb dX5_go_68 (by decide) ?_
        refine W.lcmp hx hb dX5_go_69 ?_
        refine lv_if_ne (tgt := 75) hx hb dX5_go_70 (by decide) (fun c_30 => ?_) (fun c_30 => ?_)
        · skip
          have c_30 := mt (lg_cmp_eq _ _).mpr c_30
          rw [if_neg c_30] at h
          refine lv_aload_n hx hb dX5_go_75 rfl (lv_at hl 2 rfl) ?_
          obtain ⟨x_31, hc_31, h⟩ := zb_bind h
          try dsimp only at h
          refine vx_callv (vx_runV (As := []) (rest := []) ⟨hx, hb, hml, hown, hts⟩ (ct_X5_requireFreeHandle l hl0 D c4 A Z hZ u_21 _ hc_31) (cwV 0 hts (wz_V zw_513 zw_515 zs_8 zw_1 zw_516) rfl rfl rfl (by decide +kernel) ⟨Nat.le_of_ble_eq_true rfl, Nat.le_of_ble_eq_true rfl⟩) ⟨fbC, va_recv hK hP (ci := 4) (q0 := 0) rfl rfl, fun U9 hU hW => ⟨rfl, goC hP hD hK hA hE hS hU hW⟩⟩ rfl rfl hl.1 rfl (lv_room (Nat.le_of_ble_eq_true rfl)) dX5_go_76 ⟨Nat.le_of_ble_eq_true rfl, Nat.le_of_ble_eq_true rfl⟩) hS (fun q _ h => h) (fun q h => h) (fun q _ h => h) (fun E9 ce9 q9 kw_31 t H1 locs ht hvm e_31 hB hz1 hk1 hS hc9 hv9 hcl9 => ?_) (fun u_31 t H1 locs ht hvm e_31 hB hz1 hk1 hS => ?_)
          · subst e_31
            try dsimp only at h
            obtain ⟨rfl, hP, hD, -, -⟩ := hB
            rw [ht] at hP
            exact vx_out (fun x9 hx9 => (htb x9 hx9).elim) hlocks hc9 hv9 hcl9 (fun t ht hal => ⟨kw_31, (Option.some.inj h).symm, ⟨rfl, wPre_go hP hD hK hA hS ht hal⟩, hS.F ht⟩) hS.2.2 (Nat.le_of_ble_eq_true rfl) (Nat.le_of_ble_eq_true rfl)
          subst e_31
          try dsimp only at h
          obtain ⟨hP, hD, -, -⟩ := hB
          rw [ht] at hP
          generalize H1 = H at hP hS ⊢
          refine lv_aload_n hx hb dX5_go_79 rfl (lv_at hl 2 rfl) ?_
          refine va_get (D := D) (ci := 4) (v := .ref (Zz Z 1)) (C := RX5) (T := TX5) (N := 9) hx hb hts (fun w h => wm (zin_X5 w h)) hown hK hP 0 rfl rfl 0 (by decide) (hts _ (wm zw_128)) (fun _ h9 => h9) rfl dX5_go_80 ?_
          refine lv_aload_n hx hb dX5_go_83 rfl (lv_at hl 1 rfl) ?_
          refine lv_iload hx hb dX5_go_84 (lv_at hl 0 rfl) ?_
          refine lv_aload_n hx hb dX5_go_86 rfl (lv_at hl 2 rfl) ?_
          refine va_get (D := D) (ci := 4) (v := .int (Ui u_31 2)) (C := RX5) (T := TX5) (N := 9) hx hb hts (fun w h => wm (zin_X5 w h)) hown hK hP 0 rfl rfl 7 (by decide) (hts _ (wm zw_135)) (fun _ h9 => h9) rfl dX5_go_87 ?_
          refine lv_aload_n hx hb dX5_go_90 rfl (lv_at hl 2 rfl) ?_
          refine va_get (D := D) (ci := 4) (v := .ref (Zz Z 4)) (C := RX5) (T := TX5) (N := 9) hx hb hts (fun w h => wm (zin_X5 w h)) hown hK hP 0 rfl rfl 2 (by decide) (hts _ (wm zw_130)) (fun _ h9 => h9) rfl dX5_go_91 ?_
          refine lv_aload_n hx hb dX5_go_94 rfl (lv_at hl 2 rfl) ?_
          refine va_get (D := D) (ci := 4) (v := .int (Ui u_31 1)) (C := RX5) (T := TX5) (N := 9) hx hb hts (fun w h => wm (zin_X5 w h)) hown hK hP 0 rfl rfl 6 (by decide) (hts _ (wm zw_134)) (fun _ h9 => h9) rfl dX5_go_95 ?_
          obtain ⟨hi_32, h⟩ := zb_if h
          refine va_aldq hx hb hK hP 4 1 rfl rfl (inb_in hi_32) dX5_go_98 ?_
          refine W.eq (g2 := F0 m 99 ls ([.ref (Zh Z (Ui u_31 1).toNatClampNeg), .int (Ui u_31 2), .int y_27, .ref r_1, .ref (Zz Z 1)])) rfl ?_
          obtain ⟨x_33, hc_33, h⟩ := zb_bind h
          try dsimp only at h
          refine vx_calli (vx_runV (As := [.ref r_1, .int y_27, .int (Ui u_31 2), .ref (Zh Z (Ui u_31 1).toNatClampNeg)]) (rest := []) ⟨hx, hb, hml, hown, hts⟩ (ct_X3_find l hl0 D c4 A Z hZ u_31 r_1 (zhnd hZ hc_1) y_27 (Ui u_31 2) (Zh Z (Ui u_31 1).toNatClampNeg) (cok_h hZ hi_32) _ hc_33) (cwV 4 hts (wz_V zw_520 zw_521 zw_522 zw_2 zw_523) rfl rfl rfl (by decide +kernel) ⟨Nat.le_of_ble_eq_true rfl, Nat.le_of_ble_eq_true rfl⟩) ⟨fbC, va_recv hK hP (ci := 2) (q0 := 1) rfl rfl, fun U9 hU hW => ⟨rfl, goC hP hD hK hA hE hS hU hW⟩⟩ rfl rfl hl.1 rfl (lv_room (Nat.le_of_ble_eq_true rfl)) dX5_go_99 ⟨Nat.le_of_ble_eq_true rfl, Nat.le_of_ble_eq_true rfl⟩) hS (fun q _ h => h) (fun q h => h) (fun q _ h => h) (fun E9 ce9 q9 kw_33 t H1 locs ht hvm e_33 hB hz1 hk1 hS hc9 hv9 hcl9 => ?_) (fun r_33 u_33 t H1 locs ht hvm e_33 hB hz1 hk1 hS => ?_)
          · subst e_33
            try dsimp only at h
            obtain ⟨rfl, hP, hD, -, -⟩ := hB
            rw [ht] at hP
            exact vx_out (fun x9 hx9 => (htb x9 hx9).elim) hlocks hc9 hv9 hcl9 (fun t ht hal => ⟨kw_33, (Option.some.inj h).symm, ⟨rfl, wPre_go hP hD hK hA hS ht hal⟩, hS.F ht⟩) hS.2.2 (Nat.le_of_ble_eq_true rfl) (Nat.le_of_ble_eq_true rfl)
          subst e_33
          try dsimp only at h
          obtain ⟨hP, hD, -, -⟩ := hB
          rw [ht] at hP
          generalize H1 = H at hP hS ⊢
          refine lv_istore (lv' := [(5, .int r_33), (4, .int y_27), (3, .ref r_1), (0, .ref (Zz Z 0)), (1, .int a1), (2, .int a2)]) hx hb dX5_go_102 hl (by decide) rfl (fun ls hl => ?_)
          refine lv_aload_n hx hb dX5_go_104 rfl (lv_at hl 3 rfl) ?_
          refine lv_dup hx hb dX5_go_105 rfl ?_
          refine va_get (D := D) (ci := 4) (v := .int (Ui u_33 2)) (C := RX5) (T := TX5) (N := 9) hx hb hts (fun w h => wm (zin_X5 w h)) hown hK hP 0 rfl rfl 7 (by decide) (hts _ (wm zw_135)) (fun _ h9 => h9) rfl dX5_go_106 ?_
          refine lv_iload hx hb dX5_go_109 (lv_at hl 0 rfl) ?_
          refine lv_isub hx hb dX5_go_111 ?_
          obtain ⟨y_34, e_34, h⟩ := zb_bind h
          try dsimp only at h
          refine zt_i (Option.some.inj e_34) ?_
          refine va_put (D := D) (ci := 4) (v := .int y_34) (ty := .int) (C := RX5) (T := TX5) (N := 9) hx hb hts (fun w h => wm (zin_X5 w h)) tyX5 tyX5_ok nmX5 hown hK hP hD hS 0 rfl rfl 7 (by decide) (hts _ (wm zw_135)) (fun _ h9 => h9) rfl (by decide +kernel) rfl rfl (Nat.le_of_ble_eq_true rfl) dX5_go_112 (fun H locs hP hD hS => ?_)
          have hP : va_P D vwCl (cW c4 Z (sI u_33 2 y_34)) H := hP
          have hD : va_D A (cW c4 Z (sI u_33 2 y_34)) := hD
          refine lv_aload_n hx hb dX5_go_115 rfl (lv_at hl 3 rfl) ?_
          refine lv_dup hx hb dX5_go_116 rfl ?_
          refine va_get (D := D) (ci := 4) (v := .int (Ui u_33 1)) (C := RX5) (T := TX5) (N := 9) hx hb hts (fun w h => wm (zin_X5 w h)) hown hK hP 0 rfl rfl 6 (by decide) (hts _ (wm zw_134)) (fun _ h9 => h9) rfl dX5_go_117 ?_
          refine lv_iconst (v := (1 : Int32)) hx hb dX5_go_120 (by decide) ?_
          refine lv_iadd hx hb dX5_go_121 ?_
          obtain ⟨y_35, e_35, h⟩ := zb_bind h
          try dsimp only at h
          refine zt_i (Option.some.inj e_35) ?_
          refine va_put (D := D) (ci := 4) (v := .int y_35) (ty := .int) (C := RX5) (T := TX5) (N := 9) hx hb hts (fun w h => wm (zin_X5 w h)) tyX5 tyX5_ok nmX5 hown hK hP hD hS 0 rfl rfl 6 (by decide) (hts _ (wm zw_134)) (fun _ h9 => h9) rfl (by decide +kernel) rfl rfl (Nat.le_of_ble_eq_true rfl) dX5_go_122 (fun H locs hP hD hS => ?_)
          have hP : va_P D vwCl (cW c4 Z (sI (sI u_33 2 y_34) 1 y_35)) H := hP
          have hD : va_D A (cW c4 Z (sI (sI u_33 2 y_34) 1 y_35)) := hD
          refine lv_aload_n hx hb dX5_go_125 rfl (lv_at hl 3 rfl) ?_
          refine va_get (D := D) (ci := 4) (v := .int y_35) (C := RX5) (T := TX5) (N := 9) hx hb hts (fun w h => wm (zin_X5 w h)) hown hK hP 0 rfl rfl 6 (by decide) (hts _ (wm zw_134)) (fun _ h9 => h9) rfl dX5_go_126 ?_
          refine lv_iconst (v := (1 : Int32)) hx hb dX5_go_129 (by decide) ?_
          refine lv_isub hx hb dX5_go_130 ?_
          refine vx_ret ?_
          exact W.iret (v := (y_35 - (1 : Int32))) hx hb hr (fun t ht hW => ⟨⟨(y_35 - (1 : Int32)), (sI (sI u_33 2 y_34) 1 y_35), rfl, (Option.some.inj h).symm, wPre_go hP hD hK hA hS ht hW.alike⟩, hS.F ht⟩) hS.2.2 dX5_go_131
        · skip
          have c_30 := (lg_cmp_eq _ _).mp c_30
          rw [if_pos c_30] at h
          refine lv_iconst (v := (-1 : Int32)) hx hb dX5_go_73 (by decide) ?_
          refine vx_ret ?_
          exact W.iret (v := (-1 : Int32)) hx hb hr (fun t ht hW => ⟨⟨(-1 : Int32), u_21, rfl, (Option.some.inj h).symm, wPre_go hP hD hK hA hS ht hW.alike⟩, hS.F ht⟩) hS.2.2 dX5_go_74
      · skip
        rw [if_neg c_24] at h
        refine lv_iconst (v := (-1 : Int32)) hx hb dX5_go_45 (by decide) ?_
        refine vx_ret ?_
        exact W.iret (v := (-1 : Int32)) hx hb hr (fun t ht hW => ⟨⟨(-1 : Int32), u_21, rfl, (Option.some.inj h).symm, wPre_go hP hD hK hA hS ht hW.alike⟩, hS.F ht⟩) hS.2.2 dX5_go_46
    · skip
      rw [if_neg c_20] at h
      obtain ⟨sa, hsa⟩ := hE.2.2.2.2.1 ("PointedWords", 107, "a list without pointers of its own") (by decide)
      exact vx_throwS (A := A) (own := RX5) (cls := "java/lang/UnsupportedOperationException") (names := ["java/lang/RuntimeException", "java/lang/Exception"]) hx hb hl0 hown (by decide +kernel) (by decide +kernel) (hts _ (wm zw_483)) (hts _ (wm zw_16)) hsa (zat_X5_109 (fun w h => hts w (wm h)) hE.2.2.2.2.2) zgd_X5_109 hE.1 hE.2.1 hS (hl.1.trans hml.symm) dX5_go_22 dX5_go_25 dX5_go_26 dX5_go_28 dX5_go_31 (fun x9 hx9 => (htb x9 hx9).elim) (Nat.le_of_ble_eq_true rfl) (Nat.le_of_ble_eq_true rfl) (Nat.le_of_ble_eq_true rfl) (Nat.le_of_ble_eq_true rfl) hlocks (fun t hal hz hk => ⟨(5, u_1), (Option.some.inj h).symm, ⟨rfl, wPre_up hP hD hK hA hS hz hk hal⟩, va_S_up hS hz hk⟩) hS.2.2 (Nat.le_of_ble_eq_true rfl) (Nat.le_of_ble_eq_true rfl)
