def pX2_pointerCount (Z : CZ) (u : CS) (a0 : Nat) : Int32 := (if (Uf u 0 a0) = (7 : Int32) then (Uf u 1 a0) else (Uf u 2 a0))
set_option maxHeartbeats 4000000 in
set_option maxRecDepth 100000 in
theorem ct_X2_pointerCount (l : Launch) (D : va_G) (c4 : Nat → ClassId) (A : Nat → Prop) (Z : CZ) (hZ : cok Z) (u : CS) (a0 : Nat) (ha0 : isF Z a0) (r : Int32) (h : pX2_pointerCount Z u a0 = r) : Met l yX2_pointerCount (wz yX2_pointerCount cX2_pointerCount 1 (some .int)) ({ frames := 0, cells := 0, slots := 0, locals := 0 } : Room) (va_Pc [.ref a0] (fun U => cPre D c4 A Z u U)) (vp_Si (fun q => q = r)) 0 0 (fun _ => False) := by
  refine Met.ofW (cc := cX2_pointerCount) (maxL := 1) (ret := (some .int)) (by decide) rfl ?_
  intro p e s m args below meth c s₁ B hml hv
  obtain ⟨rfl, ⟨hP, hD, hK, hA⟩, hE⟩ := hv
  have hx := B.exec
  have hb := B.bytes
  have hr := B.returns
  have hts := atoms_spec (ws := (wz yX2_pointerCount cX2_pointerCount 1 (some .int))) B.pre
  have hown : s.vm.findClass RX2 = some m.cls := findClass_of_methodNamed B.named
  have hlocks := B.notSynchronized
  have hS : va_S A s.heap s.heap [] := va_S.rf
  have hl := lv_entry ([.ref a0]) (n := 1) (Nat.le_of_ble_eq_true rfl)
  rw [lg_entry_eq]
  generalize (lg_sl ([.ref a0]) ++ List.replicate (1 - (lg_sl ([.ref a0])).length) Slot.unset).toArray = ls at hl ⊢
  have hl : lv_has ls 1 [(0, .ref a0)] := hl
  unfold pX2_pointerCount at h
  refine lv_aload_n hx hb dX2_pointerCount_0 rfl (lv_at hl 0 rfl) ?_
  obtain ⟨n_1, hn_1⟩ := cW_F (c4 := c4) (u := u) ha0
  refine va_get (D := D) (ci := 1) (v := .int (Uf u 0 a0)) (C := RX2) (T := TX2) (N := 7) hx hb hts (fun w h => wm (zin_X2 w h)) hown hK hP n_1 hn_1 rfl 0 (by decide) (hts _ (wm zw_70)) (fun _ h9 => h9) rfl dX2_pointerCount_1 ?_
  refine lv_bipush (v := (7 : Int32)) hx hb dX2_pointerCount_4 (by decide) ?_
  refine lv_icmp_ne (tgt := 16) hx hb dX2_pointerCount_6 (by decide) (fun c_2 => ?_) (fun c_2 => ?_)
  · skip
    rw [if_neg c_2] at h
    refine lv_aload_n hx hb dX2_pointerCount_16 rfl (lv_at hl 0 rfl) ?_
    obtain ⟨n_3, hn_3⟩ := cW_F (c4 := c4) (u := u) ha0
    refine va_get (D := D) (ci := 1) (v := .int (Uf u 2 a0)) (C := RX2) (T := TX2) (N := 7) hx hb hts (fun w h => wm (zin_X2 w h)) hown hK hP n_3 hn_3 rfl 2 (by decide) (hts _ (wm zw_78)) (fun _ h9 => h9) rfl dX2_pointerCount_17 ?_
    exact W.iret (v := (Uf u 2 a0)) hx hb hr (fun t ht hW => ⟨_, rfl, h, ht⟩) (fun _ hq => nomatch hq) dX2_pointerCount_20
  · skip
    rw [if_pos c_2] at h
    refine lv_aload_n hx hb dX2_pointerCount_9 rfl (lv_at hl 0 rfl) ?_
    obtain ⟨n_4, hn_4⟩ := cW_F (c4 := c4) (u := u) ha0
    refine va_get (D := D) (ci := 1) (v := .int (Uf u 1 a0)) (C := RX2) (T := TX2) (N := 7) hx hb hts (fun w h => wm (zin_X2 w h)) hown hK hP n_4 hn_4 rfl 1 (by decide) (hts _ (wm zw_74)) (fun _ h9 => h9) rfl dX2_pointerCount_10 ?_
    refine lv_goto (tgt := 20) hx hb dX2_pointerCount_13 (by decide) ?_
    exact W.iret (v := (Uf u 1 a0)) hx hb hr (fun t ht hW => ⟨_, rfl, h, ht⟩) (fun _ hq => nomatch hq) dX2_pointerCount_20
def pX2_firstPointer (Z : CZ) (u : CS) (a0 : Nat) : Int32 := (if (Uf u 0 a0) = 0 then ((Uf u 5 a0) + (Uf u 1 a0)) else (Uf u 5 a0))
set_option maxHeartbeats 4000000 in
set_option maxRecDepth 100000 in
theorem ct_X2_firstPointer (l : Launch) (D : va_G) (c4 : Nat → ClassId) (A : Nat → Prop) (Z : CZ) (hZ : cok Z) (u : CS) (a0 : Nat) (ha0 : isF Z a0) (r : Int32) (h : pX2_firstPointer Z u a0 = r) : Met l yX2_firstPointer (wz yX2_firstPointer cX2_firstPointer 1 (some .int)) ({ frames := 0, cells := 0, slots := 0, locals := 0 } : Room) (va_Pc [.ref a0] (fun U => cPre D c4 A Z u U)) (vp_Si (fun q => q = r)) 0 0 (fun _ => False) := by
  refine Met.ofW (cc := cX2_firstPointer) (maxL := 1) (ret := (some .int)) (by decide) rfl ?_
  intro p e s m args below meth c s₁ B hml hv
  obtain ⟨rfl, ⟨hP, hD, hK, hA⟩, hE⟩ := hv
  have hx := B.exec
  have hb := B.bytes
  have hr := B.returns
  have hts := atoms_spec (ws := (wz yX2_firstPointer cX2_firstPointer 1 (some .int))) B.pre
  have hown : s.vm.findClass RX2 = some m.cls := findClass_of_methodNamed B.named
  have hlocks := B.notSynchronized
  have hS : va_S A s.heap s.heap [] := va_S.rf
  have hl := lv_entry ([.ref a0]) (n := 1) (Nat.le_of_ble_eq_true rfl)
  rw [lg_entry_eq]
  generalize (lg_sl ([.ref a0]) ++ List.replicate (1 - (lg_sl ([.ref a0])).length) Slot.unset).toArray = ls at hl ⊢
  have hl : lv_has ls 1 [(0, .ref a0)] := hl
  unfold pX2_firstPointer at h
  refine lv_aload_n hx hb dX2_firstPointer_0 rfl (lv_at hl 0 rfl) ?_
  obtain ⟨n_1, hn_1⟩ := cW_F (c4 := c4) (u := u) ha0
  refine va_get (D := D) (ci := 1) (v := .int (Uf u 0 a0)) (C := RX2) (T := TX2) (N := 7) hx hb hts (fun w h => wm (zin_X2 w h)) hown hK hP n_1 hn_1 rfl 0 (by decide) (hts _ (wm zw_70)) (fun _ h9 => h9) rfl dX2_firstPointer_1 ?_
  refine lv_if_ne (tgt := 19) hx hb dX2_firstPointer_4 (by decide) (fun c_2 => ?_) (fun c_2 => ?_)
  · skip
    rw [if_neg c_2] at h
    refine lv_aload_n hx hb dX2_firstPointer_19 rfl (lv_at hl 0 rfl) ?_
    obtain ⟨n_3, hn_3⟩ := cW_F (c4 := c4) (u := u) ha0
    refine va_get (D := D) (ci := 1) (v := .int (Uf u 5 a0)) (C := RX2) (T := TX2) (N := 7) hx hb hts (fun w h => wm (zin_X2 w h)) hown hK hP n_3 hn_3 rfl 5 (by decide) (hts _ (wm zw_90)) (fun _ h9 => h9) rfl dX2_firstPointer_20 ?_
    exact W.iret (v := (Uf u 5 a0)) hx hb hr (fun t ht hW => ⟨_, rfl, h, ht⟩) (fun _ hq => nomatch hq) dX2_firstPointer_23
  · skip
    rw [if_pos c_2] at h
    refine lv_aload_n hx hb dX2_firstPointer_7 rfl (lv_at hl 0 rfl) ?_
    obtain ⟨n_4, hn_4⟩ := cW_F (c4 := c4) (u := u) ha0
    refine va_get (D := D) (ci := 1) (v := .int (Uf u 5 a0)) (C := RX2) (T := TX2) (N := 7) hx hb hts (fun w h => wm (zin_X2 w h)) hown hK hP n_4 hn_4 rfl 5 (by decide) (hts _ (wm zw_90)) (fun _ h9 => h9) rfl dX2_firstPointer_8 ?_
    refine lv_aload_n hx hb dX2_firstPointer_11 rfl (lv_at hl 0 rfl) ?_
    obtain ⟨n_5, hn_5⟩ := cW_F (c4 := c4) (u := u) ha0
    refine va_get (D := D) (ci := 1) (v := .int (Uf u 1 a0)) (C := RX2) (T := TX2) (N := 7) hx hb hts (fun w h => wm (zin_X2 w h)) hown hK hP n_5 hn_5 rfl 1 (by decide) (hts _ (wm zw_74)) (fun _ h9 => h9) rfl dX2_firstPointer_12 ?_
    refine lv_iadd hx hb dX2_firstPointer_15 ?_
    refine lv_goto (tgt := 23) hx hb dX2_firstPointer_16 (by decide) ?_
    exact W.iret (v := ((Uf u 5 a0) + (Uf u 1 a0))) hx hb hr (fun t ht hW => ⟨_, rfl, h, ht⟩) (fun _ hq => nomatch hq) dX2_firstPointer_23
def pX2_elementBegin (Z : CZ) (u : CS) (a0 : Nat) (a1 : Int32) : Int32 := ((Uf u 5 a0) + (a1 * ((Uf u 3 a0) + (Uf u 2 a0))))
set_option maxHeartbeats 4000000 in
set_option maxRecDepth 100000 in
theorem ct_X2_elementBegin (l : Launch) (D : va_G) (c4 : Nat → ClassId) (A : Nat → Prop) (Z : CZ) (hZ : cok Z) (u : CS) (a0 : Nat) (ha0 : isF Z a0) (a1 : Int32) (r : Int32) (h : pX2_elementBegin Z u a0 a1 = r) : Met l yX2_elementBegin (wz yX2_elementBegin cX2_elementBegin 2 (some .int)) ({ frames := 0, cells := 0, slots := 0, locals := 0 } : Room) (va_Pc [.ref a0, .int a1] (fun U => cPre D c4 A Z u U)) (vp_Si (fun q => q = r)) 0 0 (fun _ => False) := by
  refine Met.ofW (cc := cX2_elementBegin) (maxL := 2) (ret := (some .int)) (by decide) rfl ?_
  intro p e s m args below meth c s₁ B hml hv
  obtain ⟨rfl, ⟨hP, hD, hK, hA⟩, hE⟩ := hv
  have hx := B.exec
  have hb := B.bytes
  have hr := B.returns
  have hts := atoms_spec (ws := (wz yX2_elementBegin cX2_elementBegin 2 (some .int))) B.pre
  have hown : s.vm.findClass RX2 = some m.cls := findClass_of_methodNamed B.named
  have hlocks := B.notSynchronized
  have hS : va_S A s.heap s.heap [] := va_S.rf
  have hl := lv_entry ([.ref a0, .int a1]) (n := 2) (Nat.le_of_ble_eq_true rfl)
  rw [lg_entry_eq]
  generalize (lg_sl ([.ref a0, .int a1]) ++ List.replicate (2 - (lg_sl ([.ref a0, .int a1])).length) Slot.unset).toArray = ls at hl ⊢
  have hl : lv_has ls 2 [(0, .ref a0), (1, .int a1)] := hl
  unfold pX2_elementBegin at h
  refine lv_aload_n hx hb dX2_elementBegin_0 rfl (lv_at hl 0 rfl) ?_
  obtain ⟨n_1, hn_1⟩ := cW_F (c4 := c4) (u := u) ha0
  refine va_get (D := D) (ci := 1) (v := .int (Uf u 5 a0)) (C := RX2) (T := TX2) (N := 7) hx hb hts (fun w h => wm (zin_X2 w h)) hown hK hP n_1 hn_1 rfl 5 (by decide) (hts _ (wm zw_90)) (fun _ h9 => h9) rfl dX2_elementBegin_1 ?_
  refine lv_iload_n hx hb dX2_elementBegin_4 rfl (lv_at hl 1 rfl) ?_
  refine lv_aload_n hx hb dX2_elementBegin_5 rfl (lv_at hl 0 rfl) ?_
  obtain ⟨n_2, hn_2⟩ := cW_F (c4 := c4) (u := u) ha0
  refine va_get (D := D) (ci := 1) (v := .int (Uf u 3 a0)) (C := RX2) (T := TX2) (N := 7) hx hb hts (fun w h => wm (zin_X2 w h)) hown hK hP n_2 hn_2 rfl 3 (by decide) (hts _ (wm zw_82)) (fun _ h9 => h9) rfl dX2_elementBegin_6 ?_
  refine lv_aload_n hx hb dX2_elementBegin_9 rfl (lv_at hl 0 rfl) ?_
  obtain ⟨n_3, hn_3⟩ := cW_F (c4 := c4) (u := u) ha0
  refine va_get (D := D) (ci := 1) (v := .int (Uf u 2 a0)) (C := RX2) (T := TX2) (N := 7) hx hb hts (fun w h => wm (zin_X2 w h)) hown hK hP n_3 hn_3 rfl 2 (by decide) (hts _ (wm zw_78)) (fun _ h9 => h9) rfl dX2_elementBegin_10 ?_
  refine lv_iadd hx hb dX2_elementBegin_13 ?_
  refine lv_imul hx hb dX2_elementBegin_14 ?_
  refine lv_iadd hx hb dX2_elementBegin_15 ?_
  exact W.iret (v := ((Uf u 5 a0) + (a1 * ((Uf u 3 a0) + (Uf u 2 a0))))) hx hb hr (fun t ht hW => ⟨_, rfl, h, ht⟩) (fun _ hq => nomatch hq) dX2_elementBegin_16
def pX2_become (Z : CZ) (u : CS) (a0 : Nat) (a1 : Nat) : Option (CS × Unit) := ((some (Uf u 0 a1)).bind fun y_2 => ((some (Uf u 1 a1)).bind fun y_6 => ((some (Uf u 2 a1)).bind fun y_10 => ((some (Uf u 3 a1)).bind fun y_14 => ((some (Uf u 4 a1)).bind fun y_18 => ((some (Uf u 5 a1)).bind fun y_22 => ((some (Uf u 6 a1)).bind fun y_26 => some ((sF (sF (sF (sF (sF (sF (sF u 0 a0 y_2) 1 a0 y_6) 2 a0 y_10) 3 a0 y_14) 4 a0 y_18) 5 a0 y_22) 6 a0 y_26), ()))))))))
set_option maxHeartbeats 4000000 in
set_option maxRecDepth 100000 in
theorem ct_X2_become (l : Launch) (D : va_G) (c4 : Nat → ClassId) (A : Nat → Prop) (Z : CZ) (hZ : cok Z) (u : CS) (a0 : Nat) (ha0 : isF Z a0) (a1 : Nat) (ha1 : isF Z a1) (res : CS × Unit) (h : pX2_become Z u a0 a1 = some res) : Met l yX2_become (wz yX2_become cX2_become 2 none) ({ frames := 0, cells := 0, slots := 0, locals := 0 } : Room) (va_Pc [.ref a0, .ref a1] (fun U => cPre D c4 A Z u U)) (va_Qv (fun w => res = (w, ())) (fun w t => wPre D c4 A (cW c4 Z w) t) A) 0 0 A := by
  refine Met.ofW (cc := cX2_become) (maxL := 2) (ret := none) (by decide) rfl ?_
  intro p e s m args below meth c s₁ B hml hv
  obtain ⟨rfl, ⟨hP, hD, hK, hA⟩, hE⟩ := hv
  have hx := B.exec
  have hb := B.bytes
  have hr := B.returns
  have hts := atoms_spec (ws := (wz yX2_become cX2_become 2 none)) B.pre
  have hown : s.vm.findClass RX2 = some m.cls := findClass_of_methodNamed B.named
  have hlocks := B.notSynchronized
  have hS : va_S A s.heap s.heap [] := va_S.rf
  have hl := lv_entry ([.ref a0, .ref a1]) (n := 2) (Nat.le_of_ble_eq_true rfl)
  rw [lg_entry_eq]
  generalize (lg_sl ([.ref a0, .ref a1]) ++ List.replicate (2 - (lg_sl ([.ref a0, .ref a1])).length) Slot.unset).toArray = ls at hl ⊢
  have hl : lv_has ls 2 [(0, .ref a0), (1, .ref a1)] := hl
  unfold pX2_become at h
  refine lv_aload_n hx hb dX2_become_0 rfl (lv_at hl 0 rfl) ?_
  refine lv_aload_n hx hb dX2_become_1 rfl (lv_at hl 1 rfl) ?_
  obtain ⟨n_1, hn_1⟩ := cW_F (c4 := c4) (u := u) ha1
  refine va_get (D := D) (ci := 1) (v := .int (Uf u 0 a1)) (C := RX2) (T := TX2) (N := 7) hx hb hts (fun w h => wm (zin_X2 w h)) hown hK hP n_1 hn_1 rfl 0 (by decide) (hts _ (wm zw_70)) (fun _ h9 => h9) rfl dX2_become_2 ?_
  obtain ⟨y_2, e_2, h⟩ := zb_bind h
  try dsimp only at h
  refine zt_i (Option.some.inj e_2) ?_
  obtain ⟨n_3, hn_3⟩ := cW_F (c4 := c4) (u := u) ha0
  refine va_put (D := D) (ci := 1) (v := .int y_2) (ty := .int) (C := RX2) (T := TX2) (N := 7) hx hb hts (fun w h => wm (zin_X2 w h)) tyX2 tyX2_ok nmX2 hown hK hP hD hS n_3 hn_3 rfl 0 (by decide) (hts _ (wm zw_70)) (fun _ h9 => h9) rfl (by decide +kernel) rfl rfl (Nat.le_of_ble_eq_true rfl) dX2_become_5 (fun H locs hP hD hS => ?_)
  have hq := fun (hd : va_D A (cW c4 Z u)) => cW_setF (A := A) (k := 0) (v := y_2) hd ha0 hn_3 (by decide)
  have hD0 : va_D A (cW c4 Z u) := by assumption
  have hP : va_P D vwCl (cW c4 Z (sF u 0 a0 y_2)) H := by rw [← hq hD0]; exact hP
  have hD : va_D A (cW c4 Z (sF u 0 a0 y_2)) := by rw [← hq hD0]; exact hD
  refine lv_aload_n hx hb dX2_become_8 rfl (lv_at hl 0 rfl) ?_
  refine lv_aload_n hx hb dX2_become_9 rfl (lv_at hl 1 rfl) ?_
  obtain ⟨n_5, hn_5⟩ := cW_F (c4 := c4) (u := (sF u 0 a0 y_2)) ha1
  refine va_get (D := D) (ci := 1) (v := .int (Uf u 1 a1)) (C := RX2) (T := TX2) (N := 7) hx hb hts (fun w h => wm (zin_X2 w h)) hown hK hP n_5 hn_5 rfl 1 (by decide) (hts _ (wm zw_74)) (fun _ h9 => h9) rfl dX2_become_10 ?_
  obtain ⟨y_6, e_6, h⟩ := zb_bind h
  try dsimp only at h
  refine zt_i (Option.some.inj e_6) ?_
  obtain ⟨n_7, hn_7⟩ := cW_F (c4 := c4) (u := (sF u 0 a0 y_2)) ha0
  refine va_put (D := D) (ci := 1) (v := .int y_6) (ty := .int) (C := RX2) (T := TX2) (N := 7) hx hb hts (fun w h => wm (zin_X2 w h)) tyX2 tyX2_ok nmX2 hown hK hP hD hS n_7 hn_7 rfl 1 (by decide) (hts _ (wm zw_74)) (fun _ h9 => h9) rfl (by decide +kernel) rfl rfl (Nat.le_of_ble_eq_true rfl) dX2_become_13 (fun H locs hP hD hS => ?_)
  have hq := fun (hd : va_D A (cW c4 Z (sF u 0 a0 y_2))) => cW_setF (A := A) (k := 1) (v := y_6) hd ha0 hn_7 (by decide)
  have hD0 : va_D A (cW c4 Z (sF u 0 a0 y_2)) := by assumption
  have hP : va_P D vwCl (cW c4 Z (sF (sF u 0 a0 y_2) 1 a0 y_6)) H := by rw [← hq hD0]; exact hP
  have hD : va_D A (cW c4 Z (sF (sF u 0 a0 y_2) 1 a0 y_6)) := by rw [← hq hD0]; exact hD
  refine lv_aload_n hx hb dX2_become_16 rfl (lv_at hl 0 rfl) ?_
  refine lv_aload_n hx hb dX2_become_17 rfl (lv_at hl 1 rfl) ?_
  obtain ⟨n_9, hn_9⟩ := cW_F (c4 := c4) (u := (sF (sF u 0 a0 y_2) 1 a0 y_6)) ha1
  refine va_get (D := D) (ci := 1) (v := .int (Uf u 2 a1)) (C := RX2) (T := TX2) (N := 7) hx hb hts (fun w h => wm (zin_X2 w h)) hown hK hP n_9 hn_9 rfl 2 (by decide) (hts _ (wm zw_78)) (fun _ h9 => h9) rfl dX2_become_18 ?_
  obtain ⟨y_10, e_10, h⟩ := zb_bind h
  try dsimp only at h
  refine zt_i (Option.some.inj e_10) ?_
  obtain ⟨n_11, hn_11⟩ := cW_F (c4 := c4) (u := (sF (sF u 0 a0 y_2) 1 a0 y_6)) ha0
  refine va_put (D := D) (ci := 1) (v := .int y_10) (ty := .int) (C := RX2) (T := TX2) (N := 7) hx hb hts (fun w h => wm (zin_X2 w h)) tyX2 tyX2_ok nmX2 hown hK hP hD hS n_11 hn_11 rfl 2 (by decide) (hts _ (wm zw_78)) (fun _ h9 => h9) rfl (by decide +kernel) rfl rfl (Nat.le_of_ble_eq_true rfl) dX2_become_21 (fun H locs hP hD hS => ?_)
  have hq := fun (hd : va_D A (cW c4 Z (sF (sF u 0 a0 y_2) 1 a0 y_6))) => cW_setF (A := A) (k := 2) (v := y_10) hd ha0 hn_11 (by decide)
  have hD0 : va_D A (cW c4 Z (sF (sF u 0 a0 y_2) 1 a0 y_6)) := by assumption
  have hP : va_P D vwCl (cW c4 Z (sF (sF (sF u 0 a0 y_2) 1 a0 y_6) 2 a0 y_10)) H := by rw [← hq hD0]; exact hP
  have hD : va_D A (cW c4 Z (sF (sF (sF u 0 a0 y_2) 1 a0 y_6) 2 a0 y_10)) := by rw [← hq hD0]; exact hD
  refine lv_aload_n hx hb dX2_become_24 rfl (lv_at hl 0 rfl) ?_
  refine lv_aload_n hx hb dX2_become_25 rfl (lv_at hl 1 rfl) ?_
  obtain ⟨n_13, hn_13⟩ := cW_F (c4 := c4) (u := (sF (sF (sF u 0 a0 y_2) 1 a0 y_6) 2 a0 y_10)) ha1
  refine va_get (D := D) (ci := 1) (v := .int (Uf u 3 a1)) (C := RX2) (T := TX2) (N := 7) hx hb hts (fun w h => wm (zin_X2 w h)) hown hK hP n_13 hn_13 rfl 3 (by decide) (hts _ (wm zw_82)) (fun _ h9 => h9) rfl dX2_become_26 ?_
  obtain ⟨y_14, e_14, h⟩ := zb_bind h
  try dsimp only at h
  refine zt_i (Option.some.inj e_14) ?_
  obtain ⟨n_15, hn_15⟩ := cW_F (c4 := c4) (u := (sF (sF (sF u 0 a0 y_2) 1 a0 y_6) 2 a0 y_10)) ha0
  refine va_put (D := D) (ci := 1) (v := .int y_14) (ty := .int) (C := RX2) (T := TX2) (N := 7) hx hb hts (fun w h => wm (zin_X2 w h)) tyX2 tyX2_ok nmX2 hown hK hP hD hS n_15 hn_15 rfl 3 (by decide) (hts _ (wm zw_82)) (fun _ h9 => h9) rfl (by decide +kernel) rfl rfl (Nat.le_of_ble_eq_true rfl) dX2_become_29 (fun H locs hP hD hS => ?_)
  have hq := fun (hd : va_D A (cW c4 Z (sF (sF (sF u 0 a0 y_2) 1 a0 y_6) 2 a0 y_10))) => cW_setF (A := A) (k := 3) (v := y_14) hd ha0 hn_15 (by decide)
  have hD0 : va_D A (cW c4 Z (sF (sF (sF u 0 a0 y_2) 1 a0 y_6) 2 a0 y_10)) := by assumption
  have hP : va_P D vwCl (cW c4 Z (sF (sF (sF (sF u 0 a0 y_2) 1 a0 y_6) 2 a0 y_10) 3 a0 y_14)) H := by rw [← hq hD0]; exact hP
  have hD : va_D A (cW c4 Z (sF (sF (sF (sF u 0 a0 y_2) 1 a0 y_6) 2 a0 y_10) 3 a0 y_14)) := by rw [← hq hD0]; exact hD
  refine lv_aload_n hx hb dX2_become_32 rfl (lv_at hl 0 rfl) ?_
  refine lv_aload_n hx hb dX2_become_33 rfl (lv_at hl 1 rfl) ?_
  obtain ⟨n_17, hn_17⟩ := cW_F (c4 := c4) (u := (sF (sF (sF (sF u 0 a0 y_2) 1 a0 y_6) 2 a0 y_10) 3 a0 y_14)) ha1
  refine va_get (D := D) (ci := 1) (v := .int (Uf u 4 a1)) (C := RX2) (T := TX2) (N := 7) hx hb hts (fun w h => wm (zin_X2 w h)) hown hK hP n_17 hn_17 rfl 4 (by decide) (hts _ (wm zw_87)) (fun _ h9 => h9) rfl dX2_become_34 ?_
  obtain ⟨y_18, e_18, h⟩ := zb_bind h
  try dsimp only at h
  refine zt_i (Option.some.inj e_18) ?_
  obtain ⟨n_19, hn_19⟩ := cW_F (c4 := c4) (u := (sF (sF (sF (sF u 0 a0 y_2) 1 a0 y_6) 2 a0 y_10) 3 a0 y_14)) ha0
  refine va_put (D := D) (ci := 1) (v := .int y_18) (ty := .int) (C := RX2) (T := TX2) (N := 7) hx hb hts (fun w h => wm (zin_X2 w h)) tyX2 tyX2_ok nmX2 hown hK hP hD hS n_19 hn_19 rfl 4 (by decide) (hts _ (wm zw_87)) (fun _ h9 => h9) rfl (by decide +kernel) rfl rfl (Nat.le_of_ble_eq_true rfl) dX2_become_37 (fun H locs hP hD hS => ?_)
  have hq := fun (hd : va_D A (cW c4 Z (sF (sF (sF (sF u 0 a0 y_2) 1 a0 y_6) 2 a0 y_10) 3 a0 y_14))) => cW_setF (A := A) (k := 4) (v := y_18) hd ha0 hn_19 (by decide)
  have hD0 : va_D A (cW c4 Z (sF (sF (sF (sF u 0 a0 y_2) 1 a0 y_6) 2 a0 y_10) 3 a0 y_14)) := by assumption
  have hP : va_P D vwCl (cW c4 Z (sF (sF (sF (sF (sF u 0 a0 y_2) 1 a0 y_6) 2 a0 y_10) 3 a0 y_14) 4 a0 y_18)) H := by rw [← hq hD0]; exact hP
  have hD : va_D A (cW c4 Z (sF (sF (sF (sF (sF u 0 a0 y_2) 1 a0 y_6) 2 a0 y_10) 3 a0 y_14) 4 a0 y_18)) := by rw [← hq hD0]; exact hD
  refine lv_aload_n hx hb dX2_become_40 rfl (lv_at hl 0 rfl) ?_
  refine lv_aload_n hx hb dX2_become_41 rfl (lv_at hl 1 rfl) ?_
  obtain ⟨n_21, hn_21⟩ := cW_F (c4 := c4) (u := (sF (sF (sF (sF (sF u 0 a0 y_2) 1 a0 y_6) 2 a0 y_10) 3 a0 y_14) 4 a0 y_18)) ha1
  refine va_get (D := D) (ci := 1) (v := .int (Uf u 5 a1)) (C := RX2) (T := TX2) (N := 7) hx hb hts (fun w h => wm (zin_X2 w h)) hown hK hP n_21 hn_21 rfl 5 (by decide) (hts _ (wm zw_90)) (fun _ h9 => h9) rfl dX2_become_42 ?_
  obtain ⟨y_22, e_22, h⟩ := zb_bind h
  try dsimp only at h
  refine zt_i (Option.some.inj e_22) ?_
  obtain ⟨n_23, hn_23⟩ := cW_F (c4 := c4) (u := (sF (sF (sF (sF (sF u 0 a0 y_2) 1 a0 y_6) 2 a0 y_10) 3 a0 y_14) 4 a0 y_18)) ha0
  refine va_put (D := D) (ci := 1) (v := .int y_22) (ty := .int) (C := RX2) (T := TX2) (N := 7) hx hb hts (fun w h => wm (zin_X2 w h)) tyX2 tyX2_ok nmX2 hown hK hP hD hS n_23 hn_23 rfl 5 (by decide) (hts _ (wm zw_90)) (fun _ h9 => h9) rfl (by decide +kernel) rfl rfl (Nat.le_of_ble_eq_true rfl) dX2_become_45 (fun H locs hP hD hS => ?_)
  have hq := fun (hd : va_D A (cW c4 Z (sF (sF (sF (sF (sF u 0 a0 y_2) 1 a0 y_6) 2 a0 y_10) 3 a0 y_14) 4 a0 y_18))) => cW_setF (A := A) (k := 5) (v := y_22) hd ha0 hn_23 (by decide)
  have hD0 : va_D A (cW c4 Z (sF (sF (sF (sF (sF u 0 a0 y_2) 1 a0 y_6) 2 a0 y_10) 3 a0 y_14) 4 a0 y_18)) := by assumption
  have hP : va_P D vwCl (cW c4 Z (sF (sF (sF (sF (sF (sF u 0 a0 y_2) 1 a0 y_6) 2 a0 y_10) 3 a0 y_14) 4 a0 y_18) 5 a0 y_22)) H := by rw [← hq hD0]; exact hP
  have hD : va_D A (cW c4 Z (sF (sF (sF (sF (sF (sF u 0 a0 y_2) 1 a0 y_6) 2 a0 y_10) 3 a0 y_14) 4 a0 y_18) 5 a0 y_22)) := by rw [← hq hD0]; exact hD
  refine lv_aload_n hx hb dX2_become_48 rfl (lv_at hl 0 rfl) ?_
  refine lv_aload_n hx hb dX2_become_49 rfl (lv_at hl 1 rfl) ?_
  obtain ⟨n_25, hn_25⟩ := cW_F (c4 := c4) (u := (sF (sF (sF (sF (sF (sF u 0 a0 y_2) 1 a0 y_6) 2 a0 y_10) 3 a0 y_14) 4 a0 y_18) 5 a0 y_22)) ha1
  refine va_get (D := D) (ci := 1) (v := .int (Uf u 6 a1)) (C := RX2) (T := TX2) (N := 7) hx hb hts (fun w h => wm (zin_X2 w h)) hown hK hP n_25 hn_25 rfl 6 (by decide) (hts _ (wm zw_95)) (fun _ h9 => h9) rfl dX2_become_50 ?_
  obtain ⟨y_26, e_26, h⟩ := zb_bind h
  try dsimp only at h
  refine zt_i (Option.some.inj e_26) ?_
  obtain ⟨n_27, hn_27⟩ := cW_F (c4 := c4) (u := (sF (sF (sF (sF (sF (sF u 0 a0 y_2) 1 a0 y_6) 2 a0 y_10) 3 a0 y_14) 4 a0 y_18) 5 a0 y_22)) ha0
  refine va_put (D := D) (ci := 1) (v := .int y_26) (ty := .int) (C := RX2) (T := TX2) (N := 7) hx hb hts (fun w h => wm (zin_X2 w h)) tyX2 tyX2_ok nmX2 hown hK hP hD hS n_27 hn_27 rfl 6 (by decide) (hts _ (wm zw_95)) (fun _ h9 => h9) rfl (by decide +kernel) rfl rfl (Nat.le_of_ble_eq_true rfl) dX2_become_53 (fun H locs hP hD hS => ?_)
  have hq := fun (hd : va_D A (cW c4 Z (sF (sF (sF (sF (sF (sF u 0 a0 y_2) 1 a0 y_6) 2 a0 y_10) 3 a0 y_14) 4 a0 y_18) 5 a0 y_22))) => cW_setF (A := A) (k := 6) (v := y_26) hd ha0 hn_27 (by decide)
  have hD0 : va_D A (cW c4 Z (sF (sF (sF (sF (sF (sF u 0 a0 y_2) 1 a0 y_6) 2 a0 y_10) 3 a0 y_14) 4 a0 y_18) 5 a0 y_22)) := by assumption
  have hP : va_P D vwCl (cW c4 Z (sF (sF (sF (sF (sF (sF (sF u 0 a0 y_2) 1 a0 y_6) 2 a0 y_10) 3 a0 y_14) 4 a0 y_18) 5 a0 y_22) 6 a0 y_26)) H := by rw [← hq hD0]; exact hP
  have hD : va_D A (cW c4 Z (sF (sF (sF (sF (sF (sF (sF u 0 a0 y_2) 1 a0 y_6) 2 a0 y_10) 3 a0 y_14) 4 a0 y_18) 5 a0 y_22) 6 a0 y_26)) := by rw [← hq hD0]; exact hD
  exact W.vret hx hb hr (fun t ht hW => ⟨⟨(sF (sF (sF (sF (sF (sF (sF u 0 a0 y_2) 1 a0 y_6) 2 a0 y_10) 3 a0 y_14) 4 a0 y_18) 5 a0 y_22) 6 a0 y_26), rfl, (Option.some.inj h).symm, wPre_go hP hD hK hA hS ht hW.alike⟩, hS.F ht⟩) hS.2.2 dX2_become_56
def pX2_becomeElement (Z : CZ) (u : CS) (a0 : Nat) (a1 : Nat) (a2 : Int32) : Option (CS × Unit) := ((some (Uf u 3 a1)).bind fun y_4 => ((some (Uf u 2 a1)).bind fun y_8 => ((some (Uf u 4 a1)).bind fun y_14 => ((some (pX2_elementBegin Z (sF (sF (sF (sF (sF u 0 a0 (0 : Int32)) 1 a0 y_4) 2 a0 y_8) 3 a0 (0 : Int32)) 4 a0 y_14) a1 a2)).bind fun y_19 => ((some (Uf u 6 a1)).bind fun y_23 => some ((sF (sF (sF (sF (sF (sF (sF u 0 a0 (0 : Int32)) 1 a0 y_4) 2 a0 y_8) 3 a0 (0 : Int32)) 4 a0 y_14) 5 a0 y_19) 6 a0 y_23), ()))))))
set_option maxHeartbeats 4000000 in
set_option maxRecDepth 100000 in
theorem ct_X2_becomeElement (l : Launch) (D : va_G) (c4 : Nat → ClassId) (A : Nat → Prop) (Z : CZ) (hZ : cok Z) (u : CS) (a0 : Nat) (ha0 : isF Z a0) (a1 : Nat) (ha1 : isF Z a1) (a2 : Int32) (res : CS × Unit) (h : pX2_becomeElement Z u a0 a1 a2 = some res) : Met l yX2_becomeElement (wz yX2_becomeElement cX2_becomeElement 3 none) ({ frames := 1, cells := 0, slots := 0, locals := 21 } : Room) (va_Pc [.ref a0, .ref a1, .int a2] (fun U => cPre D c4 A Z u U)) (va_Qv (fun w => res = (w, ())) (fun w t => wPre D c4 A (cW c4 Z w) t) A) 0 0 A := by
  refine Met.ofW (cc := cX2_becomeElement) (maxL := 3) (ret := none) (by decide) rfl ?_
  intro p e s m args below meth c s₁ B hml hv
  obtain ⟨rfl, ⟨hP, hD, hK, hA⟩, hE⟩ := hv
  have hx := B.exec
  have hb := B.bytes
  have hr := B.returns
  have hts := atoms_spec (ws := (wz yX2_becomeElement cX2_becomeElement 3 none)) B.pre
  have hown : s.vm.findClass RX2 = some m.cls := findClass_of_methodNamed B.named
  have hlocks := B.notSynchronized
  have hS : va_S A s.heap s.heap [] := va_S.rf
  have hl := lv_entry ([.ref a0, .ref a1, .int a2]) (n := 3) (Nat.le_of_ble_eq_true rfl)
  rw [lg_entry_eq]
  generalize (lg_sl ([.ref a0, .ref a1, .int a2]) ++ List.replicate (3 - (lg_sl ([.ref a0, .ref a1, .int a2])).length) Slot.unset).toArray = ls at hl ⊢
  have hl : lv_has ls 3 [(0, .ref a0), (1, .ref a1), (2, .int a2)] := hl
  unfold pX2_becomeElement at h
  refine lv_aload_n hx hb dX2_becomeElement_0 rfl (lv_at hl 0 rfl) ?_
  refine lv_iconst (v := (0 : Int32)) hx hb dX2_becomeElement_1 (by decide) ?_
  obtain ⟨n_1, hn_1⟩ := cW_F (c4 := c4) (u := u) ha0
  refine va_put (D := D) (ci := 1) (v := .int (0 : Int32)) (ty := .int) (C := RX2) (T := TX2) (N := 7) hx hb hts (fun w h => wm (zin_X2 w h)) tyX2 tyX2_ok nmX2 hown hK hP hD hS n_1 hn_1 rfl 0 (by decide) (hts _ (wm zw_70)) (fun _ h9 => h9) rfl (by decide +kernel) rfl rfl (Nat.le_of_ble_eq_true rfl) dX2_becomeElement_2 (fun H locs hP hD hS => ?_)
  have hq := fun (hd : va_D A (cW c4 Z u)) => cW_setF (A := A) (k := 0) (v := (0 : Int32)) hd ha0 hn_1 (by decide)
  have hD0 : va_D A (cW c4 Z u) := by assumption
  have hP : va_P D vwCl (cW c4 Z (sF u 0 a0 (0 : Int32))) H := by rw [← hq hD0]; exact hP
  have hD : va_D A (cW c4 Z (sF u 0 a0 (0 : Int32))) := by rw [← hq hD0]; exact hD
  refine lv_aload_n hx hb dX2_becomeElement_5 rfl (lv_at hl 0 rfl) ?_
  refine lv_aload_n hx hb dX2_becomeElement_6 rfl (lv_at hl 1 rfl) ?_
  obtain ⟨n_3, hn_3⟩ := cW_F (c4 := c4) (u := (sF u 0 a0 (0 : Int32))) ha1
  refine va_get (D := D) (ci := 1) (v := .int (Uf u 3 a1)) (C := RX2) (T := TX2) (N := 7) hx hb hts (fun w h => wm (zin_X2 w h)) hown hK hP n_3 hn_3 rfl 3 (by decide) (hts _ (wm zw_82)) (fun _ h9 => h9) rfl dX2_becomeElement_7 ?_
  obtain ⟨y_4, e_4, h⟩ := zb_bind h
  try dsimp only at h
  refine zt_i (Option.some.inj e_4) ?_
  obtain ⟨n_5, hn_5⟩ := cW_F (c4 := c4) (u := (sF u 0 a0 (0 : Int32))) ha0
  refine va_put (D := D) (ci := 1) (v := .int y_4) (ty := .int) (C := RX2) (T := TX2) (N := 7) hx hb hts (fun w h => wm (zin_X2 w h)) tyX2 tyX2_ok nmX2 hown hK hP hD hS n_5 hn_5 rfl 1 (by decide) (hts _ (wm zw_74)) (fun _ h9 => h9) rfl (by decide +kernel) rfl rfl (Nat.le_of_ble_eq_true rfl) dX2_becomeElement_10 (fun H locs hP hD hS => ?_)
  have hq := fun (hd : va_D A (cW c4 Z (sF u 0 a0 (0 : Int32)))) => cW_setF (A := A) (k := 1) (v := y_4) hd ha0 hn_5 (by decide)
  have hD0 : va_D A (cW c4 Z (sF u 0 a0 (0 : Int32))) := by assumption
  have hP : va_P D vwCl (cW c4 Z (sF (sF u 0 a0 (0 : Int32)) 1 a0 y_4)) H := by rw [← hq hD0]; exact hP
  have hD : va_D A (cW c4 Z (sF (sF u 0 a0 (0 : Int32)) 1 a0 y_4)) := by rw [← hq hD0]; exact hD
  refine lv_aload_n hx hb dX2_becomeElement_13 rfl (lv_at hl 0 rfl) ?_
  refine lv_aload_n hx hb dX2_becomeElement_14 rfl (lv_at hl 1 rfl) ?_
  obtain ⟨n_7, hn_7⟩ := cW_F (c4 := c4) (u := (sF (sF u 0 a0 (0 : Int32)) 1 a0 y_4)) ha1
  refine va_get (D := D) (ci := 1) (v := .int (Uf u 2 a1)) (C := RX2) (T := TX2) (N := 7) hx hb hts (fun w h => wm (zin_X2 w h)) hown hK hP n_7 hn_7 rfl 2 (by decide) (hts _ (wm zw_78)) (fun _ h9 => h9) rfl dX2_becomeElement_15 ?_
  obtain ⟨y_8, e_8, h⟩ := zb_bind h
  try dsimp only at h
  refine zt_i (Option.some.inj e_8) ?_
  obtain ⟨n_9, hn_9⟩ := cW_F (c4 := c4) (u := (sF (sF u 0 a0 (0 : Int32)) 1 a0 y_4)) ha0
  refine va_put (D := D) (ci := 1) (v := .int y_8) (ty := .int) (C := RX2) (T := TX2) (N := 7) hx hb hts (fun w h => wm (zin_X2 w h)) tyX2 tyX2_ok nmX2 hown hK hP hD hS n_9 hn_9 rfl 2 (by decide) (hts _ (wm zw_78)) (fun _ h9 => h9) rfl (by decide +kernel) rfl rfl (Nat.le_of_ble_eq_true rfl) dX2_becomeElement_18 (fun H locs hP hD hS => ?_)
  have hq := fun (hd : va_D A (cW c4 Z (sF (sF u 0 a0 (0 : Int32)) 1 a0 y_4))) => cW_setF (A := A) (k := 2) (v := y_8) hd ha0 hn_9 (by decide)
  have hD0 : va_D A (cW c4 Z (sF (sF u 0 a0 (0 : Int32)) 1 a0 y_4)) := by assumption
  have hP : va_P D vwCl (cW c4 Z (sF (sF (sF u 0 a0 (0 : Int32)) 1 a0 y_4) 2 a0 y_8)) H := by rw [← hq hD0]; exact hP
  have hD : va_D A (cW c4 Z (sF (sF (sF u 0 a0 (0 : Int32)) 1 a0 y_4) 2 a0 y_8)) := by rw [← hq hD0]; exact hD
  refine lv_aload_n hx hb dX2_becomeElement_21 rfl (lv_at hl 0 rfl) ?_
  refine lv_iconst (v := (0 : Int32)) hx hb dX2_becomeElement_22 (by decide) ?_
  obtain ⟨n_11, hn_11⟩ := cW_F (c4 := c4) (u := (sF (sF (sF u 0 a0 (0 : Int32)) 1 a0 y_4) 2 a0 y_8)) ha0
  refine va_put (D := D) (ci := 1) (v := .int (0 : Int32)) (ty := .int) (C := RX2) (T := TX2) (N := 7) hx hb hts (fun w h => wm (zin_X2 w h)) tyX2 tyX2_ok nmX2 hown hK hP hD hS n_11 hn_11 rfl 3 (by decide) (hts _ (wm zw_82)) (fun _ h9 => h9) rfl (by decide +kernel) rfl rfl (Nat.le_of_ble_eq_true rfl) dX2_becomeElement_23 (fun H locs hP hD hS => ?_)
  have hq := fun (hd : va_D A (cW c4 Z (sF (sF (sF u 0 a0 (0 : Int32)) 1 a0 y_4) 2 a0 y_8))) => cW_setF (A := A) (k := 3) (v := (0 : Int32)) hd ha0 hn_11 (by decide)
  have hD0 : va_D A (cW c4 Z (sF (sF (sF u 0 a0 (0 : Int32)) 1 a0 y_4) 2 a0 y_8)) := by assumption
  have hP : va_P D vwCl (cW c4 Z (sF (sF (sF (sF u 0 a0 (0 : Int32)) 1 a0 y_4) 2 a0 y_8) 3 a0 (0 : Int32))) H := by rw [← hq hD0]; exact hP
  have hD : va_D A (cW c4 Z (sF (sF (sF (sF u 0 a0 (0 : Int32)) 1 a0 y_4) 2 a0 y_8) 3 a0 (0 : Int32))) := by rw [← hq hD0]; exact hD
  refine lv_aload_n hx hb dX2_becomeElement_26 rfl (lv_at hl 0 rfl) ?_
  refine lv_aload_n hx hb dX2_becomeElement_27 rfl (lv_at hl 1 rfl) ?_
  obtain ⟨n_13, hn_13⟩ := cW_F (c4 := c4) (u := (sF (sF (sF (sF u 0 a0 (0 : Int32)) 1 a0 y_4) 2 a0 y_8) 3 a0 (0 : Int32))) ha1
  refine va_get (D := D) (ci := 1) (v := .int (Uf u 4 a1)) (C := RX2) (T := TX2) (N := 7) hx hb hts (fun w h => wm (zin_X2 w h)) hown hK hP n_13 hn_13 rfl 4 (by decide) (hts _ (wm zw_87)) (fun _ h9 => h9) rfl dX2_becomeElement_28 ?_
  obtain ⟨y_14, e_14, h⟩ := zb_bind h
  try dsimp only at h
  refine zt_i (Option.some.inj e_14) ?_
  obtain ⟨n_15, hn_15⟩ := cW_F (c4 := c4) (u := (sF (sF (sF (sF u 0 a0 (0 : Int32)) 1 a0 y_4) 2 a0 y_8) 3 a0 (0 : Int32))) ha0
  refine va_put (D := D) (ci := 1) (v := .int y_14) (ty := .int) (C := RX2) (T := TX2) (N := 7) hx hb hts (fun w h => wm (zin_X2 w h)) tyX2 tyX2_ok nmX2 hown hK hP hD hS n_15 hn_15 rfl 4 (by decide) (hts _ (wm zw_87)) (fun _ h9 => h9) rfl (by decide +kernel) rfl rfl (Nat.le_of_ble_eq_true rfl) dX2_becomeElement_31 (fun H locs hP hD hS => ?_)
  have hq := fun (hd : va_D A (cW c4 Z (sF (sF (sF (sF u 0 a0 (0 : Int32)) 1 a0 y_4) 2 a0 y_8) 3 a0 (0 : Int32)))) => cW_setF (A := A) (k := 4) (v := y_14) hd ha0 hn_15 (by decide)
  have hD0 : va_D A (cW c4 Z (sF (sF (sF (sF u 0 a0 (0 : Int32)) 1 a0 y_4) 2 a0 y_8) 3 a0 (0 : Int32))) := by assumption
  have hP : va_P D vwCl (cW c4 Z (sF (sF (sF (sF (sF u 0 a0 (0 : Int32)) 1 a0 y_4) 2 a0 y_8) 3 a0 (0 : Int32)) 4 a0 y_14)) H := by rw [← hq hD0]; exact hP
  have hD : va_D A (cW c4 Z (sF (sF (sF (sF (sF u 0 a0 (0 : Int32)) 1 a0 y_4) 2 a0 y_8) 3 a0 (0 : Int32)) 4 a0 y_14)) := by rw [← hq hD0]; exact hD
  refine lv_aload_n hx hb dX2_becomeElement_34 rfl (lv_at hl 0 rfl) ?_
  refine lv_aload_n hx hb dX2_becomeElement_35 rfl (lv_at hl 1 rfl) ?_
  refine lv_iload_n hx hb dX2_becomeElement_36 rfl (lv_at hl 2 rfl) ?_
  obtain ⟨n_18, hn_18⟩ := cW_F (c4 := c4) (u := (sF (sF (sF (sF (sF u 0 a0 (0 : Int32)) 1 a0 y_4) 2 a0 y_8) 3 a0 (0 : Int32)) 4 a0 y_14)) ha1
  refine vp_callSi (W.runV (As := [.int a2]) (rest := [.ref a0]) ⟨hx, hb, hml, hown, hts⟩ (ct_X2_elementBegin l D c4 A Z hZ (sF (sF (sF (sF (sF u 0 a0 (0 : Int32)) 1 a0 y_4) 2 a0 y_8) 3 a0 (0 : Int32)) 4 a0 y_14) a1 ha1 a2 _ rfl) (cwV 1 hts (wz_V zw_536 zw_537 zw_538 zw_5 zw_539) rfl rfl rfl (by decide +kernel) ⟨Nat.le_of_ble_eq_true rfl, Nat.le_of_ble_eq_true rfl⟩) ⟨fbC, va_recv hK hP (ci := 1) (q0 := n_18) rfl hn_18, fun U9 hU hW => ⟨rfl, goC hP hD hK hA hE hS hU hW⟩⟩ rfl rfl hl.1 rfl (lv_room (Nat.le_of_ble_eq_true rfl)) dX2_becomeElement_37 ⟨Nat.le_of_ble_eq_true rfl, Nat.le_of_ble_eq_true rfl⟩) (fun r_17 e_17 => ?_)
  subst e_17
  obtain ⟨y_19, e_19, h⟩ := zb_bind h
  try dsimp only at h
  refine zt_i (Option.some.inj e_19) ?_
  obtain ⟨n_20, hn_20⟩ := cW_F (c4 := c4) (u := (sF (sF (sF (sF (sF u 0 a0 (0 : Int32)) 1 a0 y_4) 2 a0 y_8) 3 a0 (0 : Int32)) 4 a0 y_14)) ha0
  refine va_put (D := D) (ci := 1) (v := .int y_19) (ty := .int) (C := RX2) (T := TX2) (N := 7) hx hb hts (fun w h => wm (zin_X2 w h)) tyX2 tyX2_ok nmX2 hown hK hP hD hS n_20 hn_20 rfl 5 (by decide) (hts _ (wm zw_90)) (fun _ h9 => h9) rfl (by decide +kernel) rfl rfl (Nat.le_of_ble_eq_true rfl) dX2_becomeElement_40 (fun H locs hP hD hS => ?_)
  have hq := fun (hd : va_D A (cW c4 Z (sF (sF (sF (sF (sF u 0 a0 (0 : Int32)) 1 a0 y_4) 2 a0 y_8) 3 a0 (0 : Int32)) 4 a0 y_14))) => cW_setF (A := A) (k := 5) (v := y_19) hd ha0 hn_20 (by decide)
  have hD0 : va_D A (cW c4 Z (sF (sF (sF (sF (sF u 0 a0 (0 : Int32)) 1 a0 y_4) 2 a0 y_8) 3 a0 (0 : Int32)) 4 a0 y_14)) := by assumption
  have hP : va_P D vwCl (cW c4 Z (sF (sF (sF (sF (sF (sF u 0 a0 (0 : Int32)) 1 a0 y_4) 2 a0 y_8) 3 a0 (0 : Int32)) 4 a0 y_14) 5 a0 y_19)) H := by rw [← hq hD0]; exact hP
  have hD : va_D A (cW c4 Z (sF (sF (sF (sF (sF (sF u 0 a0 (0 : Int32)) 1 a0 y_4) 2 a0 y_8) 3 a0 (0 : Int32)) 4 a0 y_14) 5 a0 y_19)) := by rw [← hq hD0]; exact hD
  refine lv_aload_n hx hb dX2_becomeElement_43 rfl (lv_at hl 0 rfl) ?_
  refine lv_aload_n hx hb dX2_becomeElement_44 rfl (lv_at hl 1 rfl) ?_
  obtain ⟨n_22, hn_22⟩ := cW_F (c4 := c4) (u := (sF (sF (sF (sF (sF (sF u 0 a0 (0 : Int32)) 1 a0 y_4) 2 a0 y_8) 3 a0 (0 : Int32)) 4 a0 y_14) 5 a0 y_19)) ha1
  refine va_get (D := D) (ci := 1) (v := .int (Uf u 6 a1)) (C := RX2) (T := TX2) (N := 7) hx hb hts (fun w h => wm (zin_X2 w h)) hown hK hP n_22 hn_22 rfl 6 (by decide) (hts _ (wm zw_95)) (fun _ h9 => h9) rfl dX2_becomeElement_45 ?_
  obtain ⟨y_23, e_23, h⟩ := zb_bind h
  try dsimp only at h
  refine zt_i (Option.some.inj e_23) ?_
  obtain ⟨n_24, hn_24⟩ := cW_F (c4 := c4) (u := (sF (sF (sF (sF (sF (sF u 0 a0 (0 : Int32)) 1 a0 y_4) 2 a0 y_8) 3 a0 (0 : Int32)) 4 a0 y_14) 5 a0 y_19)) ha0
  refine va_put (D := D) (ci := 1) (v := .int y_23) (ty := .int) (C := RX2) (T := TX2) (N := 7) hx hb hts (fun w h => wm (zin_X2 w h)) tyX2 tyX2_ok nmX2 hown hK hP hD hS n_24 hn_24 rfl 6 (by decide) (hts _ (wm zw_95)) (fun _ h9 => h9) rfl (by decide +kernel) rfl rfl (Nat.le_of_ble_eq_true rfl) dX2_becomeElement_48 (fun H locs hP hD hS => ?_)
  have hq := fun (hd : va_D A (cW c4 Z (sF (sF (sF (sF (sF (sF u 0 a0 (0 : Int32)) 1 a0 y_4) 2 a0 y_8) 3 a0 (0 : Int32)) 4 a0 y_14) 5 a0 y_19))) => cW_setF (A := A) (k := 6) (v := y_23) hd ha0 hn_24 (by decide)
  have hD0 : va_D A (cW c4 Z (sF (sF (sF (sF (sF (sF u 0 a0 (0 : Int32)) 1 a0 y_4) 2 a0 y_8) 3 a0 (0 : Int32)) 4 a0 y_14) 5 a0 y_19)) := by assumption
  have hP : va_P D vwCl (cW c4 Z (sF (sF (sF (sF (sF (sF (sF u 0 a0 (0 : Int32)) 1 a0 y_4) 2 a0 y_8) 3 a0 (0 : Int32)) 4 a0 y_14) 5 a0 y_19) 6 a0 y_23)) H := by rw [← hq hD0]; exact hP
  have hD : va_D A (cW c4 Z (sF (sF (sF (sF (sF (sF (sF u 0 a0 (0 : Int32)) 1 a0 y_4) 2 a0 y_8) 3 a0 (0 : Int32)) 4 a0 y_14) 5 a0 y_19) 6 a0 y_23)) := by rw [← hq hD0]; exact hD
  exact W.vret hx hb hr (fun t ht hW => ⟨⟨(sF (sF (sF (sF (sF (sF (sF u 0 a0 (0 : Int32)) 1 a0 y_4) 2 a0 y_8) 3 a0 (0 : Int32)) 4 a0 y_14) 5 a0 y_19) 6 a0 y_23), rfl, (Option.some.inj h).symm, wPre_go hP hD hK hA hS ht hW.alike⟩, hS.F ht⟩) hS.2.2 dX2_becomeElement_51
