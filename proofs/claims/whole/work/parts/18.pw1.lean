def pX5_endHandles (Z : CZ) (u : CS) : Option (CS × Unit) := some ((sI (sI u 1 (0 : Int32)) 2 (0 : Int32)), ())
set_option maxHeartbeats 4000000 in
set_option maxRecDepth 100000 in
theorem ct_X5_endHandles (l : Launch) (D : va_G) (c4 : Nat → ClassId) (A : Nat → Prop) (Z : CZ) (hZ : cok Z) (u : CS) (res : CS × Unit) (h : pX5_endHandles Z u = some res) : Met l yX5_endHandles (wz yX5_endHandles cX5_endHandles 1 none) ({ frames := 0, cells := 0, slots := 0, locals := 0 } : Room) (va_Pc [.ref (Zz Z 0)] (fun U => cPre D c4 A Z u U)) (va_Qv (fun w => res = (w, ())) (fun w t => wPre D c4 A (cW c4 Z w) t) A) 0 0 A := by
  refine Met.ofW (cc := cX5_endHandles) (maxL := 1) (ret := none) (by decide) rfl ?_
  intro p e s m args below meth c s₁ B hml hv
  obtain ⟨rfl, ⟨hP, hD, hK, hA⟩, hE⟩ := hv
  have hx := B.exec
  have hb := B.bytes
  have hr := B.returns
  have hts := atoms_spec (ws := (wz yX5_endHandles cX5_endHandles 1 none)) B.pre
  have hown : s.vm.findClass RX5 = some m.cls := findClass_of_methodNamed B.named
  have hlocks := B.notSynchronized
  have hS : va_S A s.heap s.heap [] := va_S.rf
  have hl := lv_entry ([.ref (Zz Z 0)]) (n := 1) (Nat.le_of_ble_eq_true rfl)
  rw [lg_entry_eq]
  generalize (lg_sl ([.ref (Zz Z 0)]) ++ List.replicate (1 - (lg_sl ([.ref (Zz Z 0)])).length) Slot.unset).toArray = ls at hl ⊢
  have hl : lv_has ls 1 [(0, .ref (Zz Z 0))] := hl
  unfold pX5_endHandles at h
  refine lv_aload_n hx hb dX5_endHandles_0 rfl (lv_at hl 0 rfl) ?_
  refine lv_iconst (v := (0 : Int32)) hx hb dX5_endHandles_1 (by decide) ?_
  refine va_put (D := D) (ci := 4) (v := .int (0 : Int32)) (ty := .int) (C := RX5) (T := TX5) (N := 9) hx hb hts (fun w h => wm (zin_X5 w h)) tyX5 tyX5_ok nmX5 hown hK hP hD hS 0 rfl rfl 6 (by decide) (hts _ (wm zw_134)) (fun _ h9 => h9) rfl (by decide +kernel) rfl rfl (Nat.le_of_ble_eq_true rfl) dX5_endHandles_2 (fun H locs hP hD hS => ?_)
  have hP : va_P D vwCl (cW c4 Z (sI u 1 (0 : Int32))) H := hP
  have hD : va_D A (cW c4 Z (sI u 1 (0 : Int32))) := hD
  refine lv_aload_n hx hb dX5_endHandles_5 rfl (lv_at hl 0 rfl) ?_
  refine lv_iconst (v := (0 : Int32)) hx hb dX5_endHandles_6 (by decide) ?_
  refine va_put (D := D) (ci := 4) (v := .int (0 : Int32)) (ty := .int) (C := RX5) (T := TX5) (N := 9) hx hb hts (fun w h => wm (zin_X5 w h)) tyX5 tyX5_ok nmX5 hown hK hP hD hS 0 rfl rfl 7 (by decide) (hts _ (wm zw_135)) (fun _ h9 => h9) rfl (by decide +kernel) rfl rfl (Nat.le_of_ble_eq_true rfl) dX5_endHandles_7 (fun H locs hP hD hS => ?_)
  have hP : va_P D vwCl (cW c4 Z (sI (sI u 1 (0 : Int32)) 2 (0 : Int32))) H := hP
  have hD : va_D A (cW c4 Z (sI (sI u 1 (0 : Int32)) 2 (0 : Int32))) := hD
  exact W.vret hx hb hr (fun t ht hW => ⟨⟨(sI (sI u 1 (0 : Int32)) 2 (0 : Int32)), rfl, (Option.some.inj h).symm, wPre_go hP hD hK hA hS ht hW.alike⟩, hS.F ht⟩) hS.2.2 dX5_endHandles_10
def pX5_words (Z : CZ) (u : CS) (a1 : Int32) : Option (Int32) := (if (pX3_hasSegment Z u a1) = 0 then some (-1 : Int32) else ((pX3_row Z u a1).bind fun r_3 => some (Us u r_3)))
set_option maxHeartbeats 4000000 in
set_option maxRecDepth 100000 in
theorem ct_X5_words (l : Launch) (D : va_G) (c4 : Nat → ClassId) (A : Nat → Prop) (Z : CZ) (hZ : cok Z) (u : CS) (a1 : Int32) (r : Int32) (h : pX5_words Z u a1 = some r) : Met l yX5_words (wz yX5_words cX5_words 2 (some .int)) ({ frames := 1, cells := 0, slots := 0, locals := 21 } : Room) (va_Pc [.ref (Zz Z 0), .int a1] (fun U => cPre D c4 A Z u U)) (vp_Si (fun q => q = r)) 0 0 (fun _ => False) := by
  refine Met.ofW (cc := cX5_words) (maxL := 2) (ret := (some .int)) (by decide) rfl ?_
  intro p e s m args below meth c s₁ B hml hv
  obtain ⟨rfl, ⟨hP, hD, hK, hA⟩, hE⟩ := hv
  have hx := B.exec
  have hb := B.bytes
  have hr := B.returns
  have hts := atoms_spec (ws := (wz yX5_words cX5_words 2 (some .int))) B.pre
  have hown : s.vm.findClass RX5 = some m.cls := findClass_of_methodNamed B.named
  have hlocks := B.notSynchronized
  have hS : va_S A s.heap s.heap [] := va_S.rf
  have hl := lv_entry ([.ref (Zz Z 0), .int a1]) (n := 2) (Nat.le_of_ble_eq_true rfl)
  rw [lg_entry_eq]
  generalize (lg_sl ([.ref (Zz Z 0), .int a1]) ++ List.replicate (2 - (lg_sl ([.ref (Zz Z 0), .int a1])).length) Slot.unset).toArray = ls at hl ⊢
  have hl : lv_has ls 2 [(0, .ref (Zz Z 0)), (1, .int a1)] := hl
  unfold pX5_words at h
  refine lv_aload_n hx hb dX5_words_0 rfl (lv_at hl 0 rfl) ?_
  refine va_get (D := D) (ci := 4) (v := .ref (Zz Z 1)) (C := RX5) (T := TX5) (N := 9) hx hb hts (fun w h => wm (zin_X5 w h)) hown hK hP 0 rfl rfl 0 (by decide) (hts _ (wm zw_128)) (fun _ h9 => h9) rfl dX5_words_1 ?_
  refine lv_iload_n hx hb dX5_words_4 rfl (lv_at hl 1 rfl) ?_
  refine vp_callSi (W.runV (As := [.int a1]) (rest := []) ⟨hx, hb, hml, hown, hts⟩ (ct_X3_hasSegment l D c4 A Z hZ u a1 _ rfl) (cwV 1 hts (wz_V zw_160 zw_161 zw_162 zw_2 zw_163) rfl rfl rfl (by decide +kernel) ⟨Nat.le_of_ble_eq_true rfl, Nat.le_of_ble_eq_true rfl⟩) ⟨fbC, va_recv hK hP (ci := 2) (q0 := 1) rfl rfl, fun U9 hU hW => ⟨rfl, goC hP hD hK hA hE hS hU hW⟩⟩ rfl rfl hl.1 rfl (lv_room (Nat.le_of_ble_eq_true rfl)) dX5_words_5 ⟨Nat.le_of_ble_eq_true rfl, Nat.le_of_ble_eq_true rfl⟩) (fun r_1 e_1 => ?_)
  subst e_1
  refine lv_if_eq (tgt := 25) hx hb dX5_words_8 (by decide) (fun c_2 => ?_) (fun c_2 => ?_)
  · skip
    rw [if_pos c_2] at h
    refine lv_iconst (v := (-1 : Int32)) hx hb dX5_words_25 (by decide) ?_
    exact W.iret (v := (-1 : Int32)) hx hb hr (fun t ht hW => ⟨_, rfl, (Option.some.inj h), ht⟩) (fun _ hq => nomatch hq) dX5_words_26
  · skip
    rw [if_neg c_2] at h
    refine lv_aload_n hx hb dX5_words_11 rfl (lv_at hl 0 rfl) ?_
    refine va_get (D := D) (ci := 4) (v := .ref (Zz Z 1)) (C := RX5) (T := TX5) (N := 9) hx hb hts (fun w h => wm (zin_X5 w h)) hown hK hP 0 rfl rfl 0 (by decide) (hts _ (wm zw_128)) (fun _ h9 => h9) rfl dX5_words_12 ?_
    refine lv_iload_n hx hb dX5_words_15 rfl (lv_at hl 1 rfl) ?_
    obtain ⟨q_3, hc_3, h⟩ := zb_bind h
    try dsimp only at h
    refine va_csr (W.runV (As := [.int a1]) (rest := []) ⟨hx, hb, hml, hown, hts⟩ (ct_X3_row l D c4 A Z hZ u a1 _ hc_3) (cwV 1 hts (wz_V zw_164 zw_165 zw_166 zw_2 zw_167) rfl rfl rfl (by decide +kernel) ⟨Nat.le_of_ble_eq_true rfl, Nat.le_of_ble_eq_true rfl⟩) ⟨fbC, va_recv hK hP (ci := 2) (q0 := 1) rfl rfl, fun U9 hU hW => ⟨rfl, goC hP hD hK hA hE hS hU hW⟩⟩ rfl rfl hl.1 rfl (lv_room (Nat.le_of_ble_eq_true rfl)) dX5_words_16 ⟨Nat.le_of_ble_eq_true rfl, Nat.le_of_ble_eq_true rfl⟩) (fun r_3 e_3 => ?_)
    subst e_3
    refine W.eq (g2 := F0 m 19 ls ([.ref r_3])) rfl ?_
    obtain ⟨n_4, hn_4⟩ := cW_R (c4 := c4) (u := u) (zrow hZ hc_3)
    refine va_get (D := D) (ci := 3) (v := .int (Us u r_3)) (C := RX4) (T := TX4) (N := 2) hx hb hts (fun w h => wm (zin_X4 w h)) hown hK hP n_4 hn_4 rfl 1 (by decide) (hts _ (wm zw_43)) (fun _ h9 => h9) rfl dX5_words_19 ?_
    refine lv_goto (tgt := 26) hx hb dX5_words_22 (by decide) ?_
    exact W.iret (v := (Us u r_3)) hx hb hr (fun t ht hW => ⟨_, rfl, (Option.some.inj h), ht⟩) (fun _ hq => nomatch hq) dX5_words_26
def pX5_word (Z : CZ) (u : CS) (a1 : Int32) (a2 : Int32) : Option (Int64) := ((pX3_at Z u a1 a2).bind fun r_1 => some r_1)
set_option maxHeartbeats 4000000 in
set_option maxRecDepth 100000 in
theorem ct_X5_word (l : Launch) (D : va_G) (c4 : Nat → ClassId) (A : Nat → Prop) (Z : CZ) (hZ : cok Z) (u : CS) (a1 : Int32) (a2 : Int32) (r : Int64) (h : pX5_word Z u a1 a2 = some r) : Met l yX5_word (wz yX5_word cX5_word 3 (some .long)) ({ frames := 1, cells := 0, slots := 0, locals := 23 } : Room) (va_Pc [.ref (Zz Z 0), .int a1, .int a2] (fun U => cPre D c4 A Z u U)) (vp_Sl (fun q => q = r)) 0 0 (fun _ => False) := by
  refine Met.ofW (cc := cX5_word) (maxL := 3) (ret := (some .long)) (by decide) rfl ?_
  intro p e s m args below meth c s₁ B hml hv
  obtain ⟨rfl, ⟨hP, hD, hK, hA⟩, hE⟩ := hv
  have hx := B.exec
  have hb := B.bytes
  have hr := B.returns
  have hts := atoms_spec (ws := (wz yX5_word cX5_word 3 (some .long))) B.pre
  have hown : s.vm.findClass RX5 = some m.cls := findClass_of_methodNamed B.named
  have hlocks := B.notSynchronized
  have hS : va_S A s.heap s.heap [] := va_S.rf
  have hl := lv_entry ([.ref (Zz Z 0), .int a1, .int a2]) (n := 3) (Nat.le_of_ble_eq_true rfl)
  rw [lg_entry_eq]
  generalize (lg_sl ([.ref (Zz Z 0), .int a1, .int a2]) ++ List.replicate (3 - (lg_sl ([.ref (Zz Z 0), .int a1, .int a2])).length) Slot.unset).toArray = ls at hl ⊢
  have hl : lv_has ls 3 [(0, .ref (Zz Z 0)), (1, .int a1), (2, .int a2)] := hl
  unfold pX5_word at h
  refine lv_aload_n hx hb dX5_word_0 rfl (lv_at hl 0 rfl) ?_
  refine va_get (D := D) (ci := 4) (v := .ref (Zz Z 1)) (C := RX5) (T := TX5) (N := 9) hx hb hts (fun w h => wm (zin_X5 w h)) hown hK hP 0 rfl rfl 0 (by decide) (hts _ (wm zw_128)) (fun _ h9 => h9) rfl dX5_word_1 ?_
  refine lv_iload_n hx hb dX5_word_4 rfl (lv_at hl 1 rfl) ?_
  refine lv_iload_n hx hb dX5_word_5 rfl (lv_at hl 2 rfl) ?_
  obtain ⟨q_1, hc_1, h⟩ := zb_bind h
  try dsimp only at h
  refine vp_callSl (W.runV (As := [.int a1, .int a2]) (rest := []) ⟨hx, hb, hml, hown, hts⟩ (ct_X3_at l D c4 A Z hZ u a1 a2 _ hc_1) (cwV 2 hts (wz_V zw_200 zw_201 zw_202 zw_2 zw_203) rfl rfl rfl (by decide +kernel) ⟨Nat.le_of_ble_eq_true rfl, Nat.le_of_ble_eq_true rfl⟩) ⟨fbC, va_recv hK hP (ci := 2) (q0 := 1) rfl rfl, fun U9 hU hW => ⟨rfl, goC hP hD hK hA hE hS hU hW⟩⟩ rfl rfl hl.1 rfl (lv_room (Nat.le_of_ble_eq_true rfl)) dX5_word_6 ⟨Nat.le_of_ble_eq_true rfl, Nat.le_of_ble_eq_true rfl⟩) (fun r_1 e_1 => ?_)
  subst e_1
  exact W.lret (v := r_1) hx hb hr (fun t ht hW => ⟨_, rfl, (Option.some.inj h), ht⟩) (fun _ hq => nomatch hq) dX5_word_9
def pX5_left (Z : CZ) (u : CS) : Int32 := (Ui u 2)
set_option maxHeartbeats 4000000 in
set_option maxRecDepth 100000 in
theorem ct_X5_left (l : Launch) (D : va_G) (c4 : Nat → ClassId) (A : Nat → Prop) (Z : CZ) (hZ : cok Z) (u : CS) (r : Int32) (h : pX5_left Z u = r) : Met l yX5_left (wz yX5_left cX5_left 1 (some .int)) ({ frames := 0, cells := 0, slots := 0, locals := 0 } : Room) (va_Pc [.ref (Zz Z 0)] (fun U => cPre D c4 A Z u U)) (vp_Si (fun q => q = r)) 0 0 (fun _ => False) := by
  refine Met.ofW (cc := cX5_left) (maxL := 1) (ret := (some .int)) (by decide) rfl ?_
  intro p e s m args below meth c s₁ B hml hv
  obtain ⟨rfl, ⟨hP, hD, hK, hA⟩, hE⟩ := hv
  have hx := B.exec
  have hb := B.bytes
  have hr := B.returns
  have hts := atoms_spec (ws := (wz yX5_left cX5_left 1 (some .int))) B.pre
  have hown : s.vm.findClass RX5 = some m.cls := findClass_of_methodNamed B.named
  have hlocks := B.notSynchronized
  have hS : va_S A s.heap s.heap [] := va_S.rf
  have hl := lv_entry ([.ref (Zz Z 0)]) (n := 1) (Nat.le_of_ble_eq_true rfl)
  rw [lg_entry_eq]
  generalize (lg_sl ([.ref (Zz Z 0)]) ++ List.replicate (1 - (lg_sl ([.ref (Zz Z 0)])).length) Slot.unset).toArray = ls at hl ⊢
  have hl : lv_has ls 1 [(0, .ref (Zz Z 0))] := hl
  unfold pX5_left at h
  refine lv_aload_n hx hb dX5_left_0 rfl (lv_at hl 0 rfl) ?_
  refine va_get (D := D) (ci := 4) (v := .int (Ui u 2)) (C := RX5) (T := TX5) (N := 9) hx hb hts (fun w h => wm (zin_X5 w h)) hown hK hP 0 rfl rfl 7 (by decide) (hts _ (wm zw_135)) (fun _ h9 => h9) rfl dX5_left_1 ?_
  exact W.iret (v := (Ui u 2)) hx hb hr (fun t ht hW => ⟨_, rfl, h, ht⟩) (fun _ hq => nomatch hq) dX5_left_4
def pX5_formed (Z : CZ) (u : CS) (a1 : Int32) : Option (Int64) := ((pX4_at Z u (Zz Z 7) a1).bind fun r_1 => some r_1)
set_option maxHeartbeats 4000000 in
set_option maxRecDepth 100000 in
theorem ct_X5_formed (l : Launch) (D : va_G) (c4 : Nat → ClassId) (A : Nat → Prop) (Z : CZ) (hZ : cok Z) (u : CS) (a1 : Int32) (r : Int64) (h : pX5_formed Z u a1 = some r) : Met l yX5_formed (wz yX5_formed cX5_formed 2 (some .long)) ({ frames := 1, cells := 0, slots := 0, locals := 21 } : Room) (va_Pc [.ref (Zz Z 0), .int a1] (fun U => cPre D c4 A Z u U)) (vp_Sl (fun q => q = r)) 0 0 (fun _ => False) := by
  refine Met.ofW (cc := cX5_formed) (maxL := 2) (ret := (some .long)) (by decide) rfl ?_
  intro p e s m args below meth c s₁ B hml hv
  obtain ⟨rfl, ⟨hP, hD, hK, hA⟩, hE⟩ := hv
  have hx := B.exec
  have hb := B.bytes
  have hr := B.returns
  have hts := atoms_spec (ws := (wz yX5_formed cX5_formed 2 (some .long))) B.pre
  have hown : s.vm.findClass RX5 = some m.cls := findClass_of_methodNamed B.named
  have hlocks := B.notSynchronized
  have hS : va_S A s.heap s.heap [] := va_S.rf
  have hl := lv_entry ([.ref (Zz Z 0), .int a1]) (n := 2) (Nat.le_of_ble_eq_true rfl)
  rw [lg_entry_eq]
  generalize (lg_sl ([.ref (Zz Z 0), .int a1]) ++ List.replicate (2 - (lg_sl ([.ref (Zz Z 0), .int a1])).length) Slot.unset).toArray = ls at hl ⊢
  have hl : lv_has ls 2 [(0, .ref (Zz Z 0)), (1, .int a1)] := hl
  unfold pX5_formed at h
  refine lv_aload_n hx hb dX5_formed_0 rfl (lv_at hl 0 rfl) ?_
  refine va_get (D := D) (ci := 4) (v := .ref (Zz Z 7)) (C := RX5) (T := TX5) (N := 9) hx hb hts (fun w h => wm (zin_X5 w h)) hown hK hP 0 rfl rfl 4 (by decide) (hts _ (wm zw_132)) (fun _ h9 => h9) rfl dX5_formed_1 ?_
  refine lv_iload_n hx hb dX5_formed_4 rfl (lv_at hl 1 rfl) ?_
  obtain ⟨n_2, hn_2⟩ := cW_R (c4 := c4) (u := u) hZ.2.2.2.2.1
  obtain ⟨q_1, hc_1, h⟩ := zb_bind h
  try dsimp only at h
  refine vp_callSl (W.runV (As := [.int a1]) (rest := []) ⟨hx, hb, hml, hown, hts⟩ (ct_X4_at l D c4 A Z hZ u (Zz Z 7) hZ.2.2.2.2.1 a1 _ hc_1) (cwV 1 hts (wz_V zw_216 zw_217 zw_218 zw_3 zw_219) rfl rfl rfl (by decide +kernel) ⟨Nat.le_of_ble_eq_true rfl, Nat.le_of_ble_eq_true rfl⟩) ⟨fbC, va_recv hK hP (ci := 3) (q0 := n_2) rfl hn_2, fun U9 hU hW => ⟨rfl, goC hP hD hK hA hE hS hU hW⟩⟩ rfl rfl hl.1 rfl (lv_room (Nat.le_of_ble_eq_true rfl)) dX5_formed_5 ⟨Nat.le_of_ble_eq_true rfl, Nat.le_of_ble_eq_true rfl⟩) (fun r_1 e_1 => ?_)
  subst e_1
  exact W.lret (v := r_1) hx hb hr (fun t ht hW => ⟨_, rfl, (Option.some.inj h), ht⟩) (fun _ hq => nomatch hq) dX5_formed_8
def pX5_same (Z : CZ) (u : CS) : Option (Int32) := (if (Us u (Zz Z 7)) ≤ 0 then some (0 : Int32) else ((pX4_hasSameWords Z u (Zz Z 7) (Zz Z 8)).bind fun r_3 => (if r_3 = 0 then some (0 : Int32) else some (1 : Int32))))
set_option maxHeartbeats 4000000 in
set_option maxRecDepth 100000 in
theorem ct_X5_same (l : Launch) (D : va_G) (c4 : Nat → ClassId) (A : Nat → Prop) (Z : CZ) (hZ : cok Z) (u : CS) (r : Int32) (h : pX5_same Z u = some r) : Met l yX5_same (wz yX5_same cX5_same 1 (some .boolean)) ({ frames := 1, cells := 0, slots := 0, locals := 22 } : Room) (va_Pc [.ref (Zz Z 0)] (fun U => cPre D c4 A Z u U)) (vp_Si (fun q => q = r)) 0 0 (fun _ => False) := by
  refine Met.ofW (cc := cX5_same) (maxL := 1) (ret := (some .boolean)) (by decide) rfl ?_
  intro p e s m args below meth c s₁ B hml hv
  obtain ⟨rfl, ⟨hP, hD, hK, hA⟩, hE⟩ := hv
  have hx := B.exec
  have hb := B.bytes
  have hr := B.returns
  have hts := atoms_spec (ws := (wz yX5_same cX5_same 1 (some .boolean))) B.pre
  have hown : s.vm.findClass RX5 = some m.cls := findClass_of_methodNamed B.named
  have hlocks := B.notSynchronized
  have hS : va_S A s.heap s.heap [] := va_S.rf
  have hl := lv_entry ([.ref (Zz Z 0)]) (n := 1) (Nat.le_of_ble_eq_true rfl)
  rw [lg_entry_eq]
  generalize (lg_sl ([.ref (Zz Z 0)]) ++ List.replicate (1 - (lg_sl ([.ref (Zz Z 0)])).length) Slot.unset).toArray = ls at hl ⊢
  have hl : lv_has ls 1 [(0, .ref (Zz Z 0))] := hl
  unfold pX5_same at h
  refine lv_aload_n hx hb dX5_same_0 rfl (lv_at hl 0 rfl) ?_
  refine va_get (D := D) (ci := 4) (v := .ref (Zz Z 7)) (C := RX5) (T := TX5) (N := 9) hx hb hts (fun w h => wm (zin_X5 w h)) hown hK hP 0 rfl rfl 4 (by decide) (hts _ (wm zw_132)) (fun _ h9 => h9) rfl dX5_same_1 ?_
  obtain ⟨n_1, hn_1⟩ := cW_R (c4 := c4) (u := u) hZ.2.2.2.2.1
  refine va_get (D := D) (ci := 3) (v := .int (Us u (Zz Z 7))) (C := RX4) (T := TX4) (N := 2) hx hb hts (fun w h => wm (zin_X4 w h)) hown hK hP n_1 hn_1 rfl 1 (by decide) (hts _ (wm zw_43)) (fun _ h9 => h9) rfl dX5_same_4 ?_
  refine lv_if_le (tgt := 28) hx hb dX5_same_7 (by decide) (fun c_2 => ?_) (fun c_2 => ?_)
  · skip
    rw [if_pos c_2] at h
    refine lv_iconst (v := (0 : Int32)) hx hb dX5_same_28 (by decide) ?_
    exact W.zret (v := (0 : Int32)) (ty := .boolean) hx hb hr rfl (fun t ht hW => ⟨_, rfl, (Option.some.inj h), ht⟩) (fun _ hq => nomatch hq) dX5_same_29
  · skip
    rw [if_neg c_2] at h
    refine lv_aload_n hx hb dX5_same_10 rfl (lv_at hl 0 rfl) ?_
    refine va_get (D := D) (ci := 4) (v := .ref (Zz Z 7)) (C := RX5) (T := TX5) (N := 9) hx hb hts (fun w h => wm (zin_X5 w h)) hown hK hP 0 rfl rfl 4 (by decide) (hts _ (wm zw_132)) (fun _ h9 => h9) rfl dX5_same_11 ?_
    refine lv_aload_n hx hb dX5_same_14 rfl (lv_at hl 0 rfl) ?_
    refine va_get (D := D) (ci := 4) (v := .ref (Zz Z 8)) (C := RX5) (T := TX5) (N := 9) hx hb hts (fun w h => wm (zin_X5 w h)) hown hK hP 0 rfl rfl 5 (by decide) (hts _ (wm zw_133)) (fun _ h9 => h9) rfl dX5_same_15 ?_
    obtain ⟨n_4, hn_4⟩ := cW_R (c4 := c4) (u := u) hZ.2.2.2.2.1
    obtain ⟨q_3, hc_3, h⟩ := zb_bind h
    try dsimp only at h
    refine vp_callSi (W.runV (As := [.ref (Zz Z 8)]) (rest := []) ⟨hx, hb, hml, hown, hts⟩ (ct_X4_hasSameWords l D c4 A Z hZ u (Zz Z 7) hZ.2.2.2.2.1 (Zz Z 8) hZ.2.2.2.2.2.1 _ hc_3) (cwV 1 hts (wz_V zw_239 zw_240 zw_241 zw_3 zw_242) rfl rfl rfl (by decide +kernel) ⟨Nat.le_of_ble_eq_true rfl, Nat.le_of_ble_eq_true rfl⟩) ⟨fbC, va_recv hK hP (ci := 3) (q0 := n_4) rfl hn_4, fun U9 hU hW => ⟨rfl, goC hP hD hK hA hE hS hU hW⟩⟩ rfl rfl hl.1 rfl (lv_room (Nat.le_of_ble_eq_true rfl)) dX5_same_18 ⟨Nat.le_of_ble_eq_true rfl, Nat.le_of_ble_eq_true rfl⟩) (fun r_3 e_3 => ?_)
    subst e_3
    refine lv_if_eq (tgt := 28) hx hb dX5_same_21 (by decide) (fun c_5 => ?_) (fun c_5 => ?_)
    · skip
      rw [if_pos c_5] at h
      refine lv_iconst (v := (0 : Int32)) hx hb dX5_same_28 (by decide) ?_
      exact W.zret (v := (0 : Int32)) (ty := .boolean) hx hb hr rfl (fun t ht hW => ⟨_, rfl, (Option.some.inj h), ht⟩) (fun _ hq => nomatch hq) dX5_same_29
    · skip
      rw [if_neg c_5] at h
      refine lv_iconst (v := (1 : Int32)) hx hb dX5_same_24 (by decide) ?_
      refine lv_goto (tgt := 29) hx hb dX5_same_25 (by decide) ?_
      exact W.zret (v := (1 : Int32)) (ty := .boolean) hx hb hr rfl (fun t ht hW => ⟨_, rfl, (Option.some.inj h), ht⟩) (fun _ hq => nomatch hq) dX5_same_29
def pX5_add (Z : CZ) (u : CS) (a1 : Int32) (a2 : Int64) : Option (CS × Int32) := (if (pX3_hasSegment Z u a1) = 0 then some (u, (-1 : Int32)) else ((pX3_row Z u a1).bind fun r_3 => ((pX4_append Z u r_3 a2).bind fun x_4 => (if (x_4.2) = 0 then some ((x_4.1), (-1 : Int32)) else ((pX5_endHandles Z (x_4.1)).bind fun x_7 => ((pX3_row Z (x_7.1) a1).bind fun r_8 => some ((x_7.1), ((Us (x_7.1) r_8) - (1 : Int32)))))))))
set_option maxHeartbeats 4000000 in
set_option maxRecDepth 100000 in
theorem ct_X5_add (l : Launch) (D : va_G) (c4 : Nat → ClassId) (A : Nat → Prop) (Z : CZ) (hZ : cok Z) (u : CS) (a1 : Int32) (a2 : Int64) (res : CS × Int32) (h : pX5_add Z u a1 a2 = some res) : Met l yX5_add (wz yX5_add cX5_add 4 (some .int)) ({ frames := 1, cells := 0, slots := 0, locals := 22 } : Room) (va_Pc [.ref (Zz Z 0), .int a1, .long a2] (fun U => cPre D c4 A Z u U)) (va_Qi (fun q w => res = (w, q)) (fun w t => wPre D c4 A (cW c4 Z w) t) A) 0 0 A := by
  refine Met.ofW (cc := cX5_add) (maxL := 4) (ret := (some .int)) (by decide) rfl ?_
  intro p e s m args below meth c s₁ B hml hv
  obtain ⟨rfl, ⟨hP, hD, hK, hA⟩, hE⟩ := hv
  have hx := B.exec
  have hb := B.bytes
  have hr := B.returns
  have hts := atoms_spec (ws := (wz yX5_add cX5_add 4 (some .int))) B.pre
  have hown : s.vm.findClass RX5 = some m.cls := findClass_of_methodNamed B.named
  have hlocks := B.notSynchronized
  have hS : va_S A s.heap s.heap [] := va_S.rf
  have hl := lv_entry ([.ref (Zz Z 0), .int a1, .long a2]) (n := 4) (Nat.le_of_ble_eq_true rfl)
  rw [lg_entry_eq]
  generalize (lg_sl ([.ref (Zz Z 0), .int a1, .long a2]) ++ List.replicate (4 - (lg_sl ([.ref (Zz Z 0), .int a1, .long a2])).length) Slot.unset).toArray = ls at hl ⊢
  have hl : lv_has ls 4 [(0, .ref (Zz Z 0)), (1, .int a1), (2, .long a2)] := hl
  unfold pX5_add at h
  refine lv_aload_n hx hb dX5_add_0 rfl (lv_at hl 0 rfl) ?_
  refine va_get (D := D) (ci := 4) (v := .ref (Zz Z 1)) (C := RX5) (T := TX5) (N := 9) hx hb hts (fun w h => wm (zin_X5 w h)) hown hK hP 0 rfl rfl 0 (by decide) (hts _ (wm zw_128)) (fun _ h9 => h9) rfl dX5_add_1 ?_
  refine lv_iload_n hx hb dX5_add_4 rfl (lv_at hl 1 rfl) ?_
  refine vp_callSi (W.runV (As := [.int a1]) (rest := []) ⟨hx, hb, hml, hown, hts⟩ (ct_X3_hasSegment l D c4 A Z hZ u a1 _ rfl) (cwV 1 hts (wz_V zw_160 zw_161 zw_162 zw_2 zw_163) rfl rfl rfl (by decide +kernel) ⟨Nat.le_of_ble_eq_true rfl, Nat.le_of_ble_eq_true rfl⟩) ⟨fbC, va_recv hK hP (ci := 2) (q0 := 1) rfl rfl, fun U9 hU hW => ⟨rfl, goC hP hD hK hA hE hS hU hW⟩⟩ rfl rfl hl.1 rfl (lv_room (Nat.le_of_ble_eq_true rfl)) dX5_add_5 ⟨Nat.le_of_ble_eq_true rfl, Nat.le_of_ble_eq_true rfl⟩) (fun r_1 e_1 => ?_)
  subst e_1
  refine lv_if_eq (tgt := 26) hx hb dX5_add_8 (by decide) (fun c_2 => ?_) (fun c_2 => ?_)
  · skip
    rw [if_pos c_2] at h
    refine lv_iconst (v := (-1 : Int32)) hx hb dX5_add_26 (by decide) ?_
    exact W.iret (v := (-1 : Int32)) hx hb hr (fun t ht hW => ⟨⟨(-1 : Int32), u, rfl, (Option.some.inj h).symm, wPre_go hP hD hK hA hS ht hW.alike⟩, hS.F ht⟩) hS.2.2 dX5_add_27
  · skip
    rw [if_neg c_2] at h
    refine lv_aload_n hx hb dX5_add_11 rfl (lv_at hl 0 rfl) ?_
    refine va_get (D := D) (ci := 4) (v := .ref (Zz Z 1)) (C := RX5) (T := TX5) (N := 9) hx hb hts (fun w h => wm (zin_X5 w h)) hown hK hP 0 rfl rfl 0 (by decide) (hts _ (wm zw_128)) (fun _ h9 => h9) rfl dX5_add_12 ?_
    refine lv_iload_n hx hb dX5_add_15 rfl (lv_at hl 1 rfl) ?_
    obtain ⟨q_3, hc_3, h⟩ := zb_bind h
    try dsimp only at h
    refine va_csr (W.runV (As := [.int a1]) (rest := []) ⟨hx, hb, hml, hown, hts⟩ (ct_X3_row l D c4 A Z hZ u a1 _ hc_3) (cwV 1 hts (wz_V zw_164 zw_165 zw_166 zw_2 zw_167) rfl rfl rfl (by decide +kernel) ⟨Nat.le_of_ble_eq_true rfl, Nat.le_of_ble_eq_true rfl⟩) ⟨fbC, va_recv hK hP (ci := 2) (q0 := 1) rfl rfl, fun U9 hU hW => ⟨rfl, goC hP hD hK hA hE hS hU hW⟩⟩ rfl rfl hl.1 rfl (lv_room (Nat.le_of_ble_eq_true rfl)) dX5_add_16 ⟨Nat.le_of_ble_eq_true rfl, Nat.le_of_ble_eq_true rfl⟩) (fun r_3 e_3 => ?_)
    subst e_3
    refine W.eq (g2 := F0 m 19 ls ([.ref r_3])) rfl ?_
    refine lv_lload_n hx hb dX5_add_19 rfl (lv_at hl 2 rfl) ?_
    obtain ⟨n_5, hn_5⟩ := cW_R (c4 := c4) (u := u) (zrow hZ hc_3)
    obtain ⟨x_4, hc_4, h⟩ := zb_bind h
    try dsimp only at h
    refine va_calli (va_runV (As := [.long a2]) (rest := []) ⟨hx, hb, hml, hown, hts⟩ (ct_X4_append l D c4 A Z hZ u r_3 (zrow hZ hc_3) a2 _ hc_4) (cwV 1 hts (wz_V zw_168 zw_169 zw_170 zw_3 zw_171) rfl rfl rfl (by decide +kernel) ⟨Nat.le_of_ble_eq_true rfl, Nat.le_of_ble_eq_true rfl⟩) ⟨fbC, va_recv hK hP (ci := 3) (q0 := n_5) rfl hn_5, fun U9 hU hW => ⟨rfl, goC hP hD hK hA hE hS hU hW⟩⟩ rfl rfl hl.1 rfl (lv_room (Nat.le_of_ble_eq_true rfl)) dX5_add_20 ⟨Nat.le_of_ble_eq_true rfl, Nat.le_of_ble_eq_true rfl⟩) hS (fun q _ h => h) (fun q h => h) (fun r_4 u_4 t H1 locs ht hvm e_4 hB hz1 hk1 hS => ?_)
    subst e_4
    try dsimp only at h
    obtain ⟨hP, hD, -, -⟩ := hB
    rw [ht] at hP
    generalize H1 = H at hP hS ⊢
    refine lv_if_ne (tgt := 28) hx hb dX5_add_23 (by decide) (fun c_6 => ?_) (fun c_6 => ?_)
    · skip
      rw [if_neg c_6] at h
      refine lv_aload_n hx hb dX5_add_28 rfl (lv_at hl 0 rfl) ?_
      obtain ⟨x_7, hc_7, h⟩ := zb_bind h
      try dsimp only at h
      refine va_callv (va_runV (As := []) (rest := []) ⟨hx, hb, hml, hown, hts⟩ (ct_X5_endHandles l D c4 A Z hZ u_4 _ hc_7) (cwV 0 hts (wz_V zw_172 zw_174 zs_0 zw_1 zw_175) rfl rfl rfl (by decide +kernel) ⟨Nat.le_of_ble_eq_true rfl, Nat.le_of_ble_eq_true rfl⟩) ⟨fbC, va_recv hK hP (ci := 4) (q0 := 0) rfl rfl, fun U9 hU hW => ⟨rfl, goC hP hD hK hA hE hS hU hW⟩⟩ rfl rfl hl.1 rfl (lv_room (Nat.le_of_ble_eq_true rfl)) dX5_add_29 ⟨Nat.le_of_ble_eq_true rfl, Nat.le_of_ble_eq_true rfl⟩) hS (fun q _ h => h) (fun q h => h) (fun u_7 t H1 locs ht hvm e_7 hB hz1 hk1 hS => ?_)
      subst e_7
      try dsimp only at h
      obtain ⟨hP, hD, -, -⟩ := hB
      rw [ht] at hP
      generalize H1 = H at hP hS ⊢
      refine lv_aload_n hx hb dX5_add_32 rfl (lv_at hl 0 rfl) ?_
      refine va_get (D := D) (ci := 4) (v := .ref (Zz Z 1)) (C := RX5) (T := TX5) (N := 9) hx hb hts (fun w h => wm (zin_X5 w h)) hown hK hP 0 rfl rfl 0 (by decide) (hts _ (wm zw_128)) (fun _ h9 => h9) rfl dX5_add_33 ?_
      refine lv_iload_n hx hb dX5_add_36 rfl (lv_at hl 1 rfl) ?_
      obtain ⟨q_8, hc_8, h⟩ := zb_bind h
      try dsimp only at h
      refine va_csr (W.runV (As := [.int a1]) (rest := []) ⟨hx, hb, hml, hown, hts⟩ (ct_X3_row l D c4 A Z hZ u_7 a1 _ hc_8) (cwV 1 hts (wz_V zw_164 zw_165 zw_166 zw_2 zw_167) rfl rfl rfl (by decide +kernel) ⟨Nat.le_of_ble_eq_true rfl, Nat.le_of_ble_eq_true rfl⟩) ⟨fbC, va_recv hK hP (ci := 2) (q0 := 1) rfl rfl, fun U9 hU hW => ⟨rfl, goC hP hD hK hA hE hS hU hW⟩⟩ rfl rfl hl.1 rfl (lv_room (Nat.le_of_ble_eq_true rfl)) dX5_add_37 ⟨Nat.le_of_ble_eq_true rfl, Nat.le_of_ble_eq_true rfl⟩) (fun r_8 e_8 => ?_)
      subst e_8
      refine W.eq (g2 := F0 m 40 ls ([.ref r_8])) rfl ?_
      obtain ⟨n_9, hn_9⟩ := cW_R (c4 := c4) (u := u_7) (zrow hZ hc_8)
      refine va_get (D := D) (ci := 3) (v := .int (Us u_7 r_8)) (C := RX4) (T := TX4) (N := 2) hx hb hts (fun w h => wm (zin_X4 w h)) hown hK hP n_9 hn_9 rfl 1 (by decide) (hts _ (wm zw_43)) (fun _ h9 => h9) rfl dX5_add_40 ?_
      refine lv_iconst (v := (1 : Int32)) hx hb dX5_add_43 (by decide) ?_
      refine lv_isub hx hb dX5_add_44 ?_
      exact W.iret (v := ((Us u_7 r_8) - (1 : Int32))) hx hb hr (fun t ht hW => ⟨⟨((Us u_7 r_8) - (1 : Int32)), u_7, rfl, (Option.some.inj h).symm, wPre_go hP hD hK hA hS ht hW.alike⟩, hS.F ht⟩) hS.2.2 dX5_add_45
    · skip
      rw [if_pos c_6] at h
      refine lv_iconst (v := (-1 : Int32)) hx hb dX5_add_26 (by decide) ?_
      exact W.iret (v := (-1 : Int32)) hx hb hr (fun t ht hW => ⟨⟨(-1 : Int32), u_4, rfl, (Option.some.inj h).symm, wPre_go hP hD hK hA hS ht hW.alike⟩, hS.F ht⟩) hS.2.2 dX5_add_27
def pX5_change (Z : CZ) (u : CS) (a1 : Int32) (a2 : Int32) (a3 : Int64) : Option (CS × Int32) := ((pX3_hasWords Z u a1 a2 (1 : Int32)).bind fun r_1 => (if r_1 = 0 then some (u, (0 : Int32)) else ((pX3_row Z u a1).bind fun r_3 => ((pX4_put Z u r_3 a2 a3).bind fun x_4 => ((pX5_endHandles Z (x_4.1)).bind fun x_6 => some ((x_6.1), (1 : Int32)))))))
set_option maxHeartbeats 4000000 in
set_option maxRecDepth 100000 in
theorem ct_X5_change (l : Launch) (D : va_G) (c4 : Nat → ClassId) (A : Nat → Prop) (Z : CZ) (hZ : cok Z) (u : CS) (a1 : Int32) (a2 : Int32) (a3 : Int64) (res : CS × Int32) (h : pX5_change Z u a1 a2 a3 = some res) : Met l yX5_change (wz yX5_change cX5_change 5 (some .boolean)) ({ frames := 1, cells := 0, slots := 0, locals := 24 } : Room) (va_Pc [.ref (Zz Z 0), .int a1, .int a2, .long a3] (fun U => cPre D c4 A Z u U)) (va_Qi (fun q w => res = (w, q)) (fun w t => wPre D c4 A (cW c4 Z w) t) A) 0 0 A := by
  refine Met.ofW (cc := cX5_change) (maxL := 5) (ret := (some .boolean)) (by decide) rfl ?_
  intro p e s m args below meth c s₁ B hml hv
  obtain ⟨rfl, ⟨hP, hD, hK, hA⟩, hE⟩ := hv
  have hx := B.exec
  have hb := B.bytes
  have hr := B.returns
  have hts := atoms_spec (ws := (wz yX5_change cX5_change 5 (some .boolean))) B.pre
  have hown : s.vm.findClass RX5 = some m.cls := findClass_of_methodNamed B.named
  have hlocks := B.notSynchronized
  have hS : va_S A s.heap s.heap [] := va_S.rf
  have hl := lv_entry ([.ref (Zz Z 0), .int a1, .int a2, .long a3]) (n := 5) (Nat.le_of_ble_eq_true rfl)
  rw [lg_entry_eq]
  generalize (lg_sl ([.ref (Zz Z 0), .int a1, .int a2, .long a3]) ++ List.replicate (5 - (lg_sl ([.ref (Zz Z 0), .int a1, .int a2, .long a3])).length) Slot.unset).toArray = ls at hl ⊢
  have hl : lv_has ls 5 [(0, .ref (Zz Z 0)), (1, .int a1), (2, .int a2), (3, .long a3)] := hl
  unfold pX5_change at h
  refine lv_aload_n hx hb dX5_change_0 rfl (lv_at hl 0 rfl) ?_
  refine va_get (D := D) (ci := 4) (v := .ref (Zz Z 1)) (C := RX5) (T := TX5) (N := 9) hx hb hts (fun w h => wm (zin_X5 w h)) hown hK hP 0 rfl rfl 0 (by decide) (hts _ (wm zw_128)) (fun _ h9 => h9) rfl dX5_change_1 ?_
  refine lv_iload_n hx hb dX5_change_4 rfl (lv_at hl 1 rfl) ?_
  refine lv_iload_n hx hb dX5_change_5 rfl (lv_at hl 2 rfl) ?_
  refine lv_iconst (v := (1 : Int32)) hx hb dX5_change_6 (by decide) ?_
  obtain ⟨q_1, hc_1, h⟩ := zb_bind h
  try dsimp only at h
  refine vp_callSi (W.runV (As := [.int a1, .int a2, .int (1 : Int32)]) (rest := []) ⟨hx, hb, hml, hown, hts⟩ (ct_X3_hasWords l D c4 A Z hZ u a1 a2 (1 : Int32) _ hc_1) (cwV 3 hts (wz_V zw_180 zw_181 zw_182 zw_2 zw_183) rfl rfl rfl (by decide +kernel) ⟨Nat.le_of_ble_eq_true rfl, Nat.le_of_ble_eq_true rfl⟩) ⟨fbC, va_recv hK hP (ci := 2) (q0 := 1) rfl rfl, fun U9 hU hW => ⟨rfl, goC hP hD hK hA hE hS hU hW⟩⟩ rfl rfl hl.1 rfl (lv_room (Nat.le_of_ble_eq_true rfl)) dX5_change_7 ⟨Nat.le_of_ble_eq_true rfl, Nat.le_of_ble_eq_true rfl⟩) (fun r_1 e_1 => ?_)
  subst e_1
  refine lv_if_ne (tgt := 15) hx hb dX5_change_10 (by decide) (fun c_2 => ?_) (fun c_2 => ?_)
  · skip
    rw [if_neg c_2] at h
    refine lv_aload_n hx hb dX5_change_15 rfl (lv_at hl 0 rfl) ?_
    refine va_get (D := D) (ci := 4) (v := .ref (Zz Z 1)) (C := RX5) (T := TX5) (N := 9) hx hb hts (fun w h => wm (zin_X5 w h)) hown hK hP 0 rfl rfl 0 (by decide) (hts _ (wm zw_128)) (fun _ h9 => h9) rfl dX5_change_16 ?_
    refine lv_iload_n hx hb dX5_change_19 rfl (lv_at hl 1 rfl) ?_
    obtain ⟨q_3, hc_3, h⟩ := zb_bind h
    try dsimp only at h
    refine va_csr (W.runV (As := [.int a1]) (rest := []) ⟨hx, hb, hml, hown, hts⟩ (ct_X3_row l D c4 A Z hZ u a1 _ hc_3) (cwV 1 hts (wz_V zw_164 zw_165 zw_166 zw_2 zw_167) rfl rfl rfl (by decide +kernel) ⟨Nat.le_of_ble_eq_true rfl, Nat.le_of_ble_eq_true rfl⟩) ⟨fbC, va_recv hK hP (ci := 2) (q0 := 1) rfl rfl, fun U9 hU hW => ⟨rfl, goC hP hD hK hA hE hS hU hW⟩⟩ rfl rfl hl.1 rfl (lv_room (Nat.le_of_ble_eq_true rfl)) dX5_change_20 ⟨Nat.le_of_ble_eq_true rfl, Nat.le_of_ble_eq_true rfl⟩) (fun r_3 e_3 => ?_)
    subst e_3
    refine W.eq (g2 := F0 m 23 ls ([.ref r_3])) rfl ?_
    refine lv_iload_n hx hb dX5_change_23 rfl (lv_at hl 2 rfl) ?_
    refine lv_lload_n hx hb dX5_change_24 rfl (lv_at hl 3 rfl) ?_
    obtain ⟨n_5, hn_5⟩ := cW_R (c4 := c4) (u := u) (zrow hZ hc_3)
    obtain ⟨x_4, hc_4, h⟩ := zb_bind h
    try dsimp only at h
    refine va_callv (va_runV (As := [.int a2, .long a3]) (rest := []) ⟨hx, hb, hml, hown, hts⟩ (ct_X4_put l D c4 A Z hZ u r_3 (zrow hZ hc_3) a2 a3 _ hc_4) (cwV 2 hts (wz_V zw_184 zw_185 zw_186 zw_3 zw_187) rfl rfl rfl (by decide +kernel) ⟨Nat.le_of_ble_eq_true rfl, Nat.le_of_ble_eq_true rfl⟩) ⟨fbC, va_recv hK hP (ci := 3) (q0 := n_5) rfl hn_5, fun U9 hU hW => ⟨rfl, goC hP hD hK hA hE hS hU hW⟩⟩ rfl rfl hl.1 rfl (lv_room (Nat.le_of_ble_eq_true rfl)) dX5_change_25 ⟨Nat.le_of_ble_eq_true rfl, Nat.le_of_ble_eq_true rfl⟩) hS (fun q _ h => h) (fun q h => h) (fun u_4 t H1 locs ht hvm e_4 hB hz1 hk1 hS => ?_)
    subst e_4
    try dsimp only at h
    obtain ⟨hP, hD, -, -⟩ := hB
    rw [ht] at hP
    generalize H1 = H at hP hS ⊢
    refine lv_aload_n hx hb dX5_change_28 rfl (lv_at hl 0 rfl) ?_
    obtain ⟨x_6, hc_6, h⟩ := zb_bind h
    try dsimp only at h
    refine va_callv (va_runV (As := []) (rest := []) ⟨hx, hb, hml, hown, hts⟩ (ct_X5_endHandles l D c4 A Z hZ u_4 _ hc_6) (cwV 0 hts (wz_V zw_172 zw_174 zs_0 zw_1 zw_175) rfl rfl rfl (by decide +kernel) ⟨Nat.le_of_ble_eq_true rfl, Nat.le_of_ble_eq_true rfl⟩) ⟨fbC, va_recv hK hP (ci := 4) (q0 := 0) rfl rfl, fun U9 hU hW => ⟨rfl, goC hP hD hK hA hE hS hU hW⟩⟩ rfl rfl hl.1 rfl (lv_room (Nat.le_of_ble_eq_true rfl)) dX5_change_29 ⟨Nat.le_of_ble_eq_true rfl, Nat.le_of_ble_eq_true rfl⟩) hS (fun q _ h => h) (fun q h => h) (fun u_6 t H1 locs ht hvm e_6 hB hz1 hk1 hS => ?_)
    subst e_6
    try dsimp only at h
    obtain ⟨hP, hD, -, -⟩ := hB
    rw [ht] at hP
    generalize H1 = H at hP hS ⊢
    refine lv_iconst (v := (1 : Int32)) hx hb dX5_change_32 (by decide) ?_
    exact W.zret (v := (1 : Int32)) (ty := .boolean) hx hb hr rfl (fun t ht hW => ⟨⟨(1 : Int32), u_6, rfl, (Option.some.inj h).symm, wPre_go hP hD hK hA hS ht hW.alike⟩, hS.F ht⟩) hS.2.2 dX5_change_33
  · skip
    rw [if_pos c_2] at h
    refine lv_iconst (v := (0 : Int32)) hx hb dX5_change_13 (by decide) ?_
    exact W.zret (v := (0 : Int32)) (ty := .boolean) hx hb hr rfl (fun t ht hW => ⟨⟨(0 : Int32), u, rfl, (Option.some.inj h).symm, wPre_go hP hD hK hA hS ht hW.alike⟩, hS.F ht⟩) hS.2.2 dX5_change_14
def pX5_cut (Z : CZ) (u : CS) (a1 : Int32) (a2 : Int32) : Option (CS × Int32) := (if a2 < 0 then some (u, (0 : Int32)) else ((pX3_hasWords Z u a1 (0 : Int32) a2).bind fun r_2 => (if r_2 = 0 then some (u, (0 : Int32)) else ((pX3_row Z u a1).bind fun r_4 => ((pX5_endHandles Z (sS u r_4 a2)).bind fun x_7 => some ((x_7.1), (1 : Int32)))))))
set_option maxHeartbeats 4000000 in
set_option maxRecDepth 100000 in
theorem ct_X5_cut (l : Launch) (D : va_G) (c4 : Nat → ClassId) (A : Nat → Prop) (Z : CZ) (hZ : cok Z) (u : CS) (a1 : Int32) (a2 : Int32) (res : CS × Int32) (h : pX5_cut Z u a1 a2 = some res) : Met l yX5_cut (wz yX5_cut cX5_cut 3 (some .boolean)) ({ frames := 1, cells := 0, slots := 0, locals := 24 } : Room) (va_Pc [.ref (Zz Z 0), .int a1, .int a2] (fun U => cPre D c4 A Z u U)) (va_Qi (fun q w => res = (w, q)) (fun w t => wPre D c4 A (cW c4 Z w) t) A) 0 0 A := by
  refine Met.ofW (cc := cX5_cut) (maxL := 3) (ret := (some .boolean)) (by decide) rfl ?_
  intro p e s m args below meth c s₁ B hml hv
  obtain ⟨rfl, ⟨hP, hD, hK, hA⟩, hE⟩ := hv
  have hx := B.exec
  have hb := B.bytes
  have hr := B.returns
  have hts := atoms_spec (ws := (wz yX5_cut cX5_cut 3 (some .boolean))) B.pre
  have hown : s.vm.findClass RX5 = some m.cls := findClass_of_methodNamed B.named
  have hlocks := B.notSynchronized
  have hS : va_S A s.heap s.heap [] := va_S.rf
  have hl := lv_entry ([.ref (Zz Z 0), .int a1, .int a2]) (n := 3) (Nat.le_of_ble_eq_true rfl)
  rw [lg_entry_eq]
  generalize (lg_sl ([.ref (Zz Z 0), .int a1, .int a2]) ++ List.replicate (3 - (lg_sl ([.ref (Zz Z 0), .int a1, .int a2])).length) Slot.unset).toArray = ls at hl ⊢
  have hl : lv_has ls 3 [(0, .ref (Zz Z 0)), (1, .int a1), (2, .int a2)] := hl
  unfold pX5_cut at h
  refine lv_iload_n hx hb dX5_cut_0 rfl (lv_at hl 2 rfl) ?_
  refine lv_if_lt (tgt := 17) hx hb dX5_cut_1 (by decide) (fun c_1 => ?_) (fun c_1 => ?_)
  · skip
    rw [if_pos c_1] at h
    refine lv_iconst (v := (0 : Int32)) hx hb dX5_cut_17 (by decide) ?_
    exact W.zret (v := (0 : Int32)) (ty := .boolean) hx hb hr rfl (fun t ht hW => ⟨⟨(0 : Int32), u, rfl, (Option.some.inj h).symm, wPre_go hP hD hK hA hS ht hW.alike⟩, hS.F ht⟩) hS.2.2 dX5_cut_18
  · skip
    rw [if_neg c_1] at h
    refine lv_aload_n hx hb dX5_cut_4 rfl (lv_at hl 0 rfl) ?_
    refine va_get (D := D) (ci := 4) (v := .ref (Zz Z 1)) (C := RX5) (T := TX5) (N := 9) hx hb hts (fun w h => wm (zin_X5 w h)) hown hK hP 0 rfl rfl 0 (by decide) (hts _ (wm zw_128)) (fun _ h9 => h9) rfl dX5_cut_5 ?_
    refine lv_iload_n hx hb dX5_cut_8 rfl (lv_at hl 1 rfl) ?_
    refine lv_iconst (v := (0 : Int32)) hx hb dX5_cut_9 (by decide) ?_
    refine lv_iload_n hx hb dX5_cut_10 rfl (lv_at hl 2 rfl) ?_
    obtain ⟨q_2, hc_2, h⟩ := zb_bind h
    try dsimp only at h
    refine vp_callSi (W.runV (As := [.int a1, .int (0 : Int32), .int a2]) (rest := []) ⟨hx, hb, hml, hown, hts⟩ (ct_X3_hasWords l D c4 A Z hZ u a1 (0 : Int32) a2 _ hc_2) (cwV 3 hts (wz_V zw_180 zw_181 zw_182 zw_2 zw_183) rfl rfl rfl (by decide +kernel) ⟨Nat.le_of_ble_eq_true rfl, Nat.le_of_ble_eq_true rfl⟩) ⟨fbC, va_recv hK hP (ci := 2) (q0 := 1) rfl rfl, fun U9 hU hW => ⟨rfl, goC hP hD hK hA hE hS hU hW⟩⟩ rfl rfl hl.1 rfl (lv_room (Nat.le_of_ble_eq_true rfl)) dX5_cut_11 ⟨Nat.le_of_ble_eq_true rfl, Nat.le_of_ble_eq_true rfl⟩) (fun r_2 e_2 => ?_)
    subst e_2
    refine lv_if_ne (tgt := 19) hx hb dX5_cut_14 (by decide) (fun c_3 => ?_) (fun c_3 => ?_)
    · skip
      rw [if_neg c_3] at h
      refine lv_aload_n hx hb dX5_cut_19 rfl (lv_at hl 0 rfl) ?_
      refine va_get (D := D) (ci := 4) (v := .ref (Zz Z 1)) (C := RX5) (T := TX5) (N := 9) hx hb hts (fun w h => wm (zin_X5 w h)) hown hK hP 0 rfl rfl 0 (by decide) (hts _ (wm zw_128)) (fun _ h9 => h9) rfl dX5_cut_20 ?_
      refine lv_iload_n hx hb dX5_cut_23 rfl (lv_at hl 1 rfl) ?_
      obtain ⟨q_4, hc_4, h⟩ := zb_bind h
      try dsimp only at h
      refine va_csr (W.runV (As := [.int a1]) (rest := []) ⟨hx, hb, hml, hown, hts⟩ (ct_X3_row l D c4 A Z hZ u a1 _ hc_4) (cwV 1 hts (wz_V zw_164 zw_165 zw_166 zw_2 zw_167) rfl rfl rfl (by decide +kernel) ⟨Nat.le_of_ble_eq_true rfl, Nat.le_of_ble_eq_true rfl⟩) ⟨fbC, va_recv hK hP (ci := 2) (q0 := 1) rfl rfl, fun U9 hU hW => ⟨rfl, goC hP hD hK hA hE hS hU hW⟩⟩ rfl rfl hl.1 rfl (lv_room (Nat.le_of_ble_eq_true rfl)) dX5_cut_24 ⟨Nat.le_of_ble_eq_true rfl, Nat.le_of_ble_eq_true rfl⟩) (fun r_4 e_4 => ?_)
      subst e_4
      refine W.eq (g2 := F0 m 27 ls ([.ref r_4])) rfl ?_
      refine lv_iload_n hx hb dX5_cut_27 rfl (lv_at hl 2 rfl) ?_
      obtain ⟨n_5, hn_5⟩ := cW_R (c4 := c4) (u := u) (zrow hZ hc_4)
      refine va_put (D := D) (ci := 3) (v := .int a2) (ty := .int) (C := RX4) (T := TX4) (N := 2) hx hb hts (fun w h => wm (zin_X4 w h)) tyX4 tyX4_ok nmX4 hown hK hP hD hS n_5 hn_5 rfl 1 (by decide) (hts _ (wm zw_43)) (fun _ h9 => h9) rfl (by decide +kernel) rfl rfl (Nat.le_of_ble_eq_true rfl) dX5_cut_28 (fun H locs hP hD hS => ?_)
      have hq := fun (hd : va_D A (cW c4 Z u)) => cW_setS (A := A) (v := a2) hd (zrow hZ hc_4) hn_5 
      have hD0 : va_D A (cW c4 Z u) := by assumption
      have hP : va_P D vwCl (cW c4 Z (sS u r_4 a2)) H := by rw [← hq hD0]; exact hP
      have hD : va_D A (cW c4 Z (sS u r_4 a2)) := by rw [← hq hD0]; exact hD
      refine lv_aload_n hx hb dX5_cut_31 rfl (lv_at hl 0 rfl) ?_
      obtain ⟨x_7, hc_7, h⟩ := zb_bind h
      try dsimp only at h
      refine va_callv (va_runV (As := []) (rest := []) ⟨hx, hb, hml, hown, hts⟩ (ct_X5_endHandles l D c4 A Z hZ (sS u r_4 a2) _ hc_7) (cwV 0 hts (wz_V zw_172 zw_174 zs_0 zw_1 zw_175) rfl rfl rfl (by decide +kernel) ⟨Nat.le_of_ble_eq_true rfl, Nat.le_of_ble_eq_true rfl⟩) ⟨fbC, va_recv hK hP (ci := 4) (q0 := 0) rfl rfl, fun U9 hU hW => ⟨rfl, goC hP hD hK hA hE hS hU hW⟩⟩ rfl rfl hl.1 rfl (lv_room (Nat.le_of_ble_eq_true rfl)) dX5_cut_32 ⟨Nat.le_of_ble_eq_true rfl, Nat.le_of_ble_eq_true rfl⟩) hS (fun q _ h => h) (fun q h => h) (fun u_7 t H1 locs ht hvm e_7 hB hz1 hk1 hS => ?_)
      subst e_7
      try dsimp only at h
      obtain ⟨hP, hD, -, -⟩ := hB
      rw [ht] at hP
      generalize H1 = H at hP hS ⊢
      refine lv_iconst (v := (1 : Int32)) hx hb dX5_cut_35 (by decide) ?_
      exact W.zret (v := (1 : Int32)) (ty := .boolean) hx hb hr rfl (fun t ht hW => ⟨⟨(1 : Int32), u_7, rfl, (Option.some.inj h).symm, wPre_go hP hD hK hA hS ht hW.alike⟩, hS.F ht⟩) hS.2.2 dX5_cut_36
    · skip
      rw [if_pos c_3] at h
      refine lv_iconst (v := (0 : Int32)) hx hb dX5_cut_17 (by decide) ?_
      exact W.zret (v := (0 : Int32)) (ty := .boolean) hx hb hr rfl (fun t ht hW => ⟨⟨(0 : Int32), u, rfl, (Option.some.inj h).symm, wPre_go hP hD hK hA hS ht hW.alike⟩, hS.F ht⟩) hS.2.2 dX5_cut_18
def pX5_budget (Z : CZ) (u : CS) (a1 : Int32) : Option (CS × Int32) := (if a1 < 0 then some (u, (0 : Int32)) else (if a1 ≤ (63 : Int32) then some ((sI u 3 a1), (1 : Int32)) else some (u, (0 : Int32))))
set_option maxHeartbeats 4000000 in
set_option maxRecDepth 100000 in
theorem ct_X5_budget (l : Launch) (D : va_G) (c4 : Nat → ClassId) (A : Nat → Prop) (Z : CZ) (hZ : cok Z) (u : CS) (a1 : Int32) (res : CS × Int32) (h : pX5_budget Z u a1 = some res) : Met l yX5_budget (wz yX5_budget cX5_budget 2 (some .boolean)) ({ frames := 0, cells := 0, slots := 0, locals := 0 } : Room) (va_Pc [.ref (Zz Z 0), .int a1] (fun U => cPre D c4 A Z u U)) (va_Qi (fun q w => res = (w, q)) (fun w t => wPre D c4 A (cW c4 Z w) t) A) 0 0 A := by
  refine Met.ofW (cc := cX5_budget) (maxL := 2) (ret := (some .boolean)) (by decide) rfl ?_
  intro p e s m args below meth c s₁ B hml hv
  obtain ⟨rfl, ⟨hP, hD, hK, hA⟩, hE⟩ := hv
  have hx := B.exec
  have hb := B.bytes
  have hr := B.returns
  have hts := atoms_spec (ws := (wz yX5_budget cX5_budget 2 (some .boolean))) B.pre
  have hown : s.vm.findClass RX5 = some m.cls := findClass_of_methodNamed B.named
  have hlocks := B.notSynchronized
  have hS : va_S A s.heap s.heap [] := va_S.rf
  have hl := lv_entry ([.ref (Zz Z 0), .int a1]) (n := 2) (Nat.le_of_ble_eq_true rfl)
  rw [lg_entry_eq]
  generalize (lg_sl ([.ref (Zz Z 0), .int a1]) ++ List.replicate (2 - (lg_sl ([.ref (Zz Z 0), .int a1])).length) Slot.unset).toArray = ls at hl ⊢
  have hl : lv_has ls 2 [(0, .ref (Zz Z 0)), (1, .int a1)] := hl
  unfold pX5_budget at h
  refine lv_iload_n hx hb dX5_budget_0 rfl (lv_at hl 1 rfl) ?_
  refine lv_if_lt (tgt := 10) hx hb dX5_budget_1 (by decide) (fun c_1 => ?_) (fun c_1 => ?_)
  · skip
    rw [if_pos c_1] at h
    refine lv_iconst (v := (0 : Int32)) hx hb dX5_budget_10 (by decide) ?_
    exact W.zret (v := (0 : Int32)) (ty := .boolean) hx hb hr rfl (fun t ht hW => ⟨⟨(0 : Int32), u, rfl, (Option.some.inj h).symm, wPre_go hP hD hK hA hS ht hW.alike⟩, hS.F ht⟩) hS.2.2 dX5_budget_11
  · skip
    rw [if_neg c_1] at h
    refine lv_iload_n hx hb dX5_budget_4 rfl (lv_at hl 1 rfl) ?_
    refine lv_bipush (v := (63 : Int32)) hx hb dX5_budget_5 (by decide) ?_
    refine lv_icmp_le (tgt := 12) hx hb dX5_budget_7 (by decide) (fun c_2 => ?_) (fun c_2 => ?_)
    · skip
      rw [if_pos c_2] at h
      refine lv_aload_n hx hb dX5_budget_12 rfl (lv_at hl 0 rfl) ?_
      refine lv_iload_n hx hb dX5_budget_13 rfl (lv_at hl 1 rfl) ?_
      refine va_put (D := D) (ci := 4) (v := .int a1) (ty := .int) (C := RX5) (T := TX5) (N := 9) hx hb hts (fun w h => wm (zin_X5 w h)) tyX5 tyX5_ok nmX5 hown hK hP hD hS 0 rfl rfl 8 (by decide) (hts _ (wm zw_136)) (fun _ h9 => h9) rfl (by decide +kernel) rfl rfl (Nat.le_of_ble_eq_true rfl) dX5_budget_14 (fun H locs hP hD hS => ?_)
      have hP : va_P D vwCl (cW c4 Z (sI u 3 a1)) H := hP
      have hD : va_D A (cW c4 Z (sI u 3 a1)) := hD
      refine lv_iconst (v := (1 : Int32)) hx hb dX5_budget_17 (by decide) ?_
      exact W.zret (v := (1 : Int32)) (ty := .boolean) hx hb hr rfl (fun t ht hW => ⟨⟨(1 : Int32), (sI u 3 a1), rfl, (Option.some.inj h).symm, wPre_go hP hD hK hA hS ht hW.alike⟩, hS.F ht⟩) hS.2.2 dX5_budget_18
    · skip
      rw [if_neg c_2] at h
      refine lv_iconst (v := (0 : Int32)) hx hb dX5_budget_10 (by decide) ?_
      exact W.zret (v := (0 : Int32)) (ty := .boolean) hx hb hr rfl (fun t ht hW => ⟨⟨(0 : Int32), u, rfl, (Option.some.inj h).symm, wPre_go hP hD hK hA hS ht hW.alike⟩, hS.F ht⟩) hS.2.2 dX5_budget_11
def pX5_adopt (Z : CZ) (u : CS) : Option (CS × Int32) := (if (Us u (Zz Z 7)) = 0 then some (u, (0 : Int32)) else ((pX3_row Z u (0 : Int32)).bind fun r_3 => ((pX4_become Z u r_3 (Zz Z 7)).bind fun x_4 => ((pX3_row Z (x_4.1) (1 : Int32)).bind fun r_7 => ((pX3_row Z (sS (x_4.1) r_7 (0 : Int32)) (2 : Int32)).bind fun r_11 => ((pX3_row Z (sS (sS (x_4.1) r_7 (0 : Int32)) r_11 (0 : Int32)) (3 : Int32)).bind fun r_15 => ((pX5_endHandles Z (sS (sS (sS (x_4.1) r_7 (0 : Int32)) r_11 (0 : Int32)) r_15 (0 : Int32))).bind fun x_19 => some ((x_19.1), (1 : Int32)))))))))
set_option maxHeartbeats 4000000 in
set_option maxRecDepth 100000 in
theorem ct_X5_adopt (l : Launch) (D : va_G) (c4 : Nat → ClassId) (A : Nat → Prop) (Z : CZ) (hZ : cok Z) (u : CS) (res : CS × Int32) (h : pX5_adopt Z u = some res) : Met l yX5_adopt (wz yX5_adopt cX5_adopt 2 (some .boolean)) ({ frames := 2, cells := 0, slots := 0, locals := 89 } : Room) (va_Pc [.ref (Zz Z 0)] (fun U => cPre D c4 A Z u U)) (va_Qi (fun q w => res = (w, q)) (fun w t => wPre D c4 A (cW c4 Z w) t) A) 0 0 A := by
  refine Met.ofW (cc := cX5_adopt) (maxL := 2) (ret := (some .boolean)) (by decide) rfl ?_
  intro p e s m args below meth c s₁ B hml hv
  obtain ⟨rfl, ⟨hP, hD, hK, hA⟩, hE⟩ := hv
  have hx := B.exec
  have hb := B.bytes
  have hr := B.returns
  have hts := atoms_spec (ws := (wz yX5_adopt cX5_adopt 2 (some .boolean))) B.pre
  have hown : s.vm.findClass RX5 = some m.cls := findClass_of_methodNamed B.named
  have hlocks := B.notSynchronized
  have hS : va_S A s.heap s.heap [] := va_S.rf
  have hl := lv_entry ([.ref (Zz Z 0)]) (n := 2) (Nat.le_of_ble_eq_true rfl)
  rw [lg_entry_eq]
  generalize (lg_sl ([.ref (Zz Z 0)]) ++ List.replicate (2 - (lg_sl ([.ref (Zz Z 0)])).length) Slot.unset).toArray = ls at hl ⊢
  have hl : lv_has ls 2 [(0, .ref (Zz Z 0))] := hl
  unfold pX5_adopt at h
  refine lv_aload_n hx hb dX5_adopt_0 rfl (lv_at hl 0 rfl) ?_
  refine va_get (D := D) (ci := 4) (v := .ref (Zz Z 7)) (C := RX5) (T := TX5) (N := 9) hx hb hts (fun w h => wm (zin_X5 w h)) hown hK hP 0 rfl rfl 4 (by decide) (hts _ (wm zw_132)) (fun _ h9 => h9) rfl dX5_adopt_1 ?_
  obtain ⟨n_1, hn_1⟩ := cW_R (c4 := c4) (u := u) hZ.2.2.2.2.1
  refine va_get (D := D) (ci := 3) (v := .int (Us u (Zz Z 7))) (C := RX4) (T := TX4) (N := 2) hx hb hts (fun w h => wm (zin_X4 w h)) hown hK hP n_1 hn_1 rfl 1 (by decide) (hts _ (wm zw_43)) (fun _ h9 => h9) rfl dX5_adopt_4 ?_
  refine lv_if_ne (tgt := 12) hx hb dX5_adopt_7 (by decide) (fun c_2 => ?_) (fun c_2 => ?_)
  · skip
    rw [if_neg c_2] at h
    refine lv_aload_n hx hb dX5_adopt_12 rfl (lv_at hl 0 rfl) ?_
    refine va_get (D := D) (ci := 4) (v := .ref (Zz Z 1)) (C := RX5) (T := TX5) (N := 9) hx hb hts (fun w h => wm (zin_X5 w h)) hown hK hP 0 rfl rfl 0 (by decide) (hts _ (wm zw_128)) (fun _ h9 => h9) rfl dX5_adopt_13 ?_
    refine lv_iconst (v := (0 : Int32)) hx hb dX5_adopt_16 (by decide) ?_
    obtain ⟨q_3, hc_3, h⟩ := zb_bind h
    try dsimp only at h
    refine va_csr (W.runV (As := [.int (0 : Int32)]) (rest := []) ⟨hx, hb, hml, hown, hts⟩ (ct_X3_row l D c4 A Z hZ u (0 : Int32) _ hc_3) (cwV 1 hts (wz_V zw_164 zw_165 zw_166 zw_2 zw_167) rfl rfl rfl (by decide +kernel) ⟨Nat.le_of_ble_eq_true rfl, Nat.le_of_ble_eq_true rfl⟩) ⟨fbC, va_recv hK hP (ci := 2) (q0 := 1) rfl rfl, fun U9 hU hW => ⟨rfl, goC hP hD hK hA hE hS hU hW⟩⟩ rfl rfl hl.1 rfl (lv_room (Nat.le_of_ble_eq_true rfl)) dX5_adopt_17 ⟨Nat.le_of_ble_eq_true rfl, Nat.le_of_ble_eq_true rfl⟩) (fun r_3 e_3 => ?_)
    subst e_3
    refine W.eq (g2 := F0 m 20 ls ([.ref r_3])) rfl ?_
    refine lv_aload_n hx hb dX5_adopt_20 rfl (lv_at hl 0 rfl) ?_
    refine va_get (D := D) (ci := 4) (v := .ref (Zz Z 7)) (C := RX5) (T := TX5) (N := 9) hx hb hts (fun w h => wm (zin_X5 w h)) hown hK hP 0 rfl rfl 4 (by decide) (hts _ (wm zw_132)) (fun _ h9 => h9) rfl dX5_adopt_21 ?_
    obtain ⟨n_5, hn_5⟩ := cW_R (c4 := c4) (u := u) (zrow hZ hc_3)
    obtain ⟨x_4, hc_4, h⟩ := zb_bind h
    try dsimp only at h
    refine va_callv (va_runV (As := [.ref (Zz Z 7)]) (rest := []) ⟨hx, hb, hml, hown, hts⟩ (ct_X4_become l D c4 A Z hZ u r_3 (zrow hZ hc_3) (Zz Z 7) hZ.2.2.2.2.1 _ hc_4) (cwV 1 hts (wz_V zw_224 zw_225 zw_226 zw_3 zw_227) rfl rfl rfl (by decide +kernel) ⟨Nat.le_of_ble_eq_true rfl, Nat.le_of_ble_eq_true rfl⟩) ⟨fbC, va_recv hK hP (ci := 3) (q0 := n_5) rfl hn_5, fun U9 hU hW => ⟨rfl, goC hP hD hK hA hE hS hU hW⟩⟩ rfl rfl hl.1 rfl (lv_room (Nat.le_of_ble_eq_true rfl)) dX5_adopt_24 ⟨Nat.le_of_ble_eq_true rfl, Nat.le_of_ble_eq_true rfl⟩) hS (fun q _ h => h) (fun q h => h) (fun u_4 t H1 locs ht hvm e_4 hB hz1 hk1 hS => ?_)
    subst e_4
    try dsimp only at h
    obtain ⟨hP, hD, -, -⟩ := hB
    rw [ht] at hP
    generalize H1 = H at hP hS ⊢
    refine lv_iconst (v := (1 : Int32)) hx hb dX5_adopt_27 (by decide) ?_
    refine lv_istore_n (lv' := [(1, .int (1 : Int32)), (0, .ref (Zz Z 0))]) hx hb dX5_adopt_28 rfl hl (by decide) rfl (fun ls hl => ?_)
    refine lv_iload_n hx hb dX5_adopt_29 rfl (lv_at hl 0 rfl) ?_
    refine lv_iconst (v := (4 : Int32)) hx hb dX5_adopt_30 (by decide) ?_
    refine lv_icmp_ge (tgt := 52) hx hb dX5_adopt_31 (by decide) (fun c_6 => ?_) (fun c_6 => ?_)
    · exact absurd c_6 (by decide)
    · skip
      refine lv_aload_n hx hb dX5_adopt_34 rfl (lv_at hl 1 rfl) ?_
      refine va_get (D := D) (ci := 4) (v := .ref (Zz Z 1)) (C := RX5) (T := TX5) (N := 9) hx hb hts (fun w h => wm (zin_X5 w h)) hown hK hP 0 rfl rfl 0 (by decide) (hts _ (wm zw_128)) (fun _ h9 => h9) rfl dX5_adopt_35 ?_
      refine lv_iload_n hx hb dX5_adopt_38 rfl (lv_at hl 0 rfl) ?_
      obtain ⟨q_7, hc_7, h⟩ := zb_bind h
      try dsimp only at h
      refine va_csr (W.runV (As := [.int (1 : Int32)]) (rest := []) ⟨hx, hb, hml, hown, hts⟩ (ct_X3_row l D c4 A Z hZ u_4 (1 : Int32) _ hc_7) (cwV 1 hts (wz_V zw_164 zw_165 zw_166 zw_2 zw_167) rfl rfl rfl (by decide +kernel) ⟨Nat.le_of_ble_eq_true rfl, Nat.le_of_ble_eq_true rfl⟩) ⟨fbC, va_recv hK hP (ci := 2) (q0 := 1) rfl rfl, fun U9 hU hW => ⟨rfl, goC hP hD hK hA hE hS hU hW⟩⟩ rfl rfl hl.1 rfl (lv_room (Nat.le_of_ble_eq_true rfl)) dX5_adopt_39 ⟨Nat.le_of_ble_eq_true rfl, Nat.le_of_ble_eq_true rfl⟩) (fun r_7 e_7 => ?_)
      subst e_7
      refine W.eq (g2 := F0 m 42 ls ([.ref r_7])) rfl ?_
      refine lv_iconst (v := (0 : Int32)) hx hb dX5_adopt_42 (by decide) ?_
      obtain ⟨n_8, hn_8⟩ := cW_R (c4 := c4) (u := u_4) (zrow hZ hc_7)
      refine va_put (D := D) (ci := 3) (v := .int (0 : Int32)) (ty := .int) (C := RX4) (T := TX4) (N := 2) hx hb hts (fun w h => wm (zin_X4 w h)) tyX4 tyX4_ok nmX4 hown hK hP hD hS n_8 hn_8 rfl 1 (by decide) (hts _ (wm zw_43)) (fun _ h9 => h9) rfl (by decide +kernel) rfl rfl (Nat.le_of_ble_eq_true rfl) dX5_adopt_43 (fun H locs hP hD hS => ?_)
      have hq := fun (hd : va_D A (cW c4 Z u_4)) => cW_setS (A := A) (v := (0 : Int32)) hd (zrow hZ hc_7) hn_8 
      have hD0 : va_D A (cW c4 Z u_4) := by assumption
      have hP : va_P D vwCl (cW c4 Z (sS u_4 r_7 (0 : Int32))) H := by rw [← hq hD0]; exact hP
      have hD : va_D A (cW c4 Z (sS u_4 r_7 (0 : Int32))) := by rw [← hq hD0]; exact hD
      refine lv_iinc (v := (2 : Int32)) (lv' := [(1, .int (2 : Int32)), (0, .ref (Zz Z 0))]) hx hb dX5_adopt_46 hl (k := 0) rfl rfl (by decide) rfl (fun ls hl => ?_)
      refine lv_goto (tgt := 29) hx hb dX5_adopt_49 (by decide) ?_
      refine lv_iload_n hx hb dX5_adopt_29 rfl (lv_at hl 0 rfl) ?_
      refine lv_iconst (v := (4 : Int32)) hx hb dX5_adopt_30 (by decide) ?_
      refine lv_icmp_ge (tgt := 52) hx hb dX5_adopt_31 (by decide) (fun c_10 => ?_) (fun c_10 => ?_)
      · exact absurd c_10 (by decide)
      · skip
        refine lv_aload_n hx hb dX5_adopt_34 rfl (lv_at hl 1 rfl) ?_
        refine va_get (D := D) (ci := 4) (v := .ref (Zz Z 1)) (C := RX5) (T := TX5) (N := 9) hx hb hts (fun w h => wm (zin_X5 w h)) hown hK hP 0 rfl rfl 0 (by decide) (hts _ (wm zw_128)) (fun _ h9 => h9) rfl dX5_adopt_35 ?_
        refine lv_iload_n hx hb dX5_adopt_38 rfl (lv_at hl 0 rfl) ?_
        obtain ⟨q_11, hc_11, h⟩ := zb_bind h
        try dsimp only at h
        refine va_csr (W.runV (As := [.int (2 : Int32)]) (rest := []) ⟨hx, hb, hml, hown, hts⟩ (ct_X3_row l D c4 A Z hZ (sS u_4 r_7 (0 : Int32)) (2 : Int32) _ hc_11) (cwV 1 hts (wz_V zw_164 zw_165 zw_166 zw_2 zw_167) rfl rfl rfl (by decide +kernel) ⟨Nat.le_of_ble_eq_true rfl, Nat.le_of_ble_eq_true rfl⟩) ⟨fbC, va_recv hK hP (ci := 2) (q0 := 1) rfl rfl, fun U9 hU hW => ⟨rfl, goC hP hD hK hA hE hS hU hW⟩⟩ rfl rfl hl.1 rfl (lv_room (Nat.le_of_ble_eq_true rfl)) dX5_adopt_39 ⟨Nat.le_of_ble_eq_true rfl, Nat.le_of_ble_eq_true rfl⟩) (fun r_11 e_11 => ?_)
        subst e_11
        refine W.eq (g2 := F0 m 42 ls ([.ref r_11])) rfl ?_
        refine lv_iconst (v := (0 : Int32)) hx hb dX5_adopt_42 (by decide) ?_
        obtain ⟨n_12, hn_12⟩ := cW_R (c4 := c4) (u := (sS u_4 r_7 (0 : Int32))) (zrow hZ hc_11)
        refine va_put (D := D) (ci := 3) (v := .int (0 : Int32)) (ty := .int) (C := RX4) (T := TX4) (N := 2) hx hb hts (fun w h => wm (zin_X4 w h)) tyX4 tyX4_ok nmX4 hown hK hP hD hS n_12 hn_12 rfl 1 (by decide) (hts _ (wm zw_43)) (fun _ h9 => h9) rfl (by decide +kernel) rfl rfl (Nat.le_of_ble_eq_true rfl) dX5_adopt_43 (fun H locs hP hD hS => ?_)
        have hq := fun (hd : va_D A (cW c4 Z (sS u_4 r_7 (0 : Int32)))) => cW_setS (A := A) (v := (0 : Int32)) hd (zrow hZ hc_11) hn_12 
        have hD0 : va_D A (cW c4 Z (sS u_4 r_7 (0 : Int32))) := by assumption
        have hP : va_P D vwCl (cW c4 Z (sS (sS u_4 r_7 (0 : Int32)) r_11 (0 : Int32))) H := by rw [← hq hD0]; exact hP
        have hD : va_D A (cW c4 Z (sS (sS u_4 r_7 (0 : Int32)) r_11 (0 : Int32))) := by rw [← hq hD0]; exact hD
        refine lv_iinc (v := (3 : Int32)) (lv' := [(1, .int (3 : Int32)), (0, .ref (Zz Z 0))]) hx hb dX5_adopt_46 hl (k := 0) rfl rfl (by decide) rfl (fun ls hl => ?_)
        refine lv_goto (tgt := 29) hx hb dX5_adopt_49 (by decide) ?_
        refine lv_iload_n hx hb dX5_adopt_29 rfl (lv_at hl 0 rfl) ?_
        refine lv_iconst (v := (4 : Int32)) hx hb dX5_adopt_30 (by decide) ?_
        refine lv_icmp_ge (tgt := 52) hx hb dX5_adopt_31 (by decide) (fun c_14 => ?_) (fun c_14 => ?_)
        · exact absurd c_14 (by decide)
        · skip
          refine lv_aload_n hx hb dX5_adopt_34 rfl (lv_at hl 1 rfl) ?_
          refine va_get (D := D) (ci := 4) (v := .ref (Zz Z 1)) (C := RX5) (T := TX5) (N := 9) hx hb hts (fun w h => wm (zin_X5 w h)) hown hK hP 0 rfl rfl 0 (by decide) (hts _ (wm zw_128)) (fun _ h9 => h9) rfl dX5_adopt_35 ?_
          refine lv_iload_n hx hb dX5_adopt_38 rfl (lv_at hl 0 rfl) ?_
          obtain ⟨q_15, hc_15, h⟩ := zb_bind h
          try dsimp only at h
          refine va_csr (W.runV (As := [.int (3 : Int32)]) (rest := []) ⟨hx, hb, hml, hown, hts⟩ (ct_X3_row l D c4 A Z hZ (sS (sS u_4 r_7 (0 : Int32)) r_11 (0 : Int32)) (3 : Int32) _ hc_15) (cwV 1 hts (wz_V zw_164 zw_165 zw_166 zw_2 zw_167) rfl rfl rfl (by decide +kernel) ⟨Nat.le_of_ble_eq_true rfl, Nat.le_of_ble_eq_true rfl⟩) ⟨fbC, va_recv hK hP (ci := 2) (q0 := 1) rfl rfl, fun U9 hU hW => ⟨rfl, goC hP hD hK hA hE hS hU hW⟩⟩ rfl rfl hl.1 rfl (lv_room (Nat.le_of_ble_eq_true rfl)) dX5_adopt_39 ⟨Nat.le_of_ble_eq_true rfl, Nat.le_of_ble_eq_true rfl⟩) (fun r_15 e_15 => ?_)
          subst e_15
          refine W.eq (g2 := F0 m 42 ls ([.ref r_15])) rfl ?_
          refine lv_iconst (v := (0 : Int32)) hx hb dX5_adopt_42 (by decide) ?_
          obtain ⟨n_16, hn_16⟩ := cW_R (c4 := c4) (u := (sS (sS u_4 r_7 (0 : Int32)) r_11 (0 : Int32))) (zrow hZ hc_15)
          refine va_put (D := D) (ci := 3) (v := .int (0 : Int32)) (ty := .int) (C := RX4) (T := TX4) (N := 2) hx hb hts (fun w h => wm (zin_X4 w h)) tyX4 tyX4_ok nmX4 hown hK hP hD hS n_16 hn_16 rfl 1 (by decide) (hts _ (wm zw_43)) (fun _ h9 => h9) rfl (by decide +kernel) rfl rfl (Nat.le_of_ble_eq_true rfl) dX5_adopt_43 (fun H locs hP hD hS => ?_)
          have hq := fun (hd : va_D A (cW c4 Z (sS (sS u_4 r_7 (0 : Int32)) r_11 (0 : Int32)))) => cW_setS (A := A) (v := (0 : Int32)) hd (zrow hZ hc_15) hn_16 
          have hD0 : va_D A (cW c4 Z (sS (sS u_4 r_7 (0 : Int32)) r_11 (0 : Int32))) := by assumption
          have hP : va_P D vwCl (cW c4 Z (sS (sS (sS u_4 r_7 (0 : Int32)) r_11 (0 : Int32)) r_15 (0 : Int32))) H := by rw [← hq hD0]; exact hP
          have hD : va_D A (cW c4 Z (sS (sS (sS u_4 r_7 (0 : Int32)) r_11 (0 : Int32)) r_15 (0 : Int32))) := by rw [← hq hD0]; exact hD
          refine lv_iinc (v := (4 : Int32)) (lv' := [(1, .int (4 : Int32)), (0, .ref (Zz Z 0))]) hx hb dX5_adopt_46 hl (k := 0) rfl rfl (by decide) rfl (fun ls hl => ?_)
          refine lv_goto (tgt := 29) hx hb dX5_adopt_49 (by decide) ?_
          refine lv_iload_n hx hb dX5_adopt_29 rfl (lv_at hl 0 rfl) ?_
          refine lv_iconst (v := (4 : Int32)) hx hb dX5_adopt_30 (by decide) ?_
          refine lv_icmp_ge (tgt := 52) hx hb dX5_adopt_31 (by decide) (fun c_18 => ?_) (fun c_18 => ?_)
          · skip
            refine lv_aload_n hx hb dX5_adopt_52 rfl (lv_at hl 1 rfl) ?_
            obtain ⟨x_19, hc_19, h⟩ := zb_bind h
            try dsimp only at h
            refine va_callv (va_runV (As := []) (rest := []) ⟨hx, hb, hml, hown, hts⟩ (ct_X5_endHandles l D c4 A Z hZ (sS (sS (sS u_4 r_7 (0 : Int32)) r_11 (0 : Int32)) r_15 (0 : Int32)) _ hc_19) (cwV 0 hts (wz_V zw_172 zw_174 zs_0 zw_1 zw_175) rfl rfl rfl (by decide +kernel) ⟨Nat.le_of_ble_eq_true rfl, Nat.le_of_ble_eq_true rfl⟩) ⟨fbC, va_recv hK hP (ci := 4) (q0 := 0) rfl rfl, fun U9 hU hW => ⟨rfl, goC hP hD hK hA hE hS hU hW⟩⟩ rfl rfl hl.1 rfl (lv_room (Nat.le_of_ble_eq_true rfl)) dX5_adopt_53 ⟨Nat.le_of_ble_eq_true rfl, Nat.le_of_ble_eq_true rfl⟩) hS (fun q _ h => h) (fun q h => h) (fun u_19 t H1 locs ht hvm e_19 hB hz1 hk1 hS => ?_)
            subst e_19
            try dsimp only at h
            obtain ⟨hP, hD, -, -⟩ := hB
            rw [ht] at hP
            generalize H1 = H at hP hS ⊢
            refine lv_iconst (v := (1 : Int32)) hx hb dX5_adopt_56 (by decide) ?_
            exact W.zret (v := (1 : Int32)) (ty := .boolean) hx hb hr rfl (fun t ht hW => ⟨⟨(1 : Int32), u_19, rfl, (Option.some.inj h).symm, wPre_go hP hD hK hA hS ht hW.alike⟩, hS.F ht⟩) hS.2.2 dX5_adopt_57
          · exact absurd c_18 (by decide)
  · skip
    rw [if_pos c_2] at h
    refine lv_iconst (v := (0 : Int32)) hx hb dX5_adopt_10 (by decide) ?_
    exact W.zret (v := (0 : Int32)) (ty := .boolean) hx hb hr rfl (fun t ht hW => ⟨⟨(0 : Int32), u, rfl, (Option.some.inj h).symm, wPre_go hP hD hK hA hS ht hW.alike⟩, hS.F ht⟩) hS.2.2 dX5_adopt_11
def pX5_keep (Z : CZ) (u : CS) : Option (CS × Int32) := (if (Us u (Zz Z 7)) = 0 then some (u, (0 : Int32)) else ((pX4_become Z u (Zz Z 8) (Zz Z 7)).bind fun x_3 => some ((x_3.1), (1 : Int32))))
set_option maxHeartbeats 4000000 in
set_option maxRecDepth 100000 in
theorem ct_X5_keep (l : Launch) (D : va_G) (c4 : Nat → ClassId) (A : Nat → Prop) (Z : CZ) (hZ : cok Z) (u : CS) (res : CS × Int32) (h : pX5_keep Z u = some res) : Met l yX5_keep (wz yX5_keep cX5_keep 1 (some .boolean)) ({ frames := 2, cells := 0, slots := 0, locals := 89 } : Room) (va_Pc [.ref (Zz Z 0)] (fun U => cPre D c4 A Z u U)) (va_Qi (fun q w => res = (w, q)) (fun w t => wPre D c4 A (cW c4 Z w) t) A) 0 0 A := by
  refine Met.ofW (cc := cX5_keep) (maxL := 1) (ret := (some .boolean)) (by decide) rfl ?_
  intro p e s m args below meth c s₁ B hml hv
  obtain ⟨rfl, ⟨hP, hD, hK, hA⟩, hE⟩ := hv
  have hx := B.exec
  have hb := B.bytes
  have hr := B.returns
  have hts := atoms_spec (ws := (wz yX5_keep cX5_keep 1 (some .boolean))) B.pre
  have hown : s.vm.findClass RX5 = some m.cls := findClass_of_methodNamed B.named
  have hlocks := B.notSynchronized
  have hS : va_S A s.heap s.heap [] := va_S.rf
  have hl := lv_entry ([.ref (Zz Z 0)]) (n := 1) (Nat.le_of_ble_eq_true rfl)
  rw [lg_entry_eq]
  generalize (lg_sl ([.ref (Zz Z 0)]) ++ List.replicate (1 - (lg_sl ([.ref (Zz Z 0)])).length) Slot.unset).toArray = ls at hl ⊢
  have hl : lv_has ls 1 [(0, .ref (Zz Z 0))] := hl
  unfold pX5_keep at h
  refine lv_aload_n hx hb dX5_keep_0 rfl (lv_at hl 0 rfl) ?_
  refine va_get (D := D) (ci := 4) (v := .ref (Zz Z 7)) (C := RX5) (T := TX5) (N := 9) hx hb hts (fun w h => wm (zin_X5 w h)) hown hK hP 0 rfl rfl 4 (by decide) (hts _ (wm zw_132)) (fun _ h9 => h9) rfl dX5_keep_1 ?_
  obtain ⟨n_1, hn_1⟩ := cW_R (c4 := c4) (u := u) hZ.2.2.2.2.1
  refine va_get (D := D) (ci := 3) (v := .int (Us u (Zz Z 7))) (C := RX4) (T := TX4) (N := 2) hx hb hts (fun w h => wm (zin_X4 w h)) hown hK hP n_1 hn_1 rfl 1 (by decide) (hts _ (wm zw_43)) (fun _ h9 => h9) rfl dX5_keep_4 ?_
  refine lv_if_ne (tgt := 12) hx hb dX5_keep_7 (by decide) (fun c_2 => ?_) (fun c_2 => ?_)
  · skip
    rw [if_neg c_2] at h
    refine lv_aload_n hx hb dX5_keep_12 rfl (lv_at hl 0 rfl) ?_
    refine va_get (D := D) (ci := 4) (v := .ref (Zz Z 8)) (C := RX5) (T := TX5) (N := 9) hx hb hts (fun w h => wm (zin_X5 w h)) hown hK hP 0 rfl rfl 5 (by decide) (hts _ (wm zw_133)) (fun _ h9 => h9) rfl dX5_keep_13 ?_
    refine lv_aload_n hx hb dX5_keep_16 rfl (lv_at hl 0 rfl) ?_
    refine va_get (D := D) (ci := 4) (v := .ref (Zz Z 7)) (C := RX5) (T := TX5) (N := 9) hx hb hts (fun w h => wm (zin_X5 w h)) hown hK hP 0 rfl rfl 4 (by decide) (hts _ (wm zw_132)) (fun _ h9 => h9) rfl dX5_keep_17 ?_
    obtain ⟨n_4, hn_4⟩ := cW_R (c4 := c4) (u := u) hZ.2.2.2.2.2.1
    obtain ⟨x_3, hc_3, h⟩ := zb_bind h
    try dsimp only at h
    refine va_callv (va_runV (As := [.ref (Zz Z 7)]) (rest := []) ⟨hx, hb, hml, hown, hts⟩ (ct_X4_become l D c4 A Z hZ u (Zz Z 8) hZ.2.2.2.2.2.1 (Zz Z 7) hZ.2.2.2.2.1 _ hc_3) (cwV 1 hts (wz_V zw_224 zw_225 zw_226 zw_3 zw_227) rfl rfl rfl (by decide +kernel) ⟨Nat.le_of_ble_eq_true rfl, Nat.le_of_ble_eq_true rfl⟩) ⟨fbC, va_recv hK hP (ci := 3) (q0 := n_4) rfl hn_4, fun U9 hU hW => ⟨rfl, goC hP hD hK hA hE hS hU hW⟩⟩ rfl rfl hl.1 rfl (lv_room (Nat.le_of_ble_eq_true rfl)) dX5_keep_20 ⟨Nat.le_of_ble_eq_true rfl, Nat.le_of_ble_eq_true rfl⟩) hS (fun q _ h => h) (fun q h => h) (fun u_3 t H1 locs ht hvm e_3 hB hz1 hk1 hS => ?_)
    subst e_3
    try dsimp only at h
    obtain ⟨hP, hD, -, -⟩ := hB
    rw [ht] at hP
    generalize H1 = H at hP hS ⊢
    refine lv_iconst (v := (1 : Int32)) hx hb dX5_keep_23 (by decide) ?_
    exact W.zret (v := (1 : Int32)) (ty := .boolean) hx hb hr rfl (fun t ht hW => ⟨⟨(1 : Int32), u_3, rfl, (Option.some.inj h).symm, wPre_go hP hD hK hA hS ht hW.alike⟩, hS.F ht⟩) hS.2.2 dX5_keep_24
  · skip
    rw [if_pos c_2] at h
    refine lv_iconst (v := (0 : Int32)) hx hb dX5_keep_10 (by decide) ?_
    exact W.zret (v := (0 : Int32)) (ty := .boolean) hx hb hr rfl (fun t ht hW => ⟨⟨(0 : Int32), u, rfl, (Option.some.inj h).symm, wPre_go hP hD hK hA hS ht hW.alike⟩, hS.F ht⟩) hS.2.2 dX5_keep_11
