def pX3_requireLimits (Z : CZ) (u : CS) (a1 : Nat) (a2 : Int32) (a3 : Int32) : Option (CS × (Nat ⊕ Unit)) := (if (Uf u 6 a1) ≤ (8 : Int32) then (if a2 ≤ a3 then some (u, .inr ()) else some (u, .inl 4)) else some (u, .inl 4))
set_option maxHeartbeats 4000000 in
set_option maxRecDepth 100000 in
theorem ct_X3_requireLimits (l : Launch) (hl0 : l.stackTraces = false) (D : va_G) (c4 : Nat → ClassId) (A : Nat → Prop) (Z : CZ) (hZ : cok Z) (u : CS) (a1 : Nat) (ha1 : isF Z a1) (a2 : Int32) (a3 : Int32) (res : CS × (Nat ⊕ Unit)) (h : pX3_requireLimits Z u a1 a2 a3 = some res) : vx_Met l yX3_requireLimits (wz yX3_requireLimits cX3_requireLimits 3 none) ({ frames := 6, cells := 1, slots := 6, locals := 90 } : Room) (va_Pc [.ref a1, .int a2, .int a3] (fun U => cPre D c4 A Z u U)) (va_Qv (fun w => res = (w, .inr ())) (fun w t => wPre D c4 A (cW c4 Z w) t) A) (vx_X (fun kw : Nat × CS => res = (kw.2, .inl kw.1)) (fun E kw t => E = zEx kw.1 ∧ wPre D c4 A (cW c4 Z kw.2) t) A) 1 6 A := by
  refine vx_ofW (cc := cX3_requireLimits) (maxL := 3) (ret := none) (by decide) rfl ?_
  intro p e s m args below meth c s₁ B hml htb hv
  obtain ⟨rfl, ⟨hP, hD, hK, hA⟩, hE⟩ := hv
  have hx := B.exec
  have hb := B.bytes
  have hr := B.returns
  have hts := atoms_spec (ws := (wz yX3_requireLimits cX3_requireLimits 3 none)) B.pre
  have hown : s.vm.findClass RX3 = some m.cls := findClass_of_methodNamed B.named
  have hlocks := B.notSynchronized
  have hS : va_S A s.heap s.heap [] := va_S.rf
  have hl := lv_entry ([.ref a1, .int a2, .int a3]) (n := 3) (Nat.le_of_ble_eq_true rfl)
  rw [lg_entry_eq]
  generalize (lg_sl ([.ref a1, .int a2, .int a3]) ++ List.replicate (3 - (lg_sl ([.ref a1, .int a2, .int a3])).length) Slot.unset).toArray = ls at hl ⊢
  have hl : lv_has ls 3 [(0, .ref a1), (1, .int a2), (2, .int a3)] := hl
  unfold pX3_requireLimits at h
  refine lv_aload_n hx hb dX3_requireLimits_0 rfl (lv_at hl 0 rfl) ?_
  obtain ⟨n_1, hn_1⟩ := cW_F (c4 := c4) (u := u) ha1
  refine va_get (D := D) (ci := 1) (v := .int (Uf u 6 a1)) (C := RX2) (T := TX2) (N := 7) hx hb hts (fun w h => wm (zin_X2 w h)) hown hK hP n_1 hn_1 rfl 6 (by decide) (hts _ (wm zw_96)) (fun _ h9 => h9) rfl dX3_requireLimits_1 ?_
  refine lv_bipush (v := (8 : Int32)) hx hb dX3_requireLimits_4 (by decide) ?_
  refine lv_icmp_le (tgt := 19) hx hb dX3_requireLimits_6 (by decide) (fun c_2 => ?_) (fun c_2 => ?_)
  · skip
    rw [if_pos c_2] at h
    refine lv_iload_n hx hb dX3_requireLimits_19 rfl (lv_at hl 1 rfl) ?_
    refine lv_iload_n hx hb dX3_requireLimits_20 rfl (lv_at hl 2 rfl) ?_
    refine lv_icmp_le (tgt := 34) hx hb dX3_requireLimits_21 (by decide) (fun c_3 => ?_) (fun c_3 => ?_)
    · skip
      rw [if_pos c_3] at h
      refine vx_ret ?_
      exact W.vret hx hb hr (fun t ht hW => ⟨⟨u, rfl, (Option.some.inj h).symm, wPre_go hP hD hK hA hS ht hW.alike⟩, hS.F ht⟩) hS.2.2 dX3_requireLimits_34
    · skip
      rw [if_neg c_3] at h
      obtain ⟨sa, hsa⟩ := hE.2.2.2.2.1 ("PointedWords$Message", 94, "the budget does not suffice") (by decide)
      exact vx_throwS (A := A) (own := RX3) (cls := "java/lang/IllegalStateException") (names := ["java/lang/RuntimeException", "java/lang/Exception"]) hx hb hl0 hown (by decide +kernel) (by decide +kernel) (hts _ (wm zw_447)) (hts _ (wm zw_15)) hsa (zat_X3_93 (fun w h => hts w (wm h)) hE.2.2.2.2.2) zgd_X3_93 hE.1 hE.2.1 hS (hl.1.trans hml.symm) dX3_requireLimits_24 dX3_requireLimits_27 dX3_requireLimits_28 dX3_requireLimits_30 dX3_requireLimits_33 (fun x9 hx9 => (htb x9 hx9).elim) (Nat.le_of_ble_eq_true rfl) (Nat.le_of_ble_eq_true rfl) (Nat.le_of_ble_eq_true rfl) (Nat.le_of_ble_eq_true rfl) hlocks (fun t hal hz hk => ⟨(4, u), (Option.some.inj h).symm, ⟨rfl, wPre_up hP hD hK hA hS hz hk hal⟩, va_S_up hS hz hk⟩) hS.2.2 (Nat.le_of_ble_eq_true rfl) (Nat.le_of_ble_eq_true rfl)
  · skip
    rw [if_neg c_2] at h
    obtain ⟨sa, hsa⟩ := hE.2.2.2.2.1 ("PointedWords$Message", 91, "too deep") (by decide)
    exact vx_throwS (A := A) (own := RX3) (cls := "java/lang/IllegalStateException") (names := ["java/lang/RuntimeException", "java/lang/Exception"]) hx hb hl0 hown (by decide +kernel) (by decide +kernel) (hts _ (wm zw_447)) (hts _ (wm zw_15)) hsa (zat_X3_93 (fun w h => hts w (wm h)) hE.2.2.2.2.2) zgd_X3_93 hE.1 hE.2.1 hS (hl.1.trans hml.symm) dX3_requireLimits_9 dX3_requireLimits_12 dX3_requireLimits_13 dX3_requireLimits_15 dX3_requireLimits_18 (fun x9 hx9 => (htb x9 hx9).elim) (Nat.le_of_ble_eq_true rfl) (Nat.le_of_ble_eq_true rfl) (Nat.le_of_ble_eq_true rfl) (Nat.le_of_ble_eq_true rfl) hlocks (fun t hal hz hk => ⟨(4, u), (Option.some.inj h).symm, ⟨rfl, wPre_up hP hD hK hA hS hz hk hal⟩, va_S_up hS hz hk⟩) hS.2.2 (Nat.le_of_ble_eq_true rfl) (Nat.le_of_ble_eq_true rfl)
def pX3_locateNear (Z : CZ) (u : CS) (a1 : Int64) (a2 : Int32) (a3 : Int32) (a4 : Nat) : Option (CS × (Nat ⊕ Int64)) := (if (pX0_isStructOrList a1) = 0 then some (u, .inl 3) else ((some ((a3 + (1 : Int32)) + (pX0_offset a1))).bind fun y_6 => some ((sF (sF u 4 a4 a2) 5 a4 y_6), .inr a1)))
set_option maxHeartbeats 4000000 in
set_option maxRecDepth 100000 in
theorem ct_X3_locateNear (l : Launch) (hl0 : l.stackTraces = false) (D : va_G) (c4 : Nat → ClassId) (A : Nat → Prop) (Z : CZ) (hZ : cok Z) (u : CS) (a1 : Int64) (a2 : Int32) (a3 : Int32) (a4 : Nat) (ha4 : isF Z a4) (res : CS × (Nat ⊕ Int64)) (h : pX3_locateNear Z u a1 a2 a3 a4 = some res) : vx_Met l yX3_locateNear (wz yX3_locateNear cX3_locateNear 5 (some .long)) ({ frames := 6, cells := 1, slots := 6, locals := 90 } : Room) (va_Pc [.long a1, .int a2, .int a3, .ref a4] (fun U => cPre D c4 A Z u U)) (va_Ql (fun q w => res = (w, .inr q)) (fun w t => wPre D c4 A (cW c4 Z w) t) A) (vx_X (fun kw : Nat × CS => res = (kw.2, .inl kw.1)) (fun E kw t => E = zEx kw.1 ∧ wPre D c4 A (cW c4 Z kw.2) t) A) 1 6 A := by
  refine vx_ofW (cc := cX3_locateNear) (maxL := 5) (ret := (some .long)) (by decide) rfl ?_
  intro p e s m args below meth c s₁ B hml htb hv
  obtain ⟨rfl, ⟨hP, hD, hK, hA⟩, hE⟩ := hv
  have hx := B.exec
  have hb := B.bytes
  have hr := B.returns
  have hts := atoms_spec (ws := (wz yX3_locateNear cX3_locateNear 5 (some .long))) B.pre
  have hown : s.vm.findClass RX3 = some m.cls := findClass_of_methodNamed B.named
  have hlocks := B.notSynchronized
  have hS : va_S A s.heap s.heap [] := va_S.rf
  have hl := lv_entry ([.long a1, .int a2, .int a3, .ref a4]) (n := 5) (Nat.le_of_ble_eq_true rfl)
  rw [lg_entry_eq]
  generalize (lg_sl ([.long a1, .int a2, .int a3, .ref a4]) ++ List.replicate (5 - (lg_sl ([.long a1, .int a2, .int a3, .ref a4])).length) Slot.unset).toArray = ls at hl ⊢
  have hl : lv_has ls 5 [(0, .long a1), (2, .int a2), (3, .int a3), (4, .ref a4)] := hl
  unfold pX3_locateNear at h
  refine lv_lload_n hx hb dX3_locateNear_0 rfl (lv_at hl 0 rfl) ?_
  refine vp_callSi (W.runS (As := [.long a1]) (rest := []) ⟨hx, hb, hml, hown, hts⟩ (ct_X0_isStructOrList l a1 _ rfl) (va_cwS 1 hts (wz_S zw_356 zw_357 zw_12 zw_358) rfl rfl rfl (by decide +kernel) ⟨Nat.le_of_ble_eq_true rfl, Nat.le_of_ble_eq_true rfl⟩) ⟨fbN, fun U9 hU hW => ⟨rfl, trivial⟩⟩ rfl rfl hl.1 rfl (lv_room (Nat.le_of_ble_eq_true rfl)) dX3_locateNear_1 ⟨Nat.le_of_ble_eq_true rfl, Nat.le_of_ble_eq_true rfl⟩) (fun r_1 e_1 => ?_)
  subst e_1
  refine lv_if_ne (tgt := 17) hx hb dX3_locateNear_4 (by decide) (fun c_2 => ?_) (fun c_2 => ?_)
  · skip
    rw [if_neg c_2] at h
    refine lv_aload hx hb dX3_locateNear_17 (lv_at hl 3 rfl) ?_
    refine lv_iload_n hx hb dX3_locateNear_19 rfl (lv_at hl 1 rfl) ?_
    obtain ⟨n_3, hn_3⟩ := cW_F (c4 := c4) (u := u) ha4
    refine va_put (D := D) (ci := 1) (v := .int a2) (ty := .int) (C := RX2) (T := TX2) (N := 7) hx hb hts (fun w h => wm (zin_X2 w h)) tyX2 tyX2_ok nmX2 hown hK hP hD hS n_3 hn_3 rfl 4 (by decide) (hts _ (wm zw_88)) (fun _ h9 => h9) rfl (by decide +kernel) rfl rfl (Nat.le_of_ble_eq_true rfl) dX3_locateNear_20 (fun H locs hP hD hS => ?_)
    have hq := fun (hd : va_D A (cW c4 Z u)) => cW_setF (A := A) (k := 4) (v := a2) hd ha4 hn_3 (by decide)
    have hD0 : va_D A (cW c4 Z u) := by assumption
    have hP : va_P D vwCl (cW c4 Z (sF u 4 a4 a2)) H := by rw [← hq hD0]; exact hP
    have hD : va_D A (cW c4 Z (sF u 4 a4 a2)) := by rw [← hq hD0]; exact hD
    refine lv_aload hx hb dX3_locateNear_23 (lv_at hl 3 rfl) ?_
    refine lv_iload_n hx hb dX3_locateNear_25 rfl (lv_at hl 2 rfl) ?_
    refine lv_iconst (v := (1 : Int32)) hx hb dX3_locateNear_26 (by decide) ?_
    refine lv_iadd hx hb dX3_locateNear_27 ?_
    refine lv_lload_n hx hb dX3_locateNear_28 rfl (lv_at hl 0 rfl) ?_
    refine vp_callSi (W.runS (As := [.long a1]) (rest := [.int (a3 + (1 : Int32)), .ref a4]) ⟨hx, hb, hml, hown, hts⟩ (ct_X0_offset l a1 _ rfl) (va_cwS 1 hts (wz_S zw_376 zw_377 zw_12 zw_378) rfl rfl rfl (by decide +kernel) ⟨Nat.le_of_ble_eq_true rfl, Nat.le_of_ble_eq_true rfl⟩) ⟨fbN, fun U9 hU hW => ⟨rfl, trivial⟩⟩ rfl rfl hl.1 rfl (lv_room (Nat.le_of_ble_eq_true rfl)) dX3_locateNear_29 ⟨Nat.le_of_ble_eq_true rfl, Nat.le_of_ble_eq_true rfl⟩) (fun r_5 e_5 => ?_)
    subst e_5
    refine lv_iadd hx hb dX3_locateNear_32 ?_
    obtain ⟨y_6, e_6, h⟩ := zb_bind h
    try dsimp only at h
    refine zt_i (Option.some.inj e_6) ?_
    obtain ⟨n_7, hn_7⟩ := cW_F (c4 := c4) (u := (sF u 4 a4 a2)) ha4
    refine va_put (D := D) (ci := 1) (v := .int y_6) (ty := .int) (C := RX2) (T := TX2) (N := 7) hx hb hts (fun w h => wm (zin_X2 w h)) tyX2 tyX2_ok nmX2 hown hK hP hD hS n_7 hn_7 rfl 5 (by decide) (hts _ (wm zw_92)) (fun _ h9 => h9) rfl (by decide +kernel) rfl rfl (Nat.le_of_ble_eq_true rfl) dX3_locateNear_33 (fun H locs hP hD hS => ?_)
    have hq := fun (hd : va_D A (cW c4 Z (sF u 4 a4 a2))) => cW_setF (A := A) (k := 5) (v := y_6) hd ha4 hn_7 (by decide)
    have hD0 : va_D A (cW c4 Z (sF u 4 a4 a2)) := by assumption
    have hP : va_P D vwCl (cW c4 Z (sF (sF u 4 a4 a2) 5 a4 y_6)) H := by rw [← hq hD0]; exact hP
    have hD : va_D A (cW c4 Z (sF (sF u 4 a4 a2) 5 a4 y_6)) := by rw [← hq hD0]; exact hD
    refine lv_lload_n hx hb dX3_locateNear_36 rfl (lv_at hl 0 rfl) ?_
    refine vx_ret ?_
    exact W.lret (v := a1) hx hb hr (fun t ht hW => ⟨⟨a1, (sF (sF u 4 a4 a2) 5 a4 y_6), rfl, (Option.some.inj h).symm, wPre_go hP hD hK hA hS ht hW.alike⟩, hS.F ht⟩) hS.2.2 dX3_locateNear_37
  · skip
    rw [if_pos c_2] at h
    obtain ⟨sa, hsa⟩ := hE.2.2.2.2.1 ("PointedWords$Message", 123, "no struct or list pointer") (by decide)
    exact vx_throwS (A := A) (own := RX3) (cls := "java/lang/IllegalArgumentException") (names := ["java/lang/RuntimeException", "java/lang/Exception"]) hx hb hl0 hown (by decide +kernel) (by decide +kernel) (hts _ (wm zw_360)) (hts _ (wm zw_13)) hsa (zat_X3_81 (fun w h => hts w (wm h)) hE.2.2.2.2.2) zgd_X3_81 hE.1 hE.2.1 hS (hl.1.trans hml.symm) dX3_locateNear_7 dX3_locateNear_10 dX3_locateNear_11 dX3_locateNear_13 dX3_locateNear_16 (fun x9 hx9 => (htb x9 hx9).elim) (Nat.le_of_ble_eq_true rfl) (Nat.le_of_ble_eq_true rfl) (Nat.le_of_ble_eq_true rfl) (Nat.le_of_ble_eq_true rfl) hlocks (fun t hal hz hk => ⟨(3, u), (Option.some.inj h).symm, ⟨rfl, wPre_up hP hD hK hA hS hz hk hal⟩, va_S_up hS hz hk⟩) hS.2.2 (Nat.le_of_ble_eq_true rfl) (Nat.le_of_ble_eq_true rfl)
def pX3_locateFar (Z : CZ) (u : CS) (a1 : Int64) (a2 : Int64) (a3 : Nat) : Option (CS × (Nat ⊕ Int64)) := (if (pX0_type a1) = (2 : Int32) then (if (pX0_hasTwoWordPad a1) = 0 then (if (pX0_isStructOrList a2) = 0 then some (u, .inl 3) else ((some (pX0_farSegment a1)).bind fun y_8 => ((some (pX0_farWord a1)).bind fun y_12 => some ((sF (sF u 4 a3 y_8) 5 a3 y_12), .inr a2)))) else some (u, .inl 3)) else some (u, .inl 3))
set_option maxHeartbeats 4000000 in
set_option maxRecDepth 100000 in
theorem ct_X3_locateFar (l : Launch) (hl0 : l.stackTraces = false) (D : va_G) (c4 : Nat → ClassId) (A : Nat → Prop) (Z : CZ) (hZ : cok Z) (u : CS) (a1 : Int64) (a2 : Int64) (a3 : Nat) (ha3 : isF Z a3) (res : CS × (Nat ⊕ Int64)) (h : pX3_locateFar Z u a1 a2 a3 = some res) : vx_Met l yX3_locateFar (wz yX3_locateFar cX3_locateFar 5 (some .long)) ({ frames := 6, cells := 1, slots := 6, locals := 90 } : Room) (va_Pc [.long a1, .long a2, .ref a3] (fun U => cPre D c4 A Z u U)) (va_Ql (fun q w => res = (w, .inr q)) (fun w t => wPre D c4 A (cW c4 Z w) t) A) (vx_X (fun kw : Nat × CS => res = (kw.2, .inl kw.1)) (fun E kw t => E = zEx kw.1 ∧ wPre D c4 A (cW c4 Z kw.2) t) A) 1 6 A := by
  refine vx_ofW (cc := cX3_locateFar) (maxL := 5) (ret := (some .long)) (by decide) rfl ?_
  intro p e s m args below meth c s₁ B hml htb hv
  obtain ⟨rfl, ⟨hP, hD, hK, hA⟩, hE⟩ := hv
  have hx := B.exec
  have hb := B.bytes
  have hr := B.returns
  have hts := atoms_spec (ws := (wz yX3_locateFar cX3_locateFar 5 (some .long))) B.pre
  have hown : s.vm.findClass RX3 = some m.cls := findClass_of_methodNamed B.named
  have hlocks := B.notSynchronized
  have hS : va_S A s.heap s.heap [] := va_S.rf
  have hl := lv_entry ([.long a1, .long a2, .ref a3]) (n := 5) (Nat.le_of_ble_eq_true rfl)
  rw [lg_entry_eq]
  generalize (lg_sl ([.long a1, .long a2, .ref a3]) ++ List.replicate (5 - (lg_sl ([.long a1, .long a2, .ref a3])).length) Slot.unset).toArray = ls at hl ⊢
  have hl : lv_has ls 5 [(0, .long a1), (2, .long a2), (4, .ref a3)] := hl
  unfold pX3_locateFar at h
  refine lv_lload_n hx hb dX3_locateFar_0 rfl (lv_at hl 0 rfl) ?_
  refine vp_callSi (W.runS (As := [.long a1]) (rest := []) ⟨hx, hb, hml, hown, hts⟩ (ct_X0_type l a1 _ rfl) (va_cwS 1 hts (wz_S zw_350 zw_351 zw_12 zw_352) rfl rfl rfl (by decide +kernel) ⟨Nat.le_of_ble_eq_true rfl, Nat.le_of_ble_eq_true rfl⟩) ⟨fbN, fun U9 hU hW => ⟨rfl, trivial⟩⟩ rfl rfl hl.1 rfl (lv_room (Nat.le_of_ble_eq_true rfl)) dX3_locateFar_1 ⟨Nat.le_of_ble_eq_true rfl, Nat.le_of_ble_eq_true rfl⟩) (fun r_1 e_1 => ?_)
  subst e_1
  refine lv_iconst (v := (2 : Int32)) hx hb dX3_locateFar_4 (by decide) ?_
  refine lv_icmp_ne (tgt := 22) hx hb dX3_locateFar_5 (by decide) (fun c_2 => ?_) (fun c_2 => ?_)
  · skip
    rw [if_neg c_2] at h
    obtain ⟨sa, hsa⟩ := hE.2.2.2.2.1 ("PointedWords$Message", 128, "no pad of two words") (by decide)
    exact vx_throwS (A := A) (own := RX3) (cls := "java/lang/IllegalArgumentException") (names := ["java/lang/RuntimeException", "java/lang/Exception"]) hx hb hl0 hown (by decide +kernel) (by decide +kernel) (hts _ (wm zw_360)) (hts _ (wm zw_13)) hsa (zat_X3_81 (fun w h => hts w (wm h)) hE.2.2.2.2.2) zgd_X3_81 hE.1 hE.2.1 hS (hl.1.trans hml.symm) dX3_locateFar_22 dX3_locateFar_25 dX3_locateFar_26 dX3_locateFar_28 dX3_locateFar_31 (fun x9 hx9 => (htb x9 hx9).elim) (Nat.le_of_ble_eq_true rfl) (Nat.le_of_ble_eq_true rfl) (Nat.le_of_ble_eq_true rfl) (Nat.le_of_ble_eq_true rfl) hlocks (fun t hal hz hk => ⟨(3, u), (Option.some.inj h).symm, ⟨rfl, wPre_up hP hD hK hA hS hz hk hal⟩, va_S_up hS hz hk⟩) hS.2.2 (Nat.le_of_ble_eq_true rfl) (Nat.le_of_ble_eq_true rfl)
  · skip
    rw [if_pos c_2] at h
    refine lv_lload_n hx hb dX3_locateFar_8 rfl (lv_at hl 0 rfl) ?_
    refine vp_callSi (W.runS (As := [.long a1]) (rest := []) ⟨hx, hb, hml, hown, hts⟩ (ct_X0_hasTwoWordPad l a1 _ rfl) (va_cwS 1 hts (wz_S zw_386 zw_387 zw_12 zw_388) rfl rfl rfl (by decide +kernel) ⟨Nat.le_of_ble_eq_true rfl, Nat.le_of_ble_eq_true rfl⟩) ⟨fbN, fun U9 hU hW => ⟨rfl, trivial⟩⟩ rfl rfl hl.1 rfl (lv_room (Nat.le_of_ble_eq_true rfl)) dX3_locateFar_9 ⟨Nat.le_of_ble_eq_true rfl, Nat.le_of_ble_eq_true rfl⟩) (fun r_3 e_3 => ?_)
    subst e_3
    refine lv_if_ne (tgt := 22) hx hb dX3_locateFar_12 (by decide) (fun c_4 => ?_) (fun c_4 => ?_)
    · skip
      rw [if_neg c_4] at h
      obtain ⟨sa, hsa⟩ := hE.2.2.2.2.1 ("PointedWords$Message", 128, "no pad of two words") (by decide)
      exact vx_throwS (A := A) (own := RX3) (cls := "java/lang/IllegalArgumentException") (names := ["java/lang/RuntimeException", "java/lang/Exception"]) hx hb hl0 hown (by decide +kernel) (by decide +kernel) (hts _ (wm zw_360)) (hts _ (wm zw_13)) hsa (zat_X3_81 (fun w h => hts w (wm h)) hE.2.2.2.2.2) zgd_X3_81 hE.1 hE.2.1 hS (hl.1.trans hml.symm) dX3_locateFar_22 dX3_locateFar_25 dX3_locateFar_26 dX3_locateFar_28 dX3_locateFar_31 (fun x9 hx9 => (htb x9 hx9).elim) (Nat.le_of_ble_eq_true rfl) (Nat.le_of_ble_eq_true rfl) (Nat.le_of_ble_eq_true rfl) (Nat.le_of_ble_eq_true rfl) hlocks (fun t hal hz hk => ⟨(3, u), (Option.some.inj h).symm, ⟨rfl, wPre_up hP hD hK hA hS hz hk hal⟩, va_S_up hS hz hk⟩) hS.2.2 (Nat.le_of_ble_eq_true rfl) (Nat.le_of_ble_eq_true rfl)
    · skip
      rw [if_pos c_4] at h
      refine lv_lload_n hx hb dX3_locateFar_15 rfl (lv_at hl 1 rfl) ?_
      refine vp_callSi (W.runS (As := [.long a2]) (rest := []) ⟨hx, hb, hml, hown, hts⟩ (ct_X0_isStructOrList l a2 _ rfl) (va_cwS 1 hts (wz_S zw_356 zw_357 zw_12 zw_358) rfl rfl rfl (by decide +kernel) ⟨Nat.le_of_ble_eq_true rfl, Nat.le_of_ble_eq_true rfl⟩) ⟨fbN, fun U9 hU hW => ⟨rfl, trivial⟩⟩ rfl rfl hl.1 rfl (lv_room (Nat.le_of_ble_eq_true rfl)) dX3_locateFar_16 ⟨Nat.le_of_ble_eq_true rfl, Nat.le_of_ble_eq_true rfl⟩) (fun r_5 e_5 => ?_)
      subst e_5
      refine lv_if_ne (tgt := 32) hx hb dX3_locateFar_19 (by decide) (fun c_6 => ?_) (fun c_6 => ?_)
      · skip
        rw [if_neg c_6] at h
        refine lv_aload hx hb dX3_locateFar_32 (lv_at hl 2 rfl) ?_
        refine lv_lload_n hx hb dX3_locateFar_34 rfl (lv_at hl 0 rfl) ?_
        refine vp_callSi (W.runS (As := [.long a1]) (rest := [.ref a3]) ⟨hx, hb, hml, hown, hts⟩ (ct_X0_farSegment l a1 _ rfl) (va_cwS 1 hts (wz_S zw_379 zw_380 zw_12 zw_381) rfl rfl rfl (by decide +kernel) ⟨Nat.le_of_ble_eq_true rfl, Nat.le_of_ble_eq_true rfl⟩) ⟨fbN, fun U9 hU hW => ⟨rfl, trivial⟩⟩ rfl rfl hl.1 rfl (lv_room (Nat.le_of_ble_eq_true rfl)) dX3_locateFar_35 ⟨Nat.le_of_ble_eq_true rfl, Nat.le_of_ble_eq_true rfl⟩) (fun r_7 e_7 => ?_)
        subst e_7
        obtain ⟨y_8, e_8, h⟩ := zb_bind h
        try dsimp only at h
        refine zt_i (Option.some.inj e_8) ?_
        obtain ⟨n_9, hn_9⟩ := cW_F (c4 := c4) (u := u) ha3
        refine va_put (D := D) (ci := 1) (v := .int y_8) (ty := .int) (C := RX2) (T := TX2) (N := 7) hx hb hts (fun w h => wm (zin_X2 w h)) tyX2 tyX2_ok nmX2 hown hK hP hD hS n_9 hn_9 rfl 4 (by decide) (hts _ (wm zw_88)) (fun _ h9 => h9) rfl (by decide +kernel) rfl rfl (Nat.le_of_ble_eq_true rfl) dX3_locateFar_38 (fun H locs hP hD hS => ?_)
        have hq := fun (hd : va_D A (cW c4 Z u)) => cW_setF (A := A) (k := 4) (v := y_8) hd ha3 hn_9 (by decide)
        have hD0 : va_D A (cW c4 Z u) := by assumption
        have hP : va_P D vwCl (cW c4 Z (sF u 4 a3 y_8)) H := by rw [← hq hD0]; exact hP
        have hD : va_D A (cW c4 Z (sF u 4 a3 y_8)) := by rw [← hq hD0]; exact hD
        refine lv_aload hx hb dX3_locateFar_41 (lv_at hl 2 rfl) ?_
        refine lv_lload_n hx hb dX3_locateFar_43 rfl (lv_at hl 0 rfl) ?_
        refine vp_callSi (W.runS (As := [.long a1]) (rest := [.ref a3]) ⟨hx, hb, hml, hown, hts⟩ (ct_X0_farWord l a1 _ rfl) (va_cwS 1 hts (wz_S zw_383 zw_384 zw_12 zw_385) rfl rfl rfl (by decide +kernel) ⟨Nat.le_of_ble_eq_true rfl, Nat.le_of_ble_eq_true rfl⟩) ⟨fbN, fun U9 hU hW => ⟨rfl, trivial⟩⟩ rfl rfl hl.1 rfl (lv_room (Nat.le_of_ble_eq_true rfl)) dX3_locateFar_44 ⟨Nat.le_of_ble_eq_true rfl, Nat.le_of_ble_eq_true rfl⟩) (fun r_11 e_11 => ?_)
        subst e_11
        obtain ⟨y_12, e_12, h⟩ := zb_bind h
        try dsimp only at h
        refine zt_i (Option.some.inj e_12) ?_
        obtain ⟨n_13, hn_13⟩ := cW_F (c4 := c4) (u := (sF u 4 a3 y_8)) ha3
        refine va_put (D := D) (ci := 1) (v := .int y_12) (ty := .int) (C := RX2) (T := TX2) (N := 7) hx hb hts (fun w h => wm (zin_X2 w h)) tyX2 tyX2_ok nmX2 hown hK hP hD hS n_13 hn_13 rfl 5 (by decide) (hts _ (wm zw_92)) (fun _ h9 => h9) rfl (by decide +kernel) rfl rfl (Nat.le_of_ble_eq_true rfl) dX3_locateFar_47 (fun H locs hP hD hS => ?_)
        have hq := fun (hd : va_D A (cW c4 Z (sF u 4 a3 y_8))) => cW_setF (A := A) (k := 5) (v := y_12) hd ha3 hn_13 (by decide)
        have hD0 : va_D A (cW c4 Z (sF u 4 a3 y_8)) := by assumption
        have hP : va_P D vwCl (cW c4 Z (sF (sF u 4 a3 y_8) 5 a3 y_12)) H := by rw [← hq hD0]; exact hP
        have hD : va_D A (cW c4 Z (sF (sF u 4 a3 y_8) 5 a3 y_12)) := by rw [← hq hD0]; exact hD
        refine lv_lload_n hx hb dX3_locateFar_50 rfl (lv_at hl 1 rfl) ?_
        refine vx_ret ?_
        exact W.lret (v := a2) hx hb hr (fun t ht hW => ⟨⟨a2, (sF (sF u 4 a3 y_8) 5 a3 y_12), rfl, (Option.some.inj h).symm, wPre_go hP hD hK hA hS ht hW.alike⟩, hS.F ht⟩) hS.2.2 dX3_locateFar_51
      · skip
        rw [if_pos c_6] at h
        obtain ⟨sa, hsa⟩ := hE.2.2.2.2.1 ("PointedWords$Message", 128, "no pad of two words") (by decide)
        exact vx_throwS (A := A) (own := RX3) (cls := "java/lang/IllegalArgumentException") (names := ["java/lang/RuntimeException", "java/lang/Exception"]) hx hb hl0 hown (by decide +kernel) (by decide +kernel) (hts _ (wm zw_360)) (hts _ (wm zw_13)) hsa (zat_X3_81 (fun w h => hts w (wm h)) hE.2.2.2.2.2) zgd_X3_81 hE.1 hE.2.1 hS (hl.1.trans hml.symm) dX3_locateFar_22 dX3_locateFar_25 dX3_locateFar_26 dX3_locateFar_28 dX3_locateFar_31 (fun x9 hx9 => (htb x9 hx9).elim) (Nat.le_of_ble_eq_true rfl) (Nat.le_of_ble_eq_true rfl) (Nat.le_of_ble_eq_true rfl) (Nat.le_of_ble_eq_true rfl) hlocks (fun t hal hz hk => ⟨(3, u), (Option.some.inj h).symm, ⟨rfl, wPre_up hP hD hK hA hS hz hk hal⟩, va_S_up hS hz hk⟩) hS.2.2 (Nat.le_of_ble_eq_true rfl) (Nat.le_of_ble_eq_true rfl)
def pX3_locate_62 (Z : CZ) (a3 : Nat) (u : CS) (x0 : Int32) (x1 : Int32) (x2 : Int32) (y0 : Int32) (y1 : Int32) (y2 : Int32) : Option (CS × (Nat ⊕ Int64)) := ((pX3_hasWords Z u y2 y1 y0).bind fun r_1 => (if r_1 = 0 then some (u, .inl 1) else ((pX3_at Z u x0 x1).bind fun r_3 => (if x2 = 0 then ((pX3_locateNear Z u r_3 x0 x1 a3).bind fun x_7 => match x_7.2 with | .inl j => some (x_7.1, .inl j) | .inr r_7 => some ((x_7.1), .inr r_7)) else ((pX3_at Z u x0 (x1 + (1 : Int32))).bind fun r_5 => ((pX3_locateFar Z u r_3 r_5 a3).bind fun x_6 => match x_6.2 with | .inl j => some (x_6.1, .inl j) | .inr r_6 => some ((x_6.1), .inr r_6)))))))
def pX3_locate (Z : CZ) (u : CS) (a1 : Int32) (a2 : Int32) (a3 : Nat) : Option (CS × (Nat ⊕ Int64)) := ((pX3_at Z u a1 a2).bind fun r_8 => (if (pX0_type r_8) = (2 : Int32) then ((some (pX0_farSegment r_8)).bind fun y_12 => ((some (pX0_farWord r_8)).bind fun y_14 => ((some (pX0_hasTwoWordPad r_8)).bind fun y_16 => (if y_16 = 0 then pX3_locate_62 Z a3 u y_12 y_14 y_16 (1 : Int32) y_14 y_12 else pX3_locate_62 Z a3 u y_12 y_14 y_16 (2 : Int32) y_14 y_12)))) else ((pX3_locateNear Z u r_8 a1 a2 a3).bind fun x_18 => match x_18.2 with | .inl j => some (x_18.1, .inl j) | .inr r_18 => some ((x_18.1), .inr r_18))))
set_option maxHeartbeats 4000000 in
set_option maxRecDepth 100000 in
theorem ct_X3_locate (l : Launch) (hl0 : l.stackTraces = false) (D : va_G) (c4 : Nat → ClassId) (A : Nat → Prop) (Z : CZ) (hZ : cok Z) (u : CS) (a1 : Int32) (a2 : Int32) (a3 : Nat) (ha3 : isF Z a3) (res : CS × (Nat ⊕ Int64)) (h : pX3_locate Z u a1 a2 a3 = some res) : vx_Met l yX3_locate (wz yX3_locate cX3_locate 11 (some .long)) ({ frames := 7, cells := 1, slots := 6, locals := 114 } : Room) (va_Pc [.ref (Zz Z 1), .int a1, .int a2, .ref a3] (fun U => cPre D c4 A Z u U)) (va_Ql (fun q w => res = (w, .inr q)) (fun w t => wPre D c4 A (cW c4 Z w) t) A) (vx_X (fun kw : Nat × CS => res = (kw.2, .inl kw.1)) (fun E kw t => E = zEx kw.1 ∧ wPre D c4 A (cW c4 Z kw.2) t) A) 1 6 A := by
  refine vx_ofW (cc := cX3_locate) (maxL := 11) (ret := (some .long)) (by decide) rfl ?_
  intro p e s m args below meth c s₁ B hml htb hv
  obtain ⟨rfl, ⟨hP, hD, hK, hA⟩, hE⟩ := hv
  have hx := B.exec
  have hb := B.bytes
  have hr := B.returns
  have hts := atoms_spec (ws := (wz yX3_locate cX3_locate 11 (some .long))) B.pre
  have hown : s.vm.findClass RX3 = some m.cls := findClass_of_methodNamed B.named
  have hlocks := B.notSynchronized
  have hS : va_S A s.heap s.heap [] := va_S.rf
  have hl := lv_entry ([.ref (Zz Z 1), .int a1, .int a2, .ref a3]) (n := 11) (Nat.le_of_ble_eq_true rfl)
  rw [lg_entry_eq]
  generalize (lg_sl ([.ref (Zz Z 1), .int a1, .int a2, .ref a3]) ++ List.replicate (11 - (lg_sl ([.ref (Zz Z 1), .int a1, .int a2, .ref a3])).length) Slot.unset).toArray = ls at hl ⊢
  have hl : lv_has ls 11 [(0, .ref (Zz Z 1)), (1, .int a1), (2, .int a2), (3, .ref a3)] := hl
  have k_62 : ∀ (u : CS) (H : Heap) (locs : List Loc) (x0 : Int32) (x1 : Int32) (x2 : Int32) (y0 : Int32) (y1 : Int32) (y2 : Int32), va_P D vwCl (cW c4 Z u) H → va_D A (cW c4 Z u) → va_S A s.heap H locs → ∀ (ls : Array Slot), lv_has ls 11 [(0, .ref (Zz Z 1)), (3, .ref a3), (6, .int x0), (7, .int x1), (8, .int x2)] → pX3_locate_62 Z a3 u x0 x1 x2 y0 y1 y2 = some res → W p l e ({ frames := 7, cells := 1, slots := 6, locals := 114 } : Room) s m ([.ref (Zz Z 1), .int a1, .int a2, .ref a3] : List Value).toArray below meth c H locs 0 0 (vx_MQ below (va_Ql (fun q w => res = (w, .inr q)) (fun w t => wPre D c4 A (cW c4 Z w) t) A) (vx_X (fun kw : Nat × CS => res = (kw.2, .inl kw.1)) (fun E kw t => E = zEx kw.1 ∧ wPre D c4 A (cW c4 Z kw.2) t) A) ([.ref (Zz Z 1), .int a1, .int a2, .ref a3] : List Value).toArray s 1 6 A) (F0 m 62 ls [.int y0, .int y1, .int y2, .ref (Zz Z 1)]) := by
    intro u H locs x0 x1 x2 y0 y1 y2 hP hD hS ls hl h
    unfold pX3_locate_62 at h
    obtain ⟨q_1, hc_1, h⟩ := zb_bind h
    try dsimp only at h
    refine vp_callSi (W.runV (As := [.int y2, .int y1, .int y0]) (rest := []) ⟨hx, hb, hml, hown, hts⟩ (ct_X3_hasWords l D c4 A Z hZ u y2 y1 y0 _ hc_1) (cwV 3 hts (wz_V zw_258 zw_181 zw_182 zw_2 zw_183) rfl rfl rfl (by decide +kernel) ⟨Nat.le_of_ble_eq_true rfl, Nat.le_of_ble_eq_true rfl⟩) ⟨fbC, va_recv hK hP (ci := 2) (q0 := 1) rfl rfl, fun U9 hU hW => ⟨rfl, goC hP hD hK hA hE hS hU hW⟩⟩ rfl rfl hl.1 rfl (lv_room (Nat.le_of_ble_eq_true rfl)) dX3_locate_62 ⟨Nat.le_of_ble_eq_true rfl, Nat.le_of_ble_eq_true rfl⟩) (fun r_1 e_1 => ?_)
    subst e_1
    refine lv_if_ne (tgt := 78) hx hb dX3_locate_65 (by decide) (fun c_2 => ?_) (fun c_2 => ?_)
    · skip
      rw [if_neg c_2] at h
      refine lv_aload_n hx hb dX3_locate_78 rfl (lv_at hl 0 rfl) ?_
      refine lv_iload hx hb dX3_locate_79 (lv_at hl 2 rfl) ?_
      refine lv_iload hx hb dX3_locate_81 (lv_at hl 3 rfl) ?_
      obtain ⟨q_3, hc_3, h⟩ := zb_bind h
      try dsimp only at h
      refine vp_callSl (W.runV (As := [.int x0, .int x1]) (rest := []) ⟨hx, hb, hml, hown, hts⟩ (ct_X3_at l D c4 A Z hZ u x0 x1 _ hc_3) (cwV 2 hts (wz_V zw_329 zw_201 zw_202 zw_2 zw_203) rfl rfl rfl (by decide +kernel) ⟨Nat.le_of_ble_eq_true rfl, Nat.le_of_ble_eq_true rfl⟩) ⟨fbC, va_recv hK hP (ci := 2) (q0 := 1) rfl rfl, fun U9 hU hW => ⟨rfl, goC hP hD hK hA hE hS hU hW⟩⟩ rfl rfl hl.1 rfl (lv_room (Nat.le_of_ble_eq_true rfl)) dX3_locate_83 ⟨Nat.le_of_ble_eq_true rfl, Nat.le_of_ble_eq_true rfl⟩) (fun r_3 e_3 => ?_)
      subst e_3
      refine lv_lstore (lv' := [(9, .long r_3), (0, .ref (Zz Z 1)), (3, .ref a3), (6, .int x0), (7, .int x1), (8, .int x2)]) hx hb dX3_locate_86 hl (by decide) rfl (fun ls hl => ?_)
      refine lv_iload hx hb dX3_locate_88 (lv_at hl 5 rfl) ?_
      refine lv_if_ne (tgt := 104) hx hb dX3_locate_90 (by decide) (fun c_4 => ?_) (fun c_4 => ?_)
      · skip
        rw [if_neg c_4] at h
        refine lv_lload hx hb dX3_locate_104 (lv_at hl 0 rfl) ?_
        refine lv_aload_n hx hb dX3_locate_106 rfl (lv_at hl 1 rfl) ?_
        refine lv_iload hx hb dX3_locate_107 (lv_at hl 3 rfl) ?_
        refine lv_iload hx hb dX3_locate_109 (lv_at hl 4 rfl) ?_
        refine lv_iconst (v := (1 : Int32)) hx hb dX3_locate_111 (by decide) ?_
        refine lv_iadd hx hb dX3_locate_112 ?_
        obtain ⟨q_5, hc_5, h⟩ := zb_bind h
        try dsimp only at h
        refine vp_callSl (W.runV (As := [.int x0, .int (x1 + (1 : Int32))]) (rest := [.long r_3]) ⟨hx, hb, hml, hown, hts⟩ (ct_X3_at l D c4 A Z hZ u x0 (x1 + (1 : Int32)) _ hc_5) (cwV 2 hts (wz_V zw_329 zw_201 zw_202 zw_2 zw_203) rfl rfl rfl (by decide +kernel) ⟨Nat.le_of_ble_eq_true rfl, Nat.le_of_ble_eq_true rfl⟩) ⟨fbC, va_recv hK hP (ci := 2) (q0 := 1) rfl rfl, fun U9 hU hW => ⟨rfl, goC hP hD hK hA hE hS hU hW⟩⟩ rfl rfl hl.1 rfl (lv_room (Nat.le_of_ble_eq_true rfl)) dX3_locate_113 ⟨Nat.le_of_ble_eq_true rfl, Nat.le_of_ble_eq_true rfl⟩) (fun r_5 e_5 => ?_)
        subst e_5
        refine lv_aload_n hx hb dX3_locate_116 rfl (lv_at hl 2 rfl) ?_
        obtain ⟨x_6, hc_6, h⟩ := zb_bind h
        try dsimp only at h
        refine vx_calll (vx_runS (As := [.long r_3, .long r_5, .ref a3]) (rest := []) ⟨hx, hb, hml, hown, hts⟩ (ct_X3_locateFar l hl0 D c4 A Z hZ u r_3 r_5 a3 ha3 _ hc_6) (va_cwS 3 hts (wz_S zw_390 zw_391 zw_2 zw_392) rfl rfl rfl (by decide +kernel) ⟨Nat.le_of_ble_eq_true rfl, Nat.le_of_ble_eq_true rfl⟩) ⟨fbC, fun U9 hU hW => ⟨rfl, goC hP hD hK hA hE hS hU hW⟩⟩ rfl rfl hl.1 rfl (lv_room (Nat.le_of_ble_eq_true rfl)) dX3_locate_117 ⟨Nat.le_of_ble_eq_true rfl, Nat.le_of_ble_eq_true rfl⟩) hS (fun q _ h => h) (fun q h => h) (fun q _ h => h) (fun E9 ce9 q9 kw_6 t H1 locs ht hvm e_6 hB hz1 hk1 hS hc9 hv9 hcl9 => ?_) (fun r_6 u_6 t H1 locs ht hvm e_6 hB hz1 hk1 hS => ?_)
        · subst e_6
          try dsimp only at h
          obtain ⟨rfl, hP, hD, -, -⟩ := hB
          rw [ht] at hP
          exact vx_out (fun x9 hx9 => (htb x9 hx9).elim) hlocks hc9 hv9 hcl9 (fun t ht hal => ⟨kw_6, (Option.some.inj h).symm, ⟨rfl, wPre_go hP hD hK hA hS ht hal⟩, hS.F ht⟩) hS.2.2 (Nat.le_of_ble_eq_true rfl) (Nat.le_of_ble_eq_true rfl)
        subst e_6
        try dsimp only at h
        obtain ⟨hP, hD, -, -⟩ := hB
        rw [ht] at hP
        generalize H1 = H at hP hS ⊢
        refine vx_ret ?_
        exact W.lret (v := r_6) hx hb hr (fun t ht hW => ⟨⟨r_6, u_6, rfl, (Option.some.inj h).symm, wPre_go hP hD hK hA hS ht hW.alike⟩, hS.F ht⟩) hS.2.2 dX3_locate_120
      · skip
        rw [if_pos c_4] at h
        refine lv_lload hx hb dX3_locate_93 (lv_at hl 0 rfl) ?_
        refine lv_iload hx hb dX3_locate_95 (lv_at hl 3 rfl) ?_
        refine lv_iload hx hb dX3_locate_97 (lv_at hl 4 rfl) ?_
        refine lv_aload_n hx hb dX3_locate_99 rfl (lv_at hl 2 rfl) ?_
        obtain ⟨x_7, hc_7, h⟩ := zb_bind h
        try dsimp only at h
        refine vx_calll (vx_runS (As := [.long r_3, .int x0, .int x1, .ref a3]) (rest := []) ⟨hx, hb, hml, hown, hts⟩ (ct_X3_locateNear l hl0 D c4 A Z hZ u r_3 x0 x1 a3 ha3 _ hc_7) (va_cwS 4 hts (wz_S zw_353 zw_354 zw_2 zw_355) rfl rfl rfl (by decide +kernel) ⟨Nat.le_of_ble_eq_true rfl, Nat.le_of_ble_eq_true rfl⟩) ⟨fbC, fun U9 hU hW => ⟨rfl, goC hP hD hK hA hE hS hU hW⟩⟩ rfl rfl hl.1 rfl (lv_room (Nat.le_of_ble_eq_true rfl)) dX3_locate_100 ⟨Nat.le_of_ble_eq_true rfl, Nat.le_of_ble_eq_true rfl⟩) hS (fun q _ h => h) (fun q h => h) (fun q _ h => h) (fun E9 ce9 q9 kw_7 t H1 locs ht hvm e_7 hB hz1 hk1 hS hc9 hv9 hcl9 => ?_) (fun r_7 u_7 t H1 locs ht hvm e_7 hB hz1 hk1 hS => ?_)
        · subst e_7
          try dsimp only at h
          obtain ⟨rfl, hP, hD, -, -⟩ := hB
          rw [ht] at hP
          exact vx_out (fun x9 hx9 => (htb x9 hx9).elim) hlocks hc9 hv9 hcl9 (fun t ht hal => ⟨kw_7, (Option.some.inj h).symm, ⟨rfl, wPre_go hP hD hK hA hS ht hal⟩, hS.F ht⟩) hS.2.2 (Nat.le_of_ble_eq_true rfl) (Nat.le_of_ble_eq_true rfl)
        subst e_7
        try dsimp only at h
        obtain ⟨hP, hD, -, -⟩ := hB
        rw [ht] at hP
        generalize H1 = H at hP hS ⊢
        refine vx_ret ?_
        exact W.lret (v := r_7) hx hb hr (fun t ht hW => ⟨⟨r_7, u_7, rfl, (Option.some.inj h).symm, wPre_go hP hD hK hA hS ht hW.alike⟩, hS.F ht⟩) hS.2.2 dX3_locate_103
    · skip
      rw [if_pos c_2] at h
      obtain ⟨sa, hsa⟩ := hE.2.2.2.2.1 ("PointedWords$Message", 114, "the pad is not there") (by decide)
      exact vx_throwS (A := A) (own := RX3) (cls := "java/lang/IndexOutOfBoundsException") (names := ["java/lang/RuntimeException", "java/lang/Exception"]) hx hb hl0 hown (by decide +kernel) (by decide +kernel) (hts _ (wm zw_259)) (hts _ (wm zw_10)) hsa (zat_X3_61 (fun w h => hts w (wm h)) hE.2.2.2.2.2) zgd_X3_61 hE.1 hE.2.1 hS (hl.1.trans hml.symm) dX3_locate_68 dX3_locate_71 dX3_locate_72 dX3_locate_74 dX3_locate_77 (fun x9 hx9 => (htb x9 hx9).elim) (Nat.le_of_ble_eq_true rfl) (Nat.le_of_ble_eq_true rfl) (Nat.le_of_ble_eq_true rfl) (Nat.le_of_ble_eq_true rfl) hlocks (fun t hal hz hk => ⟨(1, u), (Option.some.inj h).symm, ⟨rfl, wPre_up hP hD hK hA hS hz hk hal⟩, va_S_up hS hz hk⟩) hS.2.2 (Nat.le_of_ble_eq_true rfl) (Nat.le_of_ble_eq_true rfl)
  unfold pX3_locate at h
  refine lv_aload_n hx hb dX3_locate_0 rfl (lv_at hl 0 rfl) ?_
  refine lv_iload_n hx hb dX3_locate_1 rfl (lv_at hl 1 rfl) ?_
  refine lv_iload_n hx hb dX3_locate_2 rfl (lv_at hl 2 rfl) ?_
  obtain ⟨q_8, hc_8, h⟩ := zb_bind h
  try dsimp only at h
  refine vp_callSl (W.runV (As := [.int a1, .int a2]) (rest := []) ⟨hx, hb, hml, hown, hts⟩ (ct_X3_at l D c4 A Z hZ u a1 a2 _ hc_8) (cwV 2 hts (wz_V zw_329 zw_201 zw_202 zw_2 zw_203) rfl rfl rfl (by decide +kernel) ⟨Nat.le_of_ble_eq_true rfl, Nat.le_of_ble_eq_true rfl⟩) ⟨fbC, va_recv hK hP (ci := 2) (q0 := 1) rfl rfl, fun U9 hU hW => ⟨rfl, goC hP hD hK hA hE hS hU hW⟩⟩ rfl rfl hl.1 rfl (lv_room (Nat.le_of_ble_eq_true rfl)) dX3_locate_3 ⟨Nat.le_of_ble_eq_true rfl, Nat.le_of_ble_eq_true rfl⟩) (fun r_8 e_8 => ?_)
  subst e_8
  refine lv_lstore (lv' := [(4, .long r_8), (0, .ref (Zz Z 1)), (1, .int a1), (2, .int a2), (3, .ref a3)]) hx hb dX3_locate_6 hl (by decide) rfl (fun ls hl => ?_)
  refine lv_lload hx hb dX3_locate_8 (lv_at hl 0 rfl) ?_
  refine vp_callSi (W.runS (As := [.long r_8]) (rest := []) ⟨hx, hb, hml, hown, hts⟩ (ct_X0_type l r_8 _ rfl) (va_cwS 1 hts (wz_S zw_350 zw_351 zw_12 zw_352) rfl rfl rfl (by decide +kernel) ⟨Nat.le_of_ble_eq_true rfl, Nat.le_of_ble_eq_true rfl⟩) ⟨fbN, fun U9 hU hW => ⟨rfl, trivial⟩⟩ rfl rfl hl.1 rfl (lv_room (Nat.le_of_ble_eq_true rfl)) dX3_locate_10 ⟨Nat.le_of_ble_eq_true rfl, Nat.le_of_ble_eq_true rfl⟩) (fun r_9 e_9 => ?_)
  subst e_9
  refine lv_iconst (v := (2 : Int32)) hx hb dX3_locate_13 (by decide) ?_
  refine lv_icmp_eq (tgt := 26) hx hb dX3_locate_14 (by decide) (fun c_10 => ?_) (fun c_10 => ?_)
  · skip
    rw [if_pos c_10] at h
    refine lv_lload hx hb dX3_locate_26 (lv_at hl 0 rfl) ?_
    refine vp_callSi (W.runS (As := [.long r_8]) (rest := []) ⟨hx, hb, hml, hown, hts⟩ (ct_X0_farSegment l r_8 _ rfl) (va_cwS 1 hts (wz_S zw_379 zw_380 zw_12 zw_381) rfl rfl rfl (by decide +kernel) ⟨Nat.le_of_ble_eq_true rfl, Nat.le_of_ble_eq_true rfl⟩) ⟨fbN, fun U9 hU hW => ⟨rfl, trivial⟩⟩ rfl rfl hl.1 rfl (lv_room (Nat.le_of_ble_eq_true rfl)) dX3_locate_28 ⟨Nat.le_of_ble_eq_true rfl, Nat.le_of_ble_eq_true rfl⟩) (fun r_11 e_11 => ?_)
    subst e_11
    obtain ⟨y_12, e_12, h⟩ := zb_bind h
    try dsimp only at h
    refine zt_i (Option.some.inj e_12) ?_
    refine lv_istore (lv' := [(6, .int y_12), (4, .long r_8), (0, .ref (Zz Z 1)), (1, .int a1), (2, .int a2), (3, .ref a3)]) hx hb dX3_locate_31 hl (by decide) rfl (fun ls hl => ?_)
    refine lv_lload hx hb dX3_locate_33 (lv_at hl 1 rfl) ?_
    refine vp_callSi (W.runS (As := [.long r_8]) (rest := []) ⟨hx, hb, hml, hown, hts⟩ (ct_X0_farWord l r_8 _ rfl) (va_cwS 1 hts (wz_S zw_383 zw_384 zw_12 zw_385) rfl rfl rfl (by decide +kernel) ⟨Nat.le_of_ble_eq_true rfl, Nat.le_of_ble_eq_true rfl⟩) ⟨fbN, fun U9 hU hW => ⟨rfl, trivial⟩⟩ rfl rfl hl.1 rfl (lv_room (Nat.le_of_ble_eq_true rfl)) dX3_locate_35 ⟨Nat.le_of_ble_eq_true rfl, Nat.le_of_ble_eq_true rfl⟩) (fun r_13 e_13 => ?_)
    subst e_13
    obtain ⟨y_14, e_14, h⟩ := zb_bind h
    try dsimp only at h
    refine zt_i (Option.some.inj e_14) ?_
    refine lv_istore (lv' := [(7, .int y_14), (6, .int y_12), (4, .long r_8), (0, .ref (Zz Z 1)), (1, .int a1), (2, .int a2), (3, .ref a3)]) hx hb dX3_locate_38 hl (by decide) rfl (fun ls hl => ?_)
    refine lv_lload hx hb dX3_locate_40 (lv_at hl 2 rfl) ?_
    refine vp_callSi (W.runS (As := [.long r_8]) (rest := []) ⟨hx, hb, hml, hown, hts⟩ (ct_X0_hasTwoWordPad l r_8 _ rfl) (va_cwS 1 hts (wz_S zw_386 zw_387 zw_12 zw_388) rfl rfl rfl (by decide +kernel) ⟨Nat.le_of_ble_eq_true rfl, Nat.le_of_ble_eq_true rfl⟩) ⟨fbN, fun U9 hU hW => ⟨rfl, trivial⟩⟩ rfl rfl hl.1 rfl (lv_room (Nat.le_of_ble_eq_true rfl)) dX3_locate_42 ⟨Nat.le_of_ble_eq_true rfl, Nat.le_of_ble_eq_true rfl⟩) (fun r_15 e_15 => ?_)
    subst e_15
    obtain ⟨y_16, e_16, h⟩ := zb_bind h
    try dsimp only at h
    refine zt_i (Option.some.inj e_16) ?_
    refine lv_istore (lv' := [(8, .int y_16), (7, .int y_14), (6, .int y_12), (4, .long r_8), (0, .ref (Zz Z 1)), (1, .int a1), (2, .int a2), (3, .ref a3)]) hx hb dX3_locate_45 hl (by decide) rfl (fun ls hl => ?_)
    refine lv_aload_n hx hb dX3_locate_47 rfl (lv_at hl 4 rfl) ?_
    refine lv_iload hx hb dX3_locate_48 (lv_at hl 2 rfl) ?_
    refine lv_iload hx hb dX3_locate_50 (lv_at hl 1 rfl) ?_
    refine lv_iload hx hb dX3_locate_52 (lv_at hl 0 rfl) ?_
    refine lv_if_eq (tgt := 61) hx hb dX3_locate_54 (by decide) (fun c_17 => ?_) (fun c_17 => ?_)
    · skip
      rw [if_pos c_17] at h
      refine lv_iconst (v := (1 : Int32)) hx hb dX3_locate_61 (by decide) ?_
      exact k_62 u _ _ y_12 y_14 y_16 (1 : Int32) y_14 y_12 hP hD hS ls (lv_sub hl [4, 7, 2, 1, 0] rfl) h
    · skip
      rw [if_neg c_17] at h
      refine lv_iconst (v := (2 : Int32)) hx hb dX3_locate_57 (by decide) ?_
      refine lv_goto (tgt := 62) hx hb dX3_locate_58 (by decide) ?_
      exact k_62 u _ _ y_12 y_14 y_16 (2 : Int32) y_14 y_12 hP hD hS ls (lv_sub hl [4, 7, 2, 1, 0] rfl) h
  · skip
    rw [if_neg c_10] at h
    refine lv_lload hx hb dX3_locate_17 (lv_at hl 0 rfl) ?_
    refine lv_iload_n hx hb dX3_locate_19 rfl (lv_at hl 2 rfl) ?_
    refine lv_iload_n hx hb dX3_locate_20 rfl (lv_at hl 3 rfl) ?_
    refine lv_aload_n hx hb dX3_locate_21 rfl (lv_at hl 4 rfl) ?_
    obtain ⟨x_18, hc_18, h⟩ := zb_bind h
    try dsimp only at h
    refine vx_calll (vx_runS (As := [.long r_8, .int a1, .int a2, .ref a3]) (rest := []) ⟨hx, hb, hml, hown, hts⟩ (ct_X3_locateNear l hl0 D c4 A Z hZ u r_8 a1 a2 a3 ha3 _ hc_18) (va_cwS 4 hts (wz_S zw_353 zw_354 zw_2 zw_355) rfl rfl rfl (by decide +kernel) ⟨Nat.le_of_ble_eq_true rfl, Nat.le_of_ble_eq_true rfl⟩) ⟨fbC, fun U9 hU hW => ⟨rfl, goC hP hD hK hA hE hS hU hW⟩⟩ rfl rfl hl.1 rfl (lv_room (Nat.le_of_ble_eq_true rfl)) dX3_locate_22 ⟨Nat.le_of_ble_eq_true rfl, Nat.le_of_ble_eq_true rfl⟩) hS (fun q _ h => h) (fun q h => h) (fun q _ h => h) (fun E9 ce9 q9 kw_18 t H1 locs ht hvm e_18 hB hz1 hk1 hS hc9 hv9 hcl9 => ?_) (fun r_18 u_18 t H1 locs ht hvm e_18 hB hz1 hk1 hS => ?_)
    · subst e_18
      try dsimp only at h
      obtain ⟨rfl, hP, hD, -, -⟩ := hB
      rw [ht] at hP
      exact vx_out (fun x9 hx9 => (htb x9 hx9).elim) hlocks hc9 hv9 hcl9 (fun t ht hal => ⟨kw_18, (Option.some.inj h).symm, ⟨rfl, wPre_go hP hD hK hA hS ht hal⟩, hS.F ht⟩) hS.2.2 (Nat.le_of_ble_eq_true rfl) (Nat.le_of_ble_eq_true rfl)
    subst e_18
    try dsimp only at h
    obtain ⟨hP, hD, -, -⟩ := hB
    rw [ht] at hP
    generalize H1 = H at hP hS ⊢
    refine vx_ret ?_
    exact W.lret (v := r_18) hx hb hr (fun t ht hW => ⟨⟨r_18, u_18, rfl, (Option.some.inj h).symm, wPre_go hP hD hK hA hS ht hW.alike⟩, hS.F ht⟩) hS.2.2 dX3_locate_25
def pX3_measureStruct (Z : CZ) (u : CS) (a1 : Int64) (a2 : Nat) : Option (CS × (Nat ⊕ Int32)) := ((some (pX0_dataWords a1)).bind fun y_4 => ((some (pX0_pointers a1)).bind fun y_8 => ((some ((Uf (sF (sF u 0 a2 (0 : Int32)) 1 a2 y_4) 1 a2) + (Uf (sF (sF (sF u 0 a2 (0 : Int32)) 1 a2 y_4) 2 a2 y_8) 2 a2))).bind fun y_15 => ((pX3_hasWords Z (sF (sF (sF (sF u 0 a2 (0 : Int32)) 1 a2 y_4) 2 a2 y_8) 3 a2 (0 : Int32)) (Uf u 4 a2) (Uf u 5 a2) y_15).bind fun r_18 => (if r_18 = 0 then some ((sF (sF (sF (sF u 0 a2 (0 : Int32)) 1 a2 y_4) 2 a2 y_8) 3 a2 (0 : Int32)), .inl 1) else some ((sF (sF (sF (sF u 0 a2 (0 : Int32)) 1 a2 y_4) 2 a2 y_8) 3 a2 (0 : Int32)), .inr (if y_15 < (1 : Int32) then (1 : Int32) else y_15)))))))
set_option maxHeartbeats 4000000 in
set_option maxRecDepth 100000 in
theorem ct_X3_measureStruct (l : Launch) (hl0 : l.stackTraces = false) (D : va_G) (c4 : Nat → ClassId) (A : Nat → Prop) (Z : CZ) (hZ : cok Z) (u : CS) (a1 : Int64) (a2 : Nat) (ha2 : isF Z a2) (res : CS × (Nat ⊕ Int32)) (h : pX3_measureStruct Z u a1 a2 = some res) : vx_Met l yX3_measureStruct (wz yX3_measureStruct cX3_measureStruct 5 (some .int)) ({ frames := 6, cells := 1, slots := 6, locals := 90 } : Room) (va_Pc [.ref (Zz Z 1), .long a1, .ref a2] (fun U => cPre D c4 A Z u U)) (va_Qi (fun q w => res = (w, .inr q)) (fun w t => wPre D c4 A (cW c4 Z w) t) A) (vx_X (fun kw : Nat × CS => res = (kw.2, .inl kw.1)) (fun E kw t => E = zEx kw.1 ∧ wPre D c4 A (cW c4 Z kw.2) t) A) 1 6 A := by
  refine vx_ofW (cc := cX3_measureStruct) (maxL := 5) (ret := (some .int)) (by decide) rfl ?_
  intro p e s m args below meth c s₁ B hml htb hv
  obtain ⟨rfl, ⟨hP, hD, hK, hA⟩, hE⟩ := hv
  have hx := B.exec
  have hb := B.bytes
  have hr := B.returns
  have hts := atoms_spec (ws := (wz yX3_measureStruct cX3_measureStruct 5 (some .int))) B.pre
  have hown : s.vm.findClass RX3 = some m.cls := findClass_of_methodNamed B.named
  have hlocks := B.notSynchronized
  have hS : va_S A s.heap s.heap [] := va_S.rf
  have hl := lv_entry ([.ref (Zz Z 1), .long a1, .ref a2]) (n := 5) (Nat.le_of_ble_eq_true rfl)
  rw [lg_entry_eq]
  generalize (lg_sl ([.ref (Zz Z 1), .long a1, .ref a2]) ++ List.replicate (5 - (lg_sl ([.ref (Zz Z 1), .long a1, .ref a2])).length) Slot.unset).toArray = ls at hl ⊢
  have hl : lv_has ls 5 [(0, .ref (Zz Z 1)), (1, .long a1), (3, .ref a2)] := hl
  unfold pX3_measureStruct at h
  refine lv_aload_n hx hb dX3_measureStruct_0 rfl (lv_at hl 2 rfl) ?_
  refine lv_iconst (v := (0 : Int32)) hx hb dX3_measureStruct_1 (by decide) ?_
  obtain ⟨n_1, hn_1⟩ := cW_F (c4 := c4) (u := u) ha2
  refine va_put (D := D) (ci := 1) (v := .int (0 : Int32)) (ty := .int) (C := RX2) (T := TX2) (N := 7) hx hb hts (fun w h => wm (zin_X2 w h)) tyX2 tyX2_ok nmX2 hown hK hP hD hS n_1 hn_1 rfl 0 (by decide) (hts _ (wm zw_72)) (fun _ h9 => h9) rfl (by decide +kernel) rfl rfl (Nat.le_of_ble_eq_true rfl) dX3_measureStruct_2 (fun H locs hP hD hS => ?_)
  have hq := fun (hd : va_D A (cW c4 Z u)) => cW_setF (A := A) (k := 0) (v := (0 : Int32)) hd ha2 hn_1 (by decide)
  have hD0 : va_D A (cW c4 Z u) := by assumption
  have hP : va_P D vwCl (cW c4 Z (sF u 0 a2 (0 : Int32))) H := by rw [← hq hD0]; exact hP
  have hD : va_D A (cW c4 Z (sF u 0 a2 (0 : Int32))) := by rw [← hq hD0]; exact hD
  refine lv_aload_n hx hb dX3_measureStruct_5 rfl (lv_at hl 2 rfl) ?_
  refine lv_lload_n hx hb dX3_measureStruct_6 rfl (lv_at hl 1 rfl) ?_
  refine vp_callSi (W.runS (As := [.long a1]) (rest := [.ref a2]) ⟨hx, hb, hml, hown, hts⟩ (ct_X0_dataWords l a1 _ rfl) (va_cwS 1 hts (wz_S zw_402 zw_403 zw_12 zw_404) rfl rfl rfl (by decide +kernel) ⟨Nat.le_of_ble_eq_true rfl, Nat.le_of_ble_eq_true rfl⟩) ⟨fbN, fun U9 hU hW => ⟨rfl, trivial⟩⟩ rfl rfl hl.1 rfl (lv_room (Nat.le_of_ble_eq_true rfl)) dX3_measureStruct_7 ⟨Nat.le_of_ble_eq_true rfl, Nat.le_of_ble_eq_true rfl⟩) (fun r_3 e_3 => ?_)
  subst e_3
  obtain ⟨y_4, e_4, h⟩ := zb_bind h
  try dsimp only at h
  refine zt_i (Option.some.inj e_4) ?_
  obtain ⟨n_5, hn_5⟩ := cW_F (c4 := c4) (u := (sF u 0 a2 (0 : Int32))) ha2
  refine va_put (D := D) (ci := 1) (v := .int y_4) (ty := .int) (C := RX2) (T := TX2) (N := 7) hx hb hts (fun w h => wm (zin_X2 w h)) tyX2 tyX2_ok nmX2 hown hK hP hD hS n_5 hn_5 rfl 1 (by decide) (hts _ (wm zw_77)) (fun _ h9 => h9) rfl (by decide +kernel) rfl rfl (Nat.le_of_ble_eq_true rfl) dX3_measureStruct_10 (fun H locs hP hD hS => ?_)
  have hq := fun (hd : va_D A (cW c4 Z (sF u 0 a2 (0 : Int32)))) => cW_setF (A := A) (k := 1) (v := y_4) hd ha2 hn_5 (by decide)
  have hD0 : va_D A (cW c4 Z (sF u 0 a2 (0 : Int32))) := by assumption
  have hP : va_P D vwCl (cW c4 Z (sF (sF u 0 a2 (0 : Int32)) 1 a2 y_4)) H := by rw [← hq hD0]; exact hP
  have hD : va_D A (cW c4 Z (sF (sF u 0 a2 (0 : Int32)) 1 a2 y_4)) := by rw [← hq hD0]; exact hD
  refine lv_aload_n hx hb dX3_measureStruct_13 rfl (lv_at hl 2 rfl) ?_
  refine lv_lload_n hx hb dX3_measureStruct_14 rfl (lv_at hl 1 rfl) ?_
  refine vp_callSi (W.runS (As := [.long a1]) (rest := [.ref a2]) ⟨hx, hb, hml, hown, hts⟩ (ct_X0_pointers l a1 _ rfl) (va_cwS 1 hts (wz_S zw_406 zw_407 zw_12 zw_408) rfl rfl rfl (by decide +kernel) ⟨Nat.le_of_ble_eq_true rfl, Nat.le_of_ble_eq_true rfl⟩) ⟨fbN, fun U9 hU hW => ⟨rfl, trivial⟩⟩ rfl rfl hl.1 rfl (lv_room (Nat.le_of_ble_eq_true rfl)) dX3_measureStruct_15 ⟨Nat.le_of_ble_eq_true rfl, Nat.le_of_ble_eq_true rfl⟩) (fun r_7 e_7 => ?_)
  subst e_7
  obtain ⟨y_8, e_8, h⟩ := zb_bind h
  try dsimp only at h
  refine zt_i (Option.some.inj e_8) ?_
  obtain ⟨n_9, hn_9⟩ := cW_F (c4 := c4) (u := (sF (sF u 0 a2 (0 : Int32)) 1 a2 y_4)) ha2
  refine va_put (D := D) (ci := 1) (v := .int y_8) (ty := .int) (C := RX2) (T := TX2) (N := 7) hx hb hts (fun w h => wm (zin_X2 w h)) tyX2 tyX2_ok nmX2 hown hK hP hD hS n_9 hn_9 rfl 2 (by decide) (hts _ (wm zw_81)) (fun _ h9 => h9) rfl (by decide +kernel) rfl rfl (Nat.le_of_ble_eq_true rfl) dX3_measureStruct_18 (fun H locs hP hD hS => ?_)
  have hq := fun (hd : va_D A (cW c4 Z (sF (sF u 0 a2 (0 : Int32)) 1 a2 y_4))) => cW_setF (A := A) (k := 2) (v := y_8) hd ha2 hn_9 (by decide)
  have hD0 : va_D A (cW c4 Z (sF (sF u 0 a2 (0 : Int32)) 1 a2 y_4)) := by assumption
  have hP : va_P D vwCl (cW c4 Z (sF (sF (sF u 0 a2 (0 : Int32)) 1 a2 y_4) 2 a2 y_8)) H := by rw [← hq hD0]; exact hP
  have hD : va_D A (cW c4 Z (sF (sF (sF u 0 a2 (0 : Int32)) 1 a2 y_4) 2 a2 y_8)) := by rw [← hq hD0]; exact hD
  refine lv_aload_n hx hb dX3_measureStruct_21 rfl (lv_at hl 2 rfl) ?_
  refine lv_iconst (v := (0 : Int32)) hx hb dX3_measureStruct_22 (by decide) ?_
  obtain ⟨n_11, hn_11⟩ := cW_F (c4 := c4) (u := (sF (sF (sF u 0 a2 (0 : Int32)) 1 a2 y_4) 2 a2 y_8)) ha2
  refine va_put (D := D) (ci := 1) (v := .int (0 : Int32)) (ty := .int) (C := RX2) (T := TX2) (N := 7) hx hb hts (fun w h => wm (zin_X2 w h)) tyX2 tyX2_ok nmX2 hown hK hP hD hS n_11 hn_11 rfl 3 (by decide) (hts _ (wm zw_85)) (fun _ h9 => h9) rfl (by decide +kernel) rfl rfl (Nat.le_of_ble_eq_true rfl) dX3_measureStruct_23 (fun H locs hP hD hS => ?_)
  have hq := fun (hd : va_D A (cW c4 Z (sF (sF (sF u 0 a2 (0 : Int32)) 1 a2 y_4) 2 a2 y_8))) => cW_setF (A := A) (k := 3) (v := (0 : Int32)) hd ha2 hn_11 (by decide)
  have hD0 : va_D A (cW c4 Z (sF (sF (sF u 0 a2 (0 : Int32)) 1 a2 y_4) 2 a2 y_8)) := by assumption
  have hP : va_P D vwCl (cW c4 Z (sF (sF (sF (sF u 0 a2 (0 : Int32)) 1 a2 y_4) 2 a2 y_8) 3 a2 (0 : Int32))) H := by rw [← hq hD0]; exact hP
  have hD : va_D A (cW c4 Z (sF (sF (sF (sF u 0 a2 (0 : Int32)) 1 a2 y_4) 2 a2 y_8) 3 a2 (0 : Int32))) := by rw [← hq hD0]; exact hD
  refine lv_aload_n hx hb dX3_measureStruct_26 rfl (lv_at hl 2 rfl) ?_
  obtain ⟨n_13, hn_13⟩ := cW_F (c4 := c4) (u := (sF (sF (sF (sF u 0 a2 (0 : Int32)) 1 a2 y_4) 2 a2 y_8) 3 a2 (0 : Int32))) ha2
  refine va_get (D := D) (ci := 1) (v := .int (Uf (sF (sF u 0 a2 (0 : Int32)) 1 a2 y_4) 1 a2)) (C := RX2) (T := TX2) (N := 7) hx hb hts (fun w h => wm (zin_X2 w h)) hown hK hP n_13 hn_13 rfl 1 (by decide) (hts _ (wm zw_77)) (fun _ h9 => h9) rfl dX3_measureStruct_27 ?_
  refine lv_aload_n hx hb dX3_measureStruct_30 rfl (lv_at hl 2 rfl) ?_
  obtain ⟨n_14, hn_14⟩ := cW_F (c4 := c4) (u := (sF (sF (sF (sF u 0 a2 (0 : Int32)) 1 a2 y_4) 2 a2 y_8) 3 a2 (0 : Int32))) ha2
  refine va_get (D := D) (ci := 1) (v := .int (Uf (sF (sF (sF u 0 a2 (0 : Int32)) 1 a2 y_4) 2 a2 y_8) 2 a2)) (C := RX2) (T := TX2) (N := 7) hx hb hts (fun w h => wm (zin_X2 w h)) hown hK hP n_14 hn_14 rfl 2 (by decide) (hts _ (wm zw_81)) (fun _ h9 => h9) rfl dX3_measureStruct_31 ?_
  refine lv_iadd hx hb dX3_measureStruct_34 ?_
  obtain ⟨y_15, e_15, h⟩ := zb_bind h
  try dsimp only at h
  refine zt_i (Option.some.inj e_15) ?_
  refine lv_istore (lv' := [(4, .int y_15), (0, .ref (Zz Z 1)), (1, .long a1), (3, .ref a2)]) hx hb dX3_measureStruct_35 hl (by decide) rfl (fun ls hl => ?_)
  refine lv_aload_n hx hb dX3_measureStruct_37 rfl (lv_at hl 1 rfl) ?_
  refine lv_aload_n hx hb dX3_measureStruct_38 rfl (lv_at hl 3 rfl) ?_
  obtain ⟨n_16, hn_16⟩ := cW_F (c4 := c4) (u := (sF (sF (sF (sF u 0 a2 (0 : Int32)) 1 a2 y_4) 2 a2 y_8) 3 a2 (0 : Int32))) ha2
  refine va_get (D := D) (ci := 1) (v := .int (Uf u 4 a2)) (C := RX2) (T := TX2) (N := 7) hx hb hts (fun w h => wm (zin_X2 w h)) hown hK hP n_16 hn_16 rfl 4 (by decide) (hts _ (wm zw_88)) (fun _ h9 => h9) rfl dX3_measureStruct_39 ?_
  refine lv_aload_n hx hb dX3_measureStruct_42 rfl (lv_at hl 3 rfl) ?_
  obtain ⟨n_17, hn_17⟩ := cW_F (c4 := c4) (u := (sF (sF (sF (sF u 0 a2 (0 : Int32)) 1 a2 y_4) 2 a2 y_8) 3 a2 (0 : Int32))) ha2
  refine va_get (D := D) (ci := 1) (v := .int (Uf u 5 a2)) (C := RX2) (T := TX2) (N := 7) hx hb hts (fun w h => wm (zin_X2 w h)) hown hK hP n_17 hn_17 rfl 5 (by decide) (hts _ (wm zw_92)) (fun _ h9 => h9) rfl dX3_measureStruct_43 ?_
  refine lv_iload hx hb dX3_measureStruct_46 (lv_at hl 0 rfl) ?_
  obtain ⟨q_18, hc_18, h⟩ := zb_bind h
  try dsimp only at h
  refine vp_callSi (W.runV (As := [.int (Uf u 4 a2), .int (Uf u 5 a2), .int y_15]) (rest := []) ⟨hx, hb, hml, hown, hts⟩ (ct_X3_hasWords l D c4 A Z hZ (sF (sF (sF (sF u 0 a2 (0 : Int32)) 1 a2 y_4) 2 a2 y_8) 3 a2 (0 : Int32)) (Uf u 4 a2) (Uf u 5 a2) y_15 _ hc_18) (cwV 3 hts (wz_V zw_258 zw_181 zw_182 zw_2 zw_183) rfl rfl rfl (by decide +kernel) ⟨Nat.le_of_ble_eq_true rfl, Nat.le_of_ble_eq_true rfl⟩) ⟨fbC, va_recv hK hP (ci := 2) (q0 := 1) rfl rfl, fun U9 hU hW => ⟨rfl, goC hP hD hK hA hE hS hU hW⟩⟩ rfl rfl hl.1 rfl (lv_room (Nat.le_of_ble_eq_true rfl)) dX3_measureStruct_48 ⟨Nat.le_of_ble_eq_true rfl, Nat.le_of_ble_eq_true rfl⟩) (fun r_18 e_18 => ?_)
  subst e_18
  refine lv_if_ne (tgt := 64) hx hb dX3_measureStruct_51 (by decide) (fun c_19 => ?_) (fun c_19 => ?_)
  · skip
    rw [if_neg c_19] at h
    refine lv_iload hx hb dX3_measureStruct_64 (lv_at hl 0 rfl) ?_
    refine lv_iconst (v := (1 : Int32)) hx hb dX3_measureStruct_66 (by decide) ?_
    refine va_mmax hx hb (hml.trans hl.1.symm) hown (hts _ (wm zw_410)) (hts _ (wm zw_411)) (hts _ (wm zw_14)) (hts _ (wm zw_412)) (Nat.le_of_ble_eq_true rfl) (Nat.le_of_ble_eq_true rfl) (Nat.zero_le _) (Nat.zero_le _) dX3_measureStruct_67 ?_
    refine vx_ret ?_
    exact W.iret (v := (if y_15 < (1 : Int32) then (1 : Int32) else y_15)) hx hb hr (fun t ht hW => ⟨⟨(if y_15 < (1 : Int32) then (1 : Int32) else y_15), (sF (sF (sF (sF u 0 a2 (0 : Int32)) 1 a2 y_4) 2 a2 y_8) 3 a2 (0 : Int32)), rfl, (Option.some.inj h).symm, wPre_go hP hD hK hA hS ht hW.alike⟩, hS.F ht⟩) hS.2.2 dX3_measureStruct_70
  · skip
    rw [if_pos c_19] at h
    obtain ⟨sa, hsa⟩ := hE.2.2.2.2.1 ("PointedWords$Message", 160, "a struct that is not within its segment") (by decide)
    exact vx_throwS (A := A) (own := RX3) (cls := "java/lang/IndexOutOfBoundsException") (names := ["java/lang/RuntimeException", "java/lang/Exception"]) hx hb hl0 hown (by decide +kernel) (by decide +kernel) (hts _ (wm zw_259)) (hts _ (wm zw_10)) hsa (zat_X3_61 (fun w h => hts w (wm h)) hE.2.2.2.2.2) zgd_X3_61 hE.1 hE.2.1 hS (hl.1.trans hml.symm) dX3_measureStruct_54 dX3_measureStruct_57 dX3_measureStruct_58 dX3_measureStruct_60 dX3_measureStruct_63 (fun x9 hx9 => (htb x9 hx9).elim) (Nat.le_of_ble_eq_true rfl) (Nat.le_of_ble_eq_true rfl) (Nat.le_of_ble_eq_true rfl) (Nat.le_of_ble_eq_true rfl) hlocks (fun t hal hz hk => ⟨(1, (sF (sF (sF (sF u 0 a2 (0 : Int32)) 1 a2 y_4) 2 a2 y_8) 3 a2 (0 : Int32))), (Option.some.inj h).symm, ⟨rfl, wPre_up hP hD hK hA hS hz hk hal⟩, va_S_up hS hz hk⟩) hS.2.2 (Nat.le_of_ble_eq_true rfl) (Nat.le_of_ble_eq_true rfl)
def pX3_measurePlainList (Z : CZ) (u : CS) (a1 : Int32) (a2 : Nat) : Option (CS × (Nat ⊕ Int32)) := ((pX0_elementBits ((Uf u 0 a2) - (1 : Int32))).bind fun r_8 => ((some (pX0_wordsFor a1 r_8)).bind fun y_10 => ((pX3_hasWords Z (sF (sF (sF u 1 a2 a1) 2 a2 (0 : Int32)) 3 a2 (0 : Int32)) (Uf u 4 a2) (Uf u 5 a2) y_10).bind fun r_13 => (if r_13 = 0 then some ((sF (sF (sF u 1 a2 a1) 2 a2 (0 : Int32)) 3 a2 (0 : Int32)), .inl 1) else (if r_8 = 0 then some ((sF (sF (sF u 1 a2 a1) 2 a2 (0 : Int32)) 3 a2 (0 : Int32)), .inr (if a1 < (1 : Int32) then (1 : Int32) else a1)) else some ((sF (sF (sF u 1 a2 a1) 2 a2 (0 : Int32)) 3 a2 (0 : Int32)), .inr (if y_10 < (1 : Int32) then (1 : Int32) else y_10)))))))
set_option maxHeartbeats 4000000 in
set_option maxRecDepth 100000 in
theorem ct_X3_measurePlainList (l : Launch) (hl0 : l.stackTraces = false) (D : va_G) (c4 : Nat → ClassId) (A : Nat → Prop) (Z : CZ) (hZ : cok Z) (u : CS) (a1 : Int32) (a2 : Nat) (ha2 : isF Z a2) (res : CS × (Nat ⊕ Int32)) (h : pX3_measurePlainList Z u a1 a2 = some res) : vx_Met l yX3_measurePlainList (wz yX3_measurePlainList cX3_measurePlainList 5 (some .int)) ({ frames := 6, cells := 1, slots := 6, locals := 90 } : Room) (va_Pc [.ref (Zz Z 1), .int a1, .ref a2] (fun U => cPre D c4 A Z u U)) (va_Qi (fun q w => res = (w, .inr q)) (fun w t => wPre D c4 A (cW c4 Z w) t) A) (vx_X (fun kw : Nat × CS => res = (kw.2, .inl kw.1)) (fun E kw t => E = zEx kw.1 ∧ wPre D c4 A (cW c4 Z kw.2) t) A) 1 6 A := by
  refine vx_ofW (cc := cX3_measurePlainList) (maxL := 5) (ret := (some .int)) (by decide) rfl ?_
  intro p e s m args below meth c s₁ B hml htb hv
  obtain ⟨rfl, ⟨hP, hD, hK, hA⟩, hE⟩ := hv
  have hx := B.exec
  have hb := B.bytes
  have hr := B.returns
  have hts := atoms_spec (ws := (wz yX3_measurePlainList cX3_measurePlainList 5 (some .int))) B.pre
  have hown : s.vm.findClass RX3 = some m.cls := findClass_of_methodNamed B.named
  have hlocks := B.notSynchronized
  have hS : va_S A s.heap s.heap [] := va_S.rf
  have hl := lv_entry ([.ref (Zz Z 1), .int a1, .ref a2]) (n := 5) (Nat.le_of_ble_eq_true rfl)
  rw [lg_entry_eq]
  generalize (lg_sl ([.ref (Zz Z 1), .int a1, .ref a2]) ++ List.replicate (5 - (lg_sl ([.ref (Zz Z 1), .int a1, .ref a2])).length) Slot.unset).toArray = ls at hl ⊢
  have hl : lv_has ls 5 [(0, .ref (Zz Z 1)), (1, .int a1), (2, .ref a2)] := hl
  unfold pX3_measurePlainList at h
  refine lv_aload_n hx hb dX3_measurePlainList_0 rfl (lv_at hl 2 rfl) ?_
  refine lv_iload_n hx hb dX3_measurePlainList_1 rfl (lv_at hl 1 rfl) ?_
  obtain ⟨n_1, hn_1⟩ := cW_F (c4 := c4) (u := u) ha2
  refine va_put (D := D) (ci := 1) (v := .int a1) (ty := .int) (C := RX2) (T := TX2) (N := 7) hx hb hts (fun w h => wm (zin_X2 w h)) tyX2 tyX2_ok nmX2 hown hK hP hD hS n_1 hn_1 rfl 1 (by decide) (hts _ (wm zw_77)) (fun _ h9 => h9) rfl (by decide +kernel) rfl rfl (Nat.le_of_ble_eq_true rfl) dX3_measurePlainList_2 (fun H locs hP hD hS => ?_)
  have hq := fun (hd : va_D A (cW c4 Z u)) => cW_setF (A := A) (k := 1) (v := a1) hd ha2 hn_1 (by decide)
  have hD0 : va_D A (cW c4 Z u) := by assumption
  have hP : va_P D vwCl (cW c4 Z (sF u 1 a2 a1)) H := by rw [← hq hD0]; exact hP
  have hD : va_D A (cW c4 Z (sF u 1 a2 a1)) := by rw [← hq hD0]; exact hD
  refine lv_aload_n hx hb dX3_measurePlainList_5 rfl (lv_at hl 2 rfl) ?_
  refine lv_iconst (v := (0 : Int32)) hx hb dX3_measurePlainList_6 (by decide) ?_
  obtain ⟨n_3, hn_3⟩ := cW_F (c4 := c4) (u := (sF u 1 a2 a1)) ha2
  refine va_put (D := D) (ci := 1) (v := .int (0 : Int32)) (ty := .int) (C := RX2) (T := TX2) (N := 7) hx hb hts (fun w h => wm (zin_X2 w h)) tyX2 tyX2_ok nmX2 hown hK hP hD hS n_3 hn_3 rfl 2 (by decide) (hts _ (wm zw_81)) (fun _ h9 => h9) rfl (by decide +kernel) rfl rfl (Nat.le_of_ble_eq_true rfl) dX3_measurePlainList_7 (fun H locs hP hD hS => ?_)
  have hq := fun (hd : va_D A (cW c4 Z (sF u 1 a2 a1))) => cW_setF (A := A) (k := 2) (v := (0 : Int32)) hd ha2 hn_3 (by decide)
  have hD0 : va_D A (cW c4 Z (sF u 1 a2 a1)) := by assumption
  have hP : va_P D vwCl (cW c4 Z (sF (sF u 1 a2 a1) 2 a2 (0 : Int32))) H := by rw [← hq hD0]; exact hP
  have hD : va_D A (cW c4 Z (sF (sF u 1 a2 a1) 2 a2 (0 : Int32))) := by rw [← hq hD0]; exact hD
  refine lv_aload_n hx hb dX3_measurePlainList_10 rfl (lv_at hl 2 rfl) ?_
  refine lv_iconst (v := (0 : Int32)) hx hb dX3_measurePlainList_11 (by decide) ?_
  obtain ⟨n_5, hn_5⟩ := cW_F (c4 := c4) (u := (sF (sF u 1 a2 a1) 2 a2 (0 : Int32))) ha2
  refine va_put (D := D) (ci := 1) (v := .int (0 : Int32)) (ty := .int) (C := RX2) (T := TX2) (N := 7) hx hb hts (fun w h => wm (zin_X2 w h)) tyX2 tyX2_ok nmX2 hown hK hP hD hS n_5 hn_5 rfl 3 (by decide) (hts _ (wm zw_85)) (fun _ h9 => h9) rfl (by decide +kernel) rfl rfl (Nat.le_of_ble_eq_true rfl) dX3_measurePlainList_12 (fun H locs hP hD hS => ?_)
  have hq := fun (hd : va_D A (cW c4 Z (sF (sF u 1 a2 a1) 2 a2 (0 : Int32)))) => cW_setF (A := A) (k := 3) (v := (0 : Int32)) hd ha2 hn_5 (by decide)
  have hD0 : va_D A (cW c4 Z (sF (sF u 1 a2 a1) 2 a2 (0 : Int32))) := by assumption
  have hP : va_P D vwCl (cW c4 Z (sF (sF (sF u 1 a2 a1) 2 a2 (0 : Int32)) 3 a2 (0 : Int32))) H := by rw [← hq hD0]; exact hP
  have hD : va_D A (cW c4 Z (sF (sF (sF u 1 a2 a1) 2 a2 (0 : Int32)) 3 a2 (0 : Int32))) := by rw [← hq hD0]; exact hD
  refine lv_aload_n hx hb dX3_measurePlainList_15 rfl (lv_at hl 2 rfl) ?_
  obtain ⟨n_7, hn_7⟩ := cW_F (c4 := c4) (u := (sF (sF (sF u 1 a2 a1) 2 a2 (0 : Int32)) 3 a2 (0 : Int32))) ha2
  refine va_get (D := D) (ci := 1) (v := .int (Uf u 0 a2)) (C := RX2) (T := TX2) (N := 7) hx hb hts (fun w h => wm (zin_X2 w h)) hown hK hP n_7 hn_7 rfl 0 (by decide) (hts _ (wm zw_72)) (fun _ h9 => h9) rfl dX3_measurePlainList_16 ?_
  refine lv_iconst (v := (1 : Int32)) hx hb dX3_measurePlainList_19 (by decide) ?_
  refine lv_isub hx hb dX3_measurePlainList_20 ?_
  obtain ⟨q_8, hc_8, h⟩ := zb_bind h
  try dsimp only at h
  refine vp_callSi (W.runS (As := [.int ((Uf u 0 a2) - (1 : Int32))]) (rest := []) ⟨hx, hb, hml, hown, hts⟩ (ct_X0_elementBits l A ((Uf u 0 a2) - (1 : Int32)) _ hc_8) (va_cwS 1 hts (wz_S zw_433 zw_434 zw_12 zw_435) rfl rfl rfl (by decide +kernel) ⟨Nat.le_of_ble_eq_true rfl, Nat.le_of_ble_eq_true rfl⟩) ⟨fbE, fun U9 hU hW => ⟨rfl, goE hE hS hU hW⟩⟩ rfl rfl hl.1 rfl (lv_room (Nat.le_of_ble_eq_true rfl)) dX3_measurePlainList_21 ⟨Nat.le_of_ble_eq_true rfl, Nat.le_of_ble_eq_true rfl⟩) (fun r_8 e_8 => ?_)
  subst e_8
  refine lv_istore_n (lv' := [(3, .int r_8), (0, .ref (Zz Z 1)), (1, .int a1), (2, .ref a2)]) hx hb dX3_measurePlainList_24 rfl hl (by decide) rfl (fun ls hl => ?_)
  refine lv_iload_n hx hb dX3_measurePlainList_25 rfl (lv_at hl 2 rfl) ?_
  refine lv_iload_n hx hb dX3_measurePlainList_26 rfl (lv_at hl 0 rfl) ?_
  refine vp_callSi (W.runS (As := [.int a1, .int r_8]) (rest := []) ⟨hx, hb, hml, hown, hts⟩ (ct_X0_wordsFor l a1 r_8 _ rfl) (va_cwS 2 hts (wz_S zw_438 zw_439 zw_12 zw_440) rfl rfl rfl (by decide +kernel) ⟨Nat.le_of_ble_eq_true rfl, Nat.le_of_ble_eq_true rfl⟩) ⟨fbN, fun U9 hU hW => ⟨rfl, trivial⟩⟩ rfl rfl hl.1 rfl (lv_room (Nat.le_of_ble_eq_true rfl)) dX3_measurePlainList_27 ⟨Nat.le_of_ble_eq_true rfl, Nat.le_of_ble_eq_true rfl⟩) (fun r_9 e_9 => ?_)
  subst e_9
  obtain ⟨y_10, e_10, h⟩ := zb_bind h
  try dsimp only at h
  refine zt_i (Option.some.inj e_10) ?_
  refine lv_istore (lv' := [(4, .int y_10), (3, .int r_8), (0, .ref (Zz Z 1)), (1, .int a1), (2, .ref a2)]) hx hb dX3_measurePlainList_30 hl (by decide) rfl (fun ls hl => ?_)
  refine lv_aload_n hx hb dX3_measurePlainList_32 rfl (lv_at hl 2 rfl) ?_
  refine lv_aload_n hx hb dX3_measurePlainList_33 rfl (lv_at hl 4 rfl) ?_
  obtain ⟨n_11, hn_11⟩ := cW_F (c4 := c4) (u := (sF (sF (sF u 1 a2 a1) 2 a2 (0 : Int32)) 3 a2 (0 : Int32))) ha2
  refine va_get (D := D) (ci := 1) (v := .int (Uf u 4 a2)) (C := RX2) (T := TX2) (N := 7) hx hb hts (fun w h => wm (zin_X2 w h)) hown hK hP n_11 hn_11 rfl 4 (by decide) (hts _ (wm zw_88)) (fun _ h9 => h9) rfl dX3_measurePlainList_34 ?_
  refine lv_aload_n hx hb dX3_measurePlainList_37 rfl (lv_at hl 4 rfl) ?_
  obtain ⟨n_12, hn_12⟩ := cW_F (c4 := c4) (u := (sF (sF (sF u 1 a2 a1) 2 a2 (0 : Int32)) 3 a2 (0 : Int32))) ha2
  refine va_get (D := D) (ci := 1) (v := .int (Uf u 5 a2)) (C := RX2) (T := TX2) (N := 7) hx hb hts (fun w h => wm (zin_X2 w h)) hown hK hP n_12 hn_12 rfl 5 (by decide) (hts _ (wm zw_92)) (fun _ h9 => h9) rfl dX3_measurePlainList_38 ?_
  refine lv_iload hx hb dX3_measurePlainList_41 (lv_at hl 0 rfl) ?_
  obtain ⟨q_13, hc_13, h⟩ := zb_bind h
  try dsimp only at h
  refine vp_callSi (W.runV (As := [.int (Uf u 4 a2), .int (Uf u 5 a2), .int y_10]) (rest := []) ⟨hx, hb, hml, hown, hts⟩ (ct_X3_hasWords l D c4 A Z hZ (sF (sF (sF u 1 a2 a1) 2 a2 (0 : Int32)) 3 a2 (0 : Int32)) (Uf u 4 a2) (Uf u 5 a2) y_10 _ hc_13) (cwV 3 hts (wz_V zw_258 zw_181 zw_182 zw_2 zw_183) rfl rfl rfl (by decide +kernel) ⟨Nat.le_of_ble_eq_true rfl, Nat.le_of_ble_eq_true rfl⟩) ⟨fbC, va_recv hK hP (ci := 2) (q0 := 1) rfl rfl, fun U9 hU hW => ⟨rfl, goC hP hD hK hA hE hS hU hW⟩⟩ rfl rfl hl.1 rfl (lv_room (Nat.le_of_ble_eq_true rfl)) dX3_measurePlainList_43 ⟨Nat.le_of_ble_eq_true rfl, Nat.le_of_ble_eq_true rfl⟩) (fun r_13 e_13 => ?_)
  subst e_13
  refine lv_if_ne (tgt := 59) hx hb dX3_measurePlainList_46 (by decide) (fun c_14 => ?_) (fun c_14 => ?_)
  · skip
    rw [if_neg c_14] at h
    refine lv_iload_n hx hb dX3_measurePlainList_59 rfl (lv_at hl 1 rfl) ?_
    refine lv_if_ne (tgt := 67) hx hb dX3_measurePlainList_60 (by decide) (fun c_15 => ?_) (fun c_15 => ?_)
    · skip
      rw [if_neg c_15] at h
      refine lv_iload hx hb dX3_measurePlainList_67 (lv_at hl 0 rfl) ?_
      refine lv_iconst (v := (1 : Int32)) hx hb dX3_measurePlainList_69 (by decide) ?_
      refine va_mmax hx hb (hml.trans hl.1.symm) hown (hts _ (wm zw_410)) (hts _ (wm zw_411)) (hts _ (wm zw_14)) (hts _ (wm zw_412)) (Nat.le_of_ble_eq_true rfl) (Nat.le_of_ble_eq_true rfl) (Nat.zero_le _) (Nat.zero_le _) dX3_measurePlainList_70 ?_
      refine vx_ret ?_
      exact W.iret (v := (if y_10 < (1 : Int32) then (1 : Int32) else y_10)) hx hb hr (fun t ht hW => ⟨⟨(if y_10 < (1 : Int32) then (1 : Int32) else y_10), (sF (sF (sF u 1 a2 a1) 2 a2 (0 : Int32)) 3 a2 (0 : Int32)), rfl, (Option.some.inj h).symm, wPre_go hP hD hK hA hS ht hW.alike⟩, hS.F ht⟩) hS.2.2 dX3_measurePlainList_73
    · skip
      rw [if_pos c_15] at h
      refine lv_iload_n hx hb dX3_measurePlainList_63 rfl (lv_at hl 3 rfl) ?_
      refine lv_goto (tgt := 69) hx hb dX3_measurePlainList_64 (by decide) ?_
      refine lv_iconst (v := (1 : Int32)) hx hb dX3_measurePlainList_69 (by decide) ?_
      refine va_mmax hx hb (hml.trans hl.1.symm) hown (hts _ (wm zw_410)) (hts _ (wm zw_411)) (hts _ (wm zw_14)) (hts _ (wm zw_412)) (Nat.le_of_ble_eq_true rfl) (Nat.le_of_ble_eq_true rfl) (Nat.zero_le _) (Nat.zero_le _) dX3_measurePlainList_70 ?_
      refine vx_ret ?_
      exact W.iret (v := (if a1 < (1 : Int32) then (1 : Int32) else a1)) hx hb hr (fun t ht hW => ⟨⟨(if a1 < (1 : Int32) then (1 : Int32) else a1), (sF (sF (sF u 1 a2 a1) 2 a2 (0 : Int32)) 3 a2 (0 : Int32)), rfl, (Option.some.inj h).symm, wPre_go hP hD hK hA hS ht hW.alike⟩, hS.F ht⟩) hS.2.2 dX3_measurePlainList_73
  · skip
    rw [if_pos c_14] at h
    obtain ⟨sa, hsa⟩ := hE.2.2.2.2.1 ("PointedWords$Message", 171, "a list that is not within its segment") (by decide)
    exact vx_throwS (A := A) (own := RX3) (cls := "java/lang/IndexOutOfBoundsException") (names := ["java/lang/RuntimeException", "java/lang/Exception"]) hx hb hl0 hown (by decide +kernel) (by decide +kernel) (hts _ (wm zw_259)) (hts _ (wm zw_10)) hsa (zat_X3_61 (fun w h => hts w (wm h)) hE.2.2.2.2.2) zgd_X3_61 hE.1 hE.2.1 hS (hl.1.trans hml.symm) dX3_measurePlainList_49 dX3_measurePlainList_52 dX3_measurePlainList_53 dX3_measurePlainList_55 dX3_measurePlainList_58 (fun x9 hx9 => (htb x9 hx9).elim) (Nat.le_of_ble_eq_true rfl) (Nat.le_of_ble_eq_true rfl) (Nat.le_of_ble_eq_true rfl) (Nat.le_of_ble_eq_true rfl) hlocks (fun t hal hz hk => ⟨(1, (sF (sF (sF u 1 a2 a1) 2 a2 (0 : Int32)) 3 a2 (0 : Int32))), (Option.some.inj h).symm, ⟨rfl, wPre_up hP hD hK hA hS hz hk hal⟩, va_S_up hS hz hk⟩) hS.2.2 (Nat.le_of_ble_eq_true rfl) (Nat.le_of_ble_eq_true rfl)
def pX3_measureStructList (Z : CZ) (u : CS) (a1 : Int32) (a2 : Nat) : Option (CS × (Nat ⊕ Int32)) := ((pX3_hasWords Z u (Uf u 4 a2) (Uf u 5 a2) (a1 + (1 : Int32))).bind fun r_3 => (if r_3 = 0 then some (u, .inl 1) else ((pX3_at Z u (Uf u 4 a2) (Uf u 5 a2)).bind fun r_7 => (if (pX0_type r_7) = 0 then ((some ((Uf u 5 a2) + (1 : Int32))).bind fun y_11 => ((some (pX0_tagCount r_7)).bind fun y_15 => ((some (pX0_dataWords r_7)).bind fun y_19 => ((some (pX0_pointers r_7)).bind fun y_23 => (if (((Uf (sF (sF u 5 a2 y_11) 1 a2 y_15) 1 a2).toInt64) * (((Uf (sF (sF (sF u 5 a2 y_11) 1 a2 y_15) 3 a2 y_19) 3 a2) + (Uf (sF (sF (sF (sF u 5 a2 y_11) 1 a2 y_15) 3 a2 y_19) 2 a2 y_23) 2 a2)).toInt64)) ≤ (a1.toInt64) then some ((sF (sF (sF (sF u 5 a2 y_11) 1 a2 y_15) 3 a2 y_19) 2 a2 y_23), .inr ((if a1 < (Uf (sF (sF u 5 a2 y_11) 1 a2 y_15) 1 a2) then (Uf (sF (sF u 5 a2 y_11) 1 a2 y_15) 1 a2) else a1) + (1 : Int32))) else some ((sF (sF (sF (sF u 5 a2 y_11) 1 a2 y_15) 3 a2 y_19) 2 a2 y_23), .inl 3)))))) else some (u, .inl 3)))))
set_option maxHeartbeats 4000000 in
set_option maxRecDepth 100000 in
theorem ct_X3_measureStructList (l : Launch) (hl0 : l.stackTraces = false) (D : va_G) (c4 : Nat → ClassId) (A : Nat → Prop) (Z : CZ) (hZ : cok Z) (u : CS) (a1 : Int32) (a2 : Nat) (ha2 : isF Z a2) (res : CS × (Nat ⊕ Int32)) (h : pX3_measureStructList Z u a1 a2 = some res) : vx_Met l yX3_measureStructList (wz yX3_measureStructList cX3_measureStructList 5 (some .int)) ({ frames := 6, cells := 1, slots := 6, locals := 90 } : Room) (va_Pc [.ref (Zz Z 1), .int a1, .ref a2] (fun U => cPre D c4 A Z u U)) (va_Qi (fun q w => res = (w, .inr q)) (fun w t => wPre D c4 A (cW c4 Z w) t) A) (vx_X (fun kw : Nat × CS => res = (kw.2, .inl kw.1)) (fun E kw t => E = zEx kw.1 ∧ wPre D c4 A (cW c4 Z kw.2) t) A) 1 6 A := by
  refine vx_ofW (cc := cX3_measureStructList) (maxL := 5) (ret := (some .int)) (by decide) rfl ?_
  intro p e s m args below meth c s₁ B hml htb hv
  obtain ⟨rfl, ⟨hP, hD, hK, hA⟩, hE⟩ := hv
  have hx := B.exec
  have hb := B.bytes
  have hr := B.returns
  have hts := atoms_spec (ws := (wz yX3_measureStructList cX3_measureStructList 5 (some .int))) B.pre
  have hown : s.vm.findClass RX3 = some m.cls := findClass_of_methodNamed B.named
  have hlocks := B.notSynchronized
  have hS : va_S A s.heap s.heap [] := va_S.rf
  have hl := lv_entry ([.ref (Zz Z 1), .int a1, .ref a2]) (n := 5) (Nat.le_of_ble_eq_true rfl)
  rw [lg_entry_eq]
  generalize (lg_sl ([.ref (Zz Z 1), .int a1, .ref a2]) ++ List.replicate (5 - (lg_sl ([.ref (Zz Z 1), .int a1, .ref a2])).length) Slot.unset).toArray = ls at hl ⊢
  have hl : lv_has ls 5 [(0, .ref (Zz Z 1)), (1, .int a1), (2, .ref a2)] := hl
  unfold pX3_measureStructList at h
  refine lv_aload_n hx hb dX3_measureStructList_0 rfl (lv_at hl 0 rfl) ?_
  refine lv_aload_n hx hb dX3_measureStructList_1 rfl (lv_at hl 2 rfl) ?_
  obtain ⟨n_1, hn_1⟩ := cW_F (c4 := c4) (u := u) ha2
  refine va_get (D := D) (ci := 1) (v := .int (Uf u 4 a2)) (C := RX2) (T := TX2) (N := 7) hx hb hts (fun w h => wm (zin_X2 w h)) hown hK hP n_1 hn_1 rfl 4 (by decide) (hts _ (wm zw_88)) (fun _ h9 => h9) rfl dX3_measureStructList_2 ?_
  refine lv_aload_n hx hb dX3_measureStructList_5 rfl (lv_at hl 2 rfl) ?_
  obtain ⟨n_2, hn_2⟩ := cW_F (c4 := c4) (u := u) ha2
  refine va_get (D := D) (ci := 1) (v := .int (Uf u 5 a2)) (C := RX2) (T := TX2) (N := 7) hx hb hts (fun w h => wm (zin_X2 w h)) hown hK hP n_2 hn_2 rfl 5 (by decide) (hts _ (wm zw_92)) (fun _ h9 => h9) rfl dX3_measureStructList_6 ?_
  refine lv_iload_n hx hb dX3_measureStructList_9 rfl (lv_at hl 1 rfl) ?_
  refine lv_iconst (v := (1 : Int32)) hx hb dX3_measureStructList_10 (by decide) ?_
  refine lv_iadd hx hb dX3_measureStructList_11 ?_
  obtain ⟨q_3, hc_3, h⟩ := zb_bind h
  try dsimp only at h
  refine vp_callSi (W.runV (As := [.int (Uf u 4 a2), .int (Uf u 5 a2), .int (a1 + (1 : Int32))]) (rest := []) ⟨hx, hb, hml, hown, hts⟩ (ct_X3_hasWords l D c4 A Z hZ u (Uf u 4 a2) (Uf u 5 a2) (a1 + (1 : Int32)) _ hc_3) (cwV 3 hts (wz_V zw_258 zw_181 zw_182 zw_2 zw_183) rfl rfl rfl (by decide +kernel) ⟨Nat.le_of_ble_eq_true rfl, Nat.le_of_ble_eq_true rfl⟩) ⟨fbC, va_recv hK hP (ci := 2) (q0 := 1) rfl rfl, fun U9 hU hW => ⟨rfl, goC hP hD hK hA hE hS hU hW⟩⟩ rfl rfl hl.1 rfl (lv_room (Nat.le_of_ble_eq_true rfl)) dX3_measureStructList_12 ⟨Nat.le_of_ble_eq_true rfl, Nat.le_of_ble_eq_true rfl⟩) (fun r_3 e_3 => ?_)
  subst e_3
  refine lv_if_ne (tgt := 28) hx hb dX3_measureStructList_15 (by decide) (fun c_4 => ?_) (fun c_4 => ?_)
  · skip
    rw [if_neg c_4] at h
    refine lv_aload_n hx hb dX3_measureStructList_28 rfl (lv_at hl 0 rfl) ?_
    refine lv_aload_n hx hb dX3_measureStructList_29 rfl (lv_at hl 2 rfl) ?_
    obtain ⟨n_5, hn_5⟩ := cW_F (c4 := c4) (u := u) ha2
    refine va_get (D := D) (ci := 1) (v := .int (Uf u 4 a2)) (C := RX2) (T := TX2) (N := 7) hx hb hts (fun w h => wm (zin_X2 w h)) hown hK hP n_5 hn_5 rfl 4 (by decide) (hts _ (wm zw_88)) (fun _ h9 => h9) rfl dX3_measureStructList_30 ?_
    refine lv_aload_n hx hb dX3_measureStructList_33 rfl (lv_at hl 2 rfl) ?_
    obtain ⟨n_6, hn_6⟩ := cW_F (c4 := c4) (u := u) ha2
    refine va_get (D := D) (ci := 1) (v := .int (Uf u 5 a2)) (C := RX2) (T := TX2) (N := 7) hx hb hts (fun w h => wm (zin_X2 w h)) hown hK hP n_6 hn_6 rfl 5 (by decide) (hts _ (wm zw_92)) (fun _ h9 => h9) rfl dX3_measureStructList_34 ?_
    obtain ⟨q_7, hc_7, h⟩ := zb_bind h
    try dsimp only at h
    refine vp_callSl (W.runV (As := [.int (Uf u 4 a2), .int (Uf u 5 a2)]) (rest := []) ⟨hx, hb, hml, hown, hts⟩ (ct_X3_at l D c4 A Z hZ u (Uf u 4 a2) (Uf u 5 a2) _ hc_7) (cwV 2 hts (wz_V zw_329 zw_201 zw_202 zw_2 zw_203) rfl rfl rfl (by decide +kernel) ⟨Nat.le_of_ble_eq_true rfl, Nat.le_of_ble_eq_true rfl⟩) ⟨fbC, va_recv hK hP (ci := 2) (q0 := 1) rfl rfl, fun U9 hU hW => ⟨rfl, goC hP hD hK hA hE hS hU hW⟩⟩ rfl rfl hl.1 rfl (lv_room (Nat.le_of_ble_eq_true rfl)) dX3_measureStructList_37 ⟨Nat.le_of_ble_eq_true rfl, Nat.le_of_ble_eq_true rfl⟩) (fun r_7 e_7 => ?_)
    subst e_7
    refine lv_lstore_n (lv' := [(3, .long r_7), (0, .ref (Zz Z 1)), (1, .int a1), (2, .ref a2)]) hx hb dX3_measureStructList_40 rfl hl (by decide) rfl (fun ls hl => ?_)
    refine lv_lload_n hx hb dX3_measureStructList_41 rfl (lv_at hl 0 rfl) ?_
    refine vp_callSi (W.runS (As := [.long r_7]) (rest := []) ⟨hx, hb, hml, hown, hts⟩ (ct_X0_type l r_7 _ rfl) (va_cwS 1 hts (wz_S zw_350 zw_351 zw_12 zw_352) rfl rfl rfl (by decide +kernel) ⟨Nat.le_of_ble_eq_true rfl, Nat.le_of_ble_eq_true rfl⟩) ⟨fbN, fun U9 hU hW => ⟨rfl, trivial⟩⟩ rfl rfl hl.1 rfl (lv_room (Nat.le_of_ble_eq_true rfl)) dX3_measureStructList_42 ⟨Nat.le_of_ble_eq_true rfl, Nat.le_of_ble_eq_true rfl⟩) (fun r_8 e_8 => ?_)
    subst e_8
    refine lv_if_eq (tgt := 58) hx hb dX3_measureStructList_45 (by decide) (fun c_9 => ?_) (fun c_9 => ?_)
    · skip
      rw [if_pos c_9] at h
      refine lv_aload_n hx hb dX3_measureStructList_58 rfl (lv_at hl 3 rfl) ?_
      refine lv_dup hx hb dX3_measureStructList_59 rfl ?_
      obtain ⟨n_10, hn_10⟩ := cW_F (c4 := c4) (u := u) ha2
      refine va_get (D := D) (ci := 1) (v := .int (Uf u 5 a2)) (C := RX2) (T := TX2) (N := 7) hx hb hts (fun w h => wm (zin_X2 w h)) hown hK hP n_10 hn_10 rfl 5 (by decide) (hts _ (wm zw_92)) (fun _ h9 => h9) rfl dX3_measureStructList_60 ?_
      refine lv_iconst (v := (1 : Int32)) hx hb dX3_measureStructList_63 (by decide) ?_
      refine lv_iadd hx hb dX3_measureStructList_64 ?_
      obtain ⟨y_11, e_11, h⟩ := zb_bind h
      try dsimp only at h
      refine zt_i (Option.some.inj e_11) ?_
      obtain ⟨n_12, hn_12⟩ := cW_F (c4 := c4) (u := u) ha2
      refine va_put (D := D) (ci := 1) (v := .int y_11) (ty := .int) (C := RX2) (T := TX2) (N := 7) hx hb hts (fun w h => wm (zin_X2 w h)) tyX2 tyX2_ok nmX2 hown hK hP hD hS n_12 hn_12 rfl 5 (by decide) (hts _ (wm zw_92)) (fun _ h9 => h9) rfl (by decide +kernel) rfl rfl (Nat.le_of_ble_eq_true rfl) dX3_measureStructList_65 (fun H locs hP hD hS => ?_)
      have hq := fun (hd : va_D A (cW c4 Z u)) => cW_setF (A := A) (k := 5) (v := y_11) hd ha2 hn_12 (by decide)
      have hD0 : va_D A (cW c4 Z u) := by assumption
      have hP : va_P D vwCl (cW c4 Z (sF u 5 a2 y_11)) H := by rw [← hq hD0]; exact hP
      have hD : va_D A (cW c4 Z (sF u 5 a2 y_11)) := by rw [← hq hD0]; exact hD
      refine lv_aload_n hx hb dX3_measureStructList_68 rfl (lv_at hl 3 rfl) ?_
      refine lv_lload_n hx hb dX3_measureStructList_69 rfl (lv_at hl 0 rfl) ?_
      refine vp_callSi (W.runS (As := [.long r_7]) (rest := [.ref a2]) ⟨hx, hb, hml, hown, hts⟩ (ct_X0_tagCount l r_7 _ rfl) (va_cwS 1 hts (wz_S zw_425 zw_426 zw_12 zw_427) rfl rfl rfl (by decide +kernel) ⟨Nat.le_of_ble_eq_true rfl, Nat.le_of_ble_eq_true rfl⟩) ⟨fbN, fun U9 hU hW => ⟨rfl, trivial⟩⟩ rfl rfl hl.1 rfl (lv_room (Nat.le_of_ble_eq_true rfl)) dX3_measureStructList_70 ⟨Nat.le_of_ble_eq_true rfl, Nat.le_of_ble_eq_true rfl⟩) (fun r_14 e_14 => ?_)
      subst e_14
      obtain ⟨y_15, e_15, h⟩ := zb_bind h
      try dsimp only at h
      refine zt_i (Option.some.inj e_15) ?_
      obtain ⟨n_16, hn_16⟩ := cW_F (c4 := c4) (u := (sF u 5 a2 y_11)) ha2
      refine va_put (D := D) (ci := 1) (v := .int y_15) (ty := .int) (C := RX2) (T := TX2) (N := 7) hx hb hts (fun w h => wm (zin_X2 w h)) tyX2 tyX2_ok nmX2 hown hK hP hD hS n_16 hn_16 rfl 1 (by decide) (hts _ (wm zw_77)) (fun _ h9 => h9) rfl (by decide +kernel) rfl rfl (Nat.le_of_ble_eq_true rfl) dX3_measureStructList_73 (fun H locs hP hD hS => ?_)
      have hq := fun (hd : va_D A (cW c4 Z (sF u 5 a2 y_11))) => cW_setF (A := A) (k := 1) (v := y_15) hd ha2 hn_16 (by decide)
      have hD0 : va_D A (cW c4 Z (sF u 5 a2 y_11)) := by assumption
      have hP : va_P D vwCl (cW c4 Z (sF (sF u 5 a2 y_11) 1 a2 y_15)) H := by rw [← hq hD0]; exact hP
      have hD : va_D A (cW c4 Z (sF (sF u 5 a2 y_11) 1 a2 y_15)) := by rw [← hq hD0]; exact hD
      refine lv_aload_n hx hb dX3_measureStructList_76 rfl (lv_at hl 3 rfl) ?_
      refine lv_lload_n hx hb dX3_measureStructList_77 rfl (lv_at hl 0 rfl) ?_
      refine vp_callSi (W.runS (As := [.long r_7]) (rest := [.ref a2]) ⟨hx, hb, hml, hown, hts⟩ (ct_X0_dataWords l r_7 _ rfl) (va_cwS 1 hts (wz_S zw_402 zw_403 zw_12 zw_404) rfl rfl rfl (by decide +kernel) ⟨Nat.le_of_ble_eq_true rfl, Nat.le_of_ble_eq_true rfl⟩) ⟨fbN, fun U9 hU hW => ⟨rfl, trivial⟩⟩ rfl rfl hl.1 rfl (lv_room (Nat.le_of_ble_eq_true rfl)) dX3_measureStructList_78 ⟨Nat.le_of_ble_eq_true rfl, Nat.le_of_ble_eq_true rfl⟩) (fun r_18 e_18 => ?_)
      subst e_18
      obtain ⟨y_19, e_19, h⟩ := zb_bind h
      try dsimp only at h
      refine zt_i (Option.some.inj e_19) ?_
      obtain ⟨n_20, hn_20⟩ := cW_F (c4 := c4) (u := (sF (sF u 5 a2 y_11) 1 a2 y_15)) ha2
      refine va_put (D := D) (ci := 1) (v := .int y_19) (ty := .int) (C := RX2) (T := TX2) (N := 7) hx hb hts (fun w h => wm (zin_X2 w h)) tyX2 tyX2_ok nmX2 hown hK hP hD hS n_20 hn_20 rfl 3 (by decide) (hts _ (wm zw_85)) (fun _ h9 => h9) rfl (by decide +kernel) rfl rfl (Nat.le_of_ble_eq_true rfl) dX3_measureStructList_81 (fun H locs hP hD hS => ?_)
      have hq := fun (hd : va_D A (cW c4 Z (sF (sF u 5 a2 y_11) 1 a2 y_15))) => cW_setF (A := A) (k := 3) (v := y_19) hd ha2 hn_20 (by decide)
      have hD0 : va_D A (cW c4 Z (sF (sF u 5 a2 y_11) 1 a2 y_15)) := by assumption
      have hP : va_P D vwCl (cW c4 Z (sF (sF (sF u 5 a2 y_11) 1 a2 y_15) 3 a2 y_19)) H := by rw [← hq hD0]; exact hP
      have hD : va_D A (cW c4 Z (sF (sF (sF u 5 a2 y_11) 1 a2 y_15) 3 a2 y_19)) := by rw [← hq hD0]; exact hD
      refine lv_aload_n hx hb dX3_measureStructList_84 rfl (lv_at hl 3 rfl) ?_
      refine lv_lload_n hx hb dX3_measureStructList_85 rfl (lv_at hl 0 rfl) ?_
      refine vp_callSi (W.runS (As := [.long r_7]) (rest := [.ref a2]) ⟨hx, hb, hml, hown, hts⟩ (ct_X0_pointers l r_7 _ rfl) (va_cwS 1 hts (wz_S zw_406 zw_407 zw_12 zw_408) rfl rfl rfl (by decide +kernel) ⟨Nat.le_of_ble_eq_true rfl, Nat.le_of_ble_eq_true rfl⟩) ⟨fbN, fun U9 hU hW => ⟨rfl, trivial⟩⟩ rfl rfl hl.1 rfl (lv_room (Nat.le_of_ble_eq_true rfl)) dX3_measureStructList_86 ⟨Nat.le_of_ble_eq_true rfl, Nat.le_of_ble_eq_true rfl⟩) (fun r_22 e_22 => ?_)
      subst e_22
      obtain ⟨y_23, e_23, h⟩ := zb_bind h
      try dsimp only at h
      refine zt_i (Option.some.inj e_23) ?_
      obtain ⟨n_24, hn_24⟩ := cW_F (c4 := c4) (u := (sF (sF (sF u 5 a2 y_11) 1 a2 y_15) 3 a2 y_19)) ha2
      refine va_put (D := D) (ci := 1) (v := .int y_23) (ty := .int) (C := RX2) (T := TX2) (N := 7) hx hb hts (fun w h => wm (zin_X2 w h)) tyX2 tyX2_ok nmX2 hown hK hP hD hS n_24 hn_24 rfl 2 (by decide) (hts _ (wm zw_81)) (fun _ h9 => h9) rfl (by decide +kernel) rfl rfl (Nat.le_of_ble_eq_true rfl) dX3_measureStructList_89 (fun H locs hP hD hS => ?_)
      have hq := fun (hd : va_D A (cW c4 Z (sF (sF (sF u 5 a2 y_11) 1 a2 y_15) 3 a2 y_19))) => cW_setF (A := A) (k := 2) (v := y_23) hd ha2 hn_24 (by decide)
      have hD0 : va_D A (cW c4 Z (sF (sF (sF u 5 a2 y_11) 1 a2 y_15) 3 a2 y_19)) := by assumption
      have hP : va_P D vwCl (cW c4 Z (sF (sF (sF (sF u 5 a2 y_11) 1 a2 y_15) 3 a2 y_19) 2 a2 y_23)) H := by rw [← hq hD0]; exact hP
      have hD : va_D A (cW c4 Z (sF (sF (sF (sF u 5 a2 y_11) 1 a2 y_15) 3 a2 y_19) 2 a2 y_23)) := by rw [← hq hD0]; exact hD
      refine lv_aload_n hx hb dX3_measureStructList_92 rfl (lv_at hl 3 rfl) ?_
      obtain ⟨n_26, hn_26⟩ := cW_F (c4 := c4) (u := (sF (sF (sF (sF u 5 a2 y_11) 1 a2 y_15) 3 a2 y_19) 2 a2 y_23)) ha2
      refine va_get (D := D) (ci := 1) (v := .int (Uf (sF (sF u 5 a2 y_11) 1 a2 y_15) 1 a2)) (C := RX2) (T := TX2) (N := 7) hx hb hts (fun w h => wm (zin_X2 w h)) hown hK hP n_26 hn_26 rfl 1 (by decide) (hts _ (wm zw_77)) (fun _ h9 => h9) rfl dX3_measureStructList_93 ?_
      refine lv_i2l hx hb dX3_measureStructList_96 rfl ?_
      refine lv_aload_n hx hb dX3_measureStructList_97 rfl (lv_at hl 3 rfl) ?_
      obtain ⟨n_27, hn_27⟩ := cW_F (c4 := c4) (u := (sF (sF (sF (sF u 5 a2 y_11) 1 a2 y_15) 3 a2 y_19) 2 a2 y_23)) ha2
      refine va_get (D := D) (ci := 1) (v := .int (Uf (sF (sF (sF u 5 a2 y_11) 1 a2 y_15) 3 a2 y_19) 3 a2)) (C := RX2) (T := TX2) (N := 7) hx hb hts (fun w h => wm (zin_X2 w h)) hown hK hP n_27 hn_27 rfl 3 (by decide) (hts _ (wm zw_85)) (fun _ h9 => h9) rfl dX3_measureStructList_98 ?_
      refine lv_aload_n hx hb dX3_measureStructList_101 rfl (lv_at hl 3 rfl) ?_
      obtain ⟨n_28, hn_28⟩ := cW_F (c4 := c4) (u := (sF (sF (sF (sF u 5 a2 y_11) 1 a2 y_15) 3 a2 y_19) 2 a2 y_23)) ha2
      refine va_get (D := D) (ci := 1) (v := .int (Uf (sF (sF (sF (sF u 5 a2 y_11) 1 a2 y_15) 3 a2 y_19) 2 a2 y_23) 2 a2)) (C := RX2) (T := TX2) (N := 7) hx hb hts (fun w h => wm (zin_X2 w h)) hown hK hP n_28 hn_28 rfl 2 (by decide) (hts _ (wm zw_81)) (fun _ h9 => h9) rfl dX3_measureStructList_102 ?_
      refine lv_iadd hx hb dX3_measureStructList_105 ?_
      refine lv_i2l hx hb dX3_measureStructList_106 rfl ?_
      refine lv_lmul hx hb dX3_measureStructList_107 ?_
      refine lv_iload_n hx hb dX3_measureStructList_108 rfl (lv_at hl 2 rfl) ?_
      refine lv_i2l hx hb dX3_measureStructList_109 rfl ?_
      refine W.lcmp hx hb dX3_measureStructList_110 ?_
      refine lv_if_le (tgt := 124) hx hb dX3_measureStructList_111 (by decide) (fun c_29 => ?_) (fun c_29 => ?_)
      · skip
        have c_29 := (lg_cmp_le _ _).mp c_29
        rw [if_pos c_29] at h
        refine lv_iload_n hx hb dX3_measureStructList_124 rfl (lv_at hl 2 rfl) ?_
        refine lv_aload_n hx hb dX3_measureStructList_125 rfl (lv_at hl 3 rfl) ?_
        obtain ⟨n_30, hn_30⟩ := cW_F (c4 := c4) (u := (sF (sF (sF (sF u 5 a2 y_11) 1 a2 y_15) 3 a2 y_19) 2 a2 y_23)) ha2
        refine va_get (D := D) (ci := 1) (v := .int (Uf (sF (sF u 5 a2 y_11) 1 a2 y_15) 1 a2)) (C := RX2) (T := TX2) (N := 7) hx hb hts (fun w h => wm (zin_X2 w h)) hown hK hP n_30 hn_30 rfl 1 (by decide) (hts _ (wm zw_77)) (fun _ h9 => h9) rfl dX3_measureStructList_126 ?_
        refine va_mmax hx hb (hml.trans hl.1.symm) hown (hts _ (wm zw_410)) (hts _ (wm zw_411)) (hts _ (wm zw_14)) (hts _ (wm zw_412)) (Nat.le_of_ble_eq_true rfl) (Nat.le_of_ble_eq_true rfl) (Nat.zero_le _) (Nat.zero_le _) dX3_measureStructList_129 ?_
        refine lv_iconst (v := (1 : Int32)) hx hb dX3_measureStructList_132 (by decide) ?_
        refine lv_iadd hx hb dX3_measureStructList_133 ?_
        refine vx_ret ?_
        exact W.iret (v := ((if a1 < (Uf (sF (sF u 5 a2 y_11) 1 a2 y_15) 1 a2) then (Uf (sF (sF u 5 a2 y_11) 1 a2 y_15) 1 a2) else a1) + (1 : Int32))) hx hb hr (fun t ht hW => ⟨⟨((if a1 < (Uf (sF (sF u 5 a2 y_11) 1 a2 y_15) 1 a2) then (Uf (sF (sF u 5 a2 y_11) 1 a2 y_15) 1 a2) else a1) + (1 : Int32)), (sF (sF (sF (sF u 5 a2 y_11) 1 a2 y_15) 3 a2 y_19) 2 a2 y_23), rfl, (Option.some.inj h).symm, wPre_go hP hD hK hA hS ht hW.alike⟩, hS.F ht⟩) hS.2.2 dX3_measureStructList_134
      · skip
        have c_29 := mt (lg_cmp_le _ _).mpr c_29
        rw [if_neg c_29] at h
        obtain ⟨sa, hsa⟩ := hE.2.2.2.2.1 ("PointedWords$Message", 178, "elements that need more words") (by decide)
        exact vx_throwS (A := A) (own := RX3) (cls := "java/lang/IllegalArgumentException") (names := ["java/lang/RuntimeException", "java/lang/Exception"]) hx hb hl0 hown (by decide +kernel) (by decide +kernel) (hts _ (wm zw_360)) (hts _ (wm zw_13)) hsa (zat_X3_81 (fun w h => hts w (wm h)) hE.2.2.2.2.2) zgd_X3_81 hE.1 hE.2.1 hS (hl.1.trans hml.symm) dX3_measureStructList_114 dX3_measureStructList_117 dX3_measureStructList_118 dX3_measureStructList_120 dX3_measureStructList_123 (fun x9 hx9 => (htb x9 hx9).elim) (Nat.le_of_ble_eq_true rfl) (Nat.le_of_ble_eq_true rfl) (Nat.le_of_ble_eq_true rfl) (Nat.le_of_ble_eq_true rfl) hlocks (fun t hal hz hk => ⟨(3, (sF (sF (sF (sF u 5 a2 y_11) 1 a2 y_15) 3 a2 y_19) 2 a2 y_23)), (Option.some.inj h).symm, ⟨rfl, wPre_up hP hD hK hA hS hz hk hal⟩, va_S_up hS hz hk⟩) hS.2.2 (Nat.le_of_ble_eq_true rfl) (Nat.le_of_ble_eq_true rfl)
    · skip
      rw [if_neg c_9] at h
      obtain ⟨sa, hsa⟩ := hE.2.2.2.2.1 ("PointedWords$Message", 173, "a tag that is none") (by decide)
      exact vx_throwS (A := A) (own := RX3) (cls := "java/lang/IllegalArgumentException") (names := ["java/lang/RuntimeException", "java/lang/Exception"]) hx hb hl0 hown (by decide +kernel) (by decide +kernel) (hts _ (wm zw_360)) (hts _ (wm zw_13)) hsa (zat_X3_81 (fun w h => hts w (wm h)) hE.2.2.2.2.2) zgd_X3_81 hE.1 hE.2.1 hS (hl.1.trans hml.symm) dX3_measureStructList_48 dX3_measureStructList_51 dX3_measureStructList_52 dX3_measureStructList_54 dX3_measureStructList_57 (fun x9 hx9 => (htb x9 hx9).elim) (Nat.le_of_ble_eq_true rfl) (Nat.le_of_ble_eq_true rfl) (Nat.le_of_ble_eq_true rfl) (Nat.le_of_ble_eq_true rfl) hlocks (fun t hal hz hk => ⟨(3, u), (Option.some.inj h).symm, ⟨rfl, wPre_up hP hD hK hA hS hz hk hal⟩, va_S_up hS hz hk⟩) hS.2.2 (Nat.le_of_ble_eq_true rfl) (Nat.le_of_ble_eq_true rfl)
  · skip
    rw [if_pos c_4] at h
    obtain ⟨sa, hsa⟩ := hE.2.2.2.2.1 ("PointedWords$Message", 171, "a list that is not within its segment") (by decide)
    exact vx_throwS (A := A) (own := RX3) (cls := "java/lang/IndexOutOfBoundsException") (names := ["java/lang/RuntimeException", "java/lang/Exception"]) hx hb hl0 hown (by decide +kernel) (by decide +kernel) (hts _ (wm zw_259)) (hts _ (wm zw_10)) hsa (zat_X3_61 (fun w h => hts w (wm h)) hE.2.2.2.2.2) zgd_X3_61 hE.1 hE.2.1 hS (hl.1.trans hml.symm) dX3_measureStructList_18 dX3_measureStructList_21 dX3_measureStructList_22 dX3_measureStructList_24 dX3_measureStructList_27 (fun x9 hx9 => (htb x9 hx9).elim) (Nat.le_of_ble_eq_true rfl) (Nat.le_of_ble_eq_true rfl) (Nat.le_of_ble_eq_true rfl) (Nat.le_of_ble_eq_true rfl) hlocks (fun t hal hz hk => ⟨(1, u), (Option.some.inj h).symm, ⟨rfl, wPre_up hP hD hK hA hS hz hk hal⟩, va_S_up hS hz hk⟩) hS.2.2 (Nat.le_of_ble_eq_true rfl) (Nat.le_of_ble_eq_true rfl)
def pX3_measure (Z : CZ) (u : CS) (a1 : Int64) (a2 : Nat) : Option (CS × (Nat ⊕ Int32)) := (if (pX0_type a1) = 0 then ((pX3_measureStruct Z u a1 a2).bind fun x_13 => match x_13.2 with | .inl j => some (x_13.1, .inl j) | .inr r_13 => some ((x_13.1), .inr r_13)) else ((some ((1 : Int32) + (pX0_listKind a1))).bind fun y_4 => (if (Uf (sF u 0 a2 y_4) 0 a2) = (8 : Int32) then ((pX3_measureStructList Z (sF u 0 a2 y_4) (pX0_listNumber a1) a2).bind fun x_12 => match x_12.2 with | .inl j => some (x_12.1, .inl j) | .inr r_12 => some ((x_12.1), .inr r_12)) else ((pX3_measurePlainList Z (sF u 0 a2 y_4) (pX0_listNumber a1) a2).bind fun x_10 => match x_10.2 with | .inl j => some (x_10.1, .inl j) | .inr r_10 => some ((x_10.1), .inr r_10)))))
set_option maxHeartbeats 4000000 in
set_option maxRecDepth 100000 in
theorem ct_X3_measure (l : Launch) (hl0 : l.stackTraces = false) (D : va_G) (c4 : Nat → ClassId) (A : Nat → Prop) (Z : CZ) (hZ : cok Z) (u : CS) (a1 : Int64) (a2 : Nat) (ha2 : isF Z a2) (res : CS × (Nat ⊕ Int32)) (h : pX3_measure Z u a1 a2 = some res) : vx_Met l yX3_measure (wz yX3_measure cX3_measure 4 (some .int)) ({ frames := 7, cells := 1, slots := 6, locals := 114 } : Room) (va_Pc [.ref (Zz Z 1), .long a1, .ref a2] (fun U => cPre D c4 A Z u U)) (va_Qi (fun q w => res = (w, .inr q)) (fun w t => wPre D c4 A (cW c4 Z w) t) A) (vx_X (fun kw : Nat × CS => res = (kw.2, .inl kw.1)) (fun E kw t => E = zEx kw.1 ∧ wPre D c4 A (cW c4 Z kw.2) t) A) 1 6 A := by
  refine vx_ofW (cc := cX3_measure) (maxL := 4) (ret := (some .int)) (by decide) rfl ?_
  intro p e s m args below meth c s₁ B hml htb hv
  obtain ⟨rfl, ⟨hP, hD, hK, hA⟩, hE⟩ := hv
  have hx := B.exec
  have hb := B.bytes
  have hr := B.returns
  have hts := atoms_spec (ws := (wz yX3_measure cX3_measure 4 (some .int))) B.pre
  have hown : s.vm.findClass RX3 = some m.cls := findClass_of_methodNamed B.named
  have hlocks := B.notSynchronized
  have hS : va_S A s.heap s.heap [] := va_S.rf
  have hl := lv_entry ([.ref (Zz Z 1), .long a1, .ref a2]) (n := 4) (Nat.le_of_ble_eq_true rfl)
  rw [lg_entry_eq]
  generalize (lg_sl ([.ref (Zz Z 1), .long a1, .ref a2]) ++ List.replicate (4 - (lg_sl ([.ref (Zz Z 1), .long a1, .ref a2])).length) Slot.unset).toArray = ls at hl ⊢
  have hl : lv_has ls 4 [(0, .ref (Zz Z 1)), (1, .long a1), (3, .ref a2)] := hl
  unfold pX3_measure at h
  refine lv_lload_n hx hb dX3_measure_0 rfl (lv_at hl 1 rfl) ?_
  refine vp_callSi (W.runS (As := [.long a1]) (rest := []) ⟨hx, hb, hml, hown, hts⟩ (ct_X0_type l a1 _ rfl) (va_cwS 1 hts (wz_S zw_350 zw_351 zw_12 zw_352) rfl rfl rfl (by decide +kernel) ⟨Nat.le_of_ble_eq_true rfl, Nat.le_of_ble_eq_true rfl⟩) ⟨fbN, fun U9 hU hW => ⟨rfl, trivial⟩⟩ rfl rfl hl.1 rfl (lv_room (Nat.le_of_ble_eq_true rfl)) dX3_measure_1 ⟨Nat.le_of_ble_eq_true rfl, Nat.le_of_ble_eq_true rfl⟩) (fun r_1 e_1 => ?_)
  subst e_1
  refine lv_if_ne (tgt := 14) hx hb dX3_measure_4 (by decide) (fun c_2 => ?_) (fun c_2 => ?_)
  · skip
    rw [if_neg c_2] at h
    refine lv_aload_n hx hb dX3_measure_14 rfl (lv_at hl 2 rfl) ?_
    refine lv_iconst (v := (1 : Int32)) hx hb dX3_measure_15 (by decide) ?_
    refine lv_lload_n hx hb dX3_measure_16 rfl (lv_at hl 1 rfl) ?_
    refine vp_callSi (W.runS (As := [.long a1]) (rest := [.int (1 : Int32), .ref a2]) ⟨hx, hb, hml, hown, hts⟩ (ct_X0_listKind l a1 _ rfl) (va_cwS 1 hts (wz_S zw_413 zw_414 zw_12 zw_415) rfl rfl rfl (by decide +kernel) ⟨Nat.le_of_ble_eq_true rfl, Nat.le_of_ble_eq_true rfl⟩) ⟨fbN, fun U9 hU hW => ⟨rfl, trivial⟩⟩ rfl rfl hl.1 rfl (lv_room (Nat.le_of_ble_eq_true rfl)) dX3_measure_17 ⟨Nat.le_of_ble_eq_true rfl, Nat.le_of_ble_eq_true rfl⟩) (fun r_3 e_3 => ?_)
    subst e_3
    refine lv_iadd hx hb dX3_measure_20 ?_
    obtain ⟨y_4, e_4, h⟩ := zb_bind h
    try dsimp only at h
    refine zt_i (Option.some.inj e_4) ?_
    obtain ⟨n_5, hn_5⟩ := cW_F (c4 := c4) (u := u) ha2
    refine va_put (D := D) (ci := 1) (v := .int y_4) (ty := .int) (C := RX2) (T := TX2) (N := 7) hx hb hts (fun w h => wm (zin_X2 w h)) tyX2 tyX2_ok nmX2 hown hK hP hD hS n_5 hn_5 rfl 0 (by decide) (hts _ (wm zw_72)) (fun _ h9 => h9) rfl (by decide +kernel) rfl rfl (Nat.le_of_ble_eq_true rfl) dX3_measure_21 (fun H locs hP hD hS => ?_)
    have hq := fun (hd : va_D A (cW c4 Z u)) => cW_setF (A := A) (k := 0) (v := y_4) hd ha2 hn_5 (by decide)
    have hD0 : va_D A (cW c4 Z u) := by assumption
    have hP : va_P D vwCl (cW c4 Z (sF u 0 a2 y_4)) H := by rw [← hq hD0]; exact hP
    have hD : va_D A (cW c4 Z (sF u 0 a2 y_4)) := by rw [← hq hD0]; exact hD
    refine lv_aload_n hx hb dX3_measure_24 rfl (lv_at hl 2 rfl) ?_
    obtain ⟨n_7, hn_7⟩ := cW_F (c4 := c4) (u := (sF u 0 a2 y_4)) ha2
    refine va_get (D := D) (ci := 1) (v := .int (Uf (sF u 0 a2 y_4) 0 a2)) (C := RX2) (T := TX2) (N := 7) hx hb hts (fun w h => wm (zin_X2 w h)) hown hK hP n_7 hn_7 rfl 0 (by decide) (hts _ (wm zw_72)) (fun _ h9 => h9) rfl dX3_measure_25 ?_
    refine lv_bipush (v := (8 : Int32)) hx hb dX3_measure_28 (by decide) ?_
    refine lv_icmp_ne (tgt := 43) hx hb dX3_measure_30 (by decide) (fun c_8 => ?_) (fun c_8 => ?_)
    · skip
      rw [if_neg c_8] at h
      refine lv_aload_n hx hb dX3_measure_43 rfl (lv_at hl 0 rfl) ?_
      refine lv_lload_n hx hb dX3_measure_44 rfl (lv_at hl 1 rfl) ?_
      refine vp_callSi (W.runS (As := [.long a1]) (rest := [.ref (Zz Z 1)]) ⟨hx, hb, hml, hown, hts⟩ (ct_X0_listNumber l a1 _ rfl) (va_cwS 1 hts (wz_S zw_416 zw_417 zw_12 zw_418) rfl rfl rfl (by decide +kernel) ⟨Nat.le_of_ble_eq_true rfl, Nat.le_of_ble_eq_true rfl⟩) ⟨fbN, fun U9 hU hW => ⟨rfl, trivial⟩⟩ rfl rfl hl.1 rfl (lv_room (Nat.le_of_ble_eq_true rfl)) dX3_measure_45 ⟨Nat.le_of_ble_eq_true rfl, Nat.le_of_ble_eq_true rfl⟩) (fun r_9 e_9 => ?_)
      subst e_9
      refine lv_aload_n hx hb dX3_measure_48 rfl (lv_at hl 2 rfl) ?_
      obtain ⟨x_10, hc_10, h⟩ := zb_bind h
      try dsimp only at h
      refine vx_calli (vx_runV (As := [.int (pX0_listNumber a1), .ref a2]) (rest := []) ⟨hx, hb, hml, hown, hts⟩ (ct_X3_measurePlainList l hl0 D c4 A Z hZ (sF u 0 a2 y_4) (pX0_listNumber a1) a2 ha2 _ hc_10) (cwV 2 hts (wz_V zw_429 zw_431 zs_6 zw_2 zw_432) rfl rfl rfl (by decide +kernel) ⟨Nat.le_of_ble_eq_true rfl, Nat.le_of_ble_eq_true rfl⟩) ⟨fbC, va_recv hK hP (ci := 2) (q0 := 1) rfl rfl, fun U9 hU hW => ⟨rfl, goC hP hD hK hA hE hS hU hW⟩⟩ rfl rfl hl.1 rfl (lv_room (Nat.le_of_ble_eq_true rfl)) dX3_measure_49 ⟨Nat.le_of_ble_eq_true rfl, Nat.le_of_ble_eq_true rfl⟩) hS (fun q _ h => h) (fun q h => h) (fun q _ h => h) (fun E9 ce9 q9 kw_10 t H1 locs ht hvm e_10 hB hz1 hk1 hS hc9 hv9 hcl9 => ?_) (fun r_10 u_10 t H1 locs ht hvm e_10 hB hz1 hk1 hS => ?_)
      · subst e_10
        try dsimp only at h
        obtain ⟨rfl, hP, hD, -, -⟩ := hB
        rw [ht] at hP
        exact vx_out (fun x9 hx9 => (htb x9 hx9).elim) hlocks hc9 hv9 hcl9 (fun t ht hal => ⟨kw_10, (Option.some.inj h).symm, ⟨rfl, wPre_go hP hD hK hA hS ht hal⟩, hS.F ht⟩) hS.2.2 (Nat.le_of_ble_eq_true rfl) (Nat.le_of_ble_eq_true rfl)
      subst e_10
      try dsimp only at h
      obtain ⟨hP, hD, -, -⟩ := hB
      rw [ht] at hP
      generalize H1 = H at hP hS ⊢
      refine vx_ret ?_
      exact W.iret (v := r_10) hx hb hr (fun t ht hW => ⟨⟨r_10, u_10, rfl, (Option.some.inj h).symm, wPre_go hP hD hK hA hS ht hW.alike⟩, hS.F ht⟩) hS.2.2 dX3_measure_52
    · skip
      rw [if_pos c_8] at h
      refine lv_aload_n hx hb dX3_measure_33 rfl (lv_at hl 0 rfl) ?_
      refine lv_lload_n hx hb dX3_measure_34 rfl (lv_at hl 1 rfl) ?_
      refine vp_callSi (W.runS (As := [.long a1]) (rest := [.ref (Zz Z 1)]) ⟨hx, hb, hml, hown, hts⟩ (ct_X0_listNumber l a1 _ rfl) (va_cwS 1 hts (wz_S zw_416 zw_417 zw_12 zw_418) rfl rfl rfl (by decide +kernel) ⟨Nat.le_of_ble_eq_true rfl, Nat.le_of_ble_eq_true rfl⟩) ⟨fbN, fun U9 hU hW => ⟨rfl, trivial⟩⟩ rfl rfl hl.1 rfl (lv_room (Nat.le_of_ble_eq_true rfl)) dX3_measure_35 ⟨Nat.le_of_ble_eq_true rfl, Nat.le_of_ble_eq_true rfl⟩) (fun r_11 e_11 => ?_)
      subst e_11
      refine lv_aload_n hx hb dX3_measure_38 rfl (lv_at hl 2 rfl) ?_
      obtain ⟨x_12, hc_12, h⟩ := zb_bind h
      try dsimp only at h
      refine vx_calli (vx_runV (As := [.int (pX0_listNumber a1), .ref a2]) (rest := []) ⟨hx, hb, hml, hown, hts⟩ (ct_X3_measureStructList l hl0 D c4 A Z hZ (sF u 0 a2 y_4) (pX0_listNumber a1) a2 ha2 _ hc_12) (cwV 2 hts (wz_V zw_419 zw_421 zs_5 zw_2 zw_422) rfl rfl rfl (by decide +kernel) ⟨Nat.le_of_ble_eq_true rfl, Nat.le_of_ble_eq_true rfl⟩) ⟨fbC, va_recv hK hP (ci := 2) (q0 := 1) rfl rfl, fun U9 hU hW => ⟨rfl, goC hP hD hK hA hE hS hU hW⟩⟩ rfl rfl hl.1 rfl (lv_room (Nat.le_of_ble_eq_true rfl)) dX3_measure_39 ⟨Nat.le_of_ble_eq_true rfl, Nat.le_of_ble_eq_true rfl⟩) hS (fun q _ h => h) (fun q h => h) (fun q _ h => h) (fun E9 ce9 q9 kw_12 t H1 locs ht hvm e_12 hB hz1 hk1 hS hc9 hv9 hcl9 => ?_) (fun r_12 u_12 t H1 locs ht hvm e_12 hB hz1 hk1 hS => ?_)
      · subst e_12
        try dsimp only at h
        obtain ⟨rfl, hP, hD, -, -⟩ := hB
        rw [ht] at hP
        exact vx_out (fun x9 hx9 => (htb x9 hx9).elim) hlocks hc9 hv9 hcl9 (fun t ht hal => ⟨kw_12, (Option.some.inj h).symm, ⟨rfl, wPre_go hP hD hK hA hS ht hal⟩, hS.F ht⟩) hS.2.2 (Nat.le_of_ble_eq_true rfl) (Nat.le_of_ble_eq_true rfl)
      subst e_12
      try dsimp only at h
      obtain ⟨hP, hD, -, -⟩ := hB
      rw [ht] at hP
      generalize H1 = H at hP hS ⊢
      refine vx_ret ?_
      exact W.iret (v := r_12) hx hb hr (fun t ht hW => ⟨⟨r_12, u_12, rfl, (Option.some.inj h).symm, wPre_go hP hD hK hA hS ht hW.alike⟩, hS.F ht⟩) hS.2.2 dX3_measure_42
  · skip
    rw [if_pos c_2] at h
    refine lv_aload_n hx hb dX3_measure_7 rfl (lv_at hl 0 rfl) ?_
    refine lv_lload_n hx hb dX3_measure_8 rfl (lv_at hl 1 rfl) ?_
    refine lv_aload_n hx hb dX3_measure_9 rfl (lv_at hl 2 rfl) ?_
    obtain ⟨x_13, hc_13, h⟩ := zb_bind h
    try dsimp only at h
    refine vx_calli (vx_runV (As := [.long a1, .ref a2]) (rest := []) ⟨hx, hb, hml, hown, hts⟩ (ct_X3_measureStruct l hl0 D c4 A Z hZ u a1 a2 ha2 _ hc_13) (cwV 2 hts (wz_V zw_398 zw_400 zs_4 zw_2 zw_401) rfl rfl rfl (by decide +kernel) ⟨Nat.le_of_ble_eq_true rfl, Nat.le_of_ble_eq_true rfl⟩) ⟨fbC, va_recv hK hP (ci := 2) (q0 := 1) rfl rfl, fun U9 hU hW => ⟨rfl, goC hP hD hK hA hE hS hU hW⟩⟩ rfl rfl hl.1 rfl (lv_room (Nat.le_of_ble_eq_true rfl)) dX3_measure_10 ⟨Nat.le_of_ble_eq_true rfl, Nat.le_of_ble_eq_true rfl⟩) hS (fun q _ h => h) (fun q h => h) (fun q _ h => h) (fun E9 ce9 q9 kw_13 t H1 locs ht hvm e_13 hB hz1 hk1 hS hc9 hv9 hcl9 => ?_) (fun r_13 u_13 t H1 locs ht hvm e_13 hB hz1 hk1 hS => ?_)
    · subst e_13
      try dsimp only at h
      obtain ⟨rfl, hP, hD, -, -⟩ := hB
      rw [ht] at hP
      exact vx_out (fun x9 hx9 => (htb x9 hx9).elim) hlocks hc9 hv9 hcl9 (fun t ht hal => ⟨kw_13, (Option.some.inj h).symm, ⟨rfl, wPre_go hP hD hK hA hS ht hal⟩, hS.F ht⟩) hS.2.2 (Nat.le_of_ble_eq_true rfl) (Nat.le_of_ble_eq_true rfl)
    subst e_13
    try dsimp only at h
    obtain ⟨hP, hD, -, -⟩ := hB
    rw [ht] at hP
    generalize H1 = H at hP hS ⊢
    refine vx_ret ?_
    exact W.iret (v := r_13) hx hb hr (fun t ht hW => ⟨⟨r_13, u_13, rfl, (Option.some.inj h).symm, wPre_go hP hD hK hA hS ht hW.alike⟩, hS.F ht⟩) hS.2.2 dX3_measure_13
def pX3_find (Z : CZ) (u : CS) (a1 : Nat) (a2 : Int32) (a3 : Int32) (a4 : Nat) : Option (CS × (Nat ⊕ Int32)) := ((pX3_locate Z u (Uf u 4 a1) a2 a4).bind fun x_2 => match x_2.2 with | .inl j => some (x_2.1, .inl j) | .inr r_2 => ((pX3_measure Z (x_2.1) r_2 a4).bind fun x_3 => match x_3.2 with | .inl j => some (x_3.1, .inl j) | .inr r_3 => ((some ((Uf (x_3.1) 6 a1) + (1 : Int32))).bind fun y_5 => ((pX3_requireLimits Z (sF (x_3.1) 6 a4 y_5) a4 r_3 a3).bind fun x_8 => match x_8.2 with | .inl j => some (x_8.1, .inl j) | .inr r_8 => some ((x_8.1), .inr r_3)))))
set_option maxHeartbeats 4000000 in
set_option maxRecDepth 100000 in
theorem ct_X3_find (l : Launch) (hl0 : l.stackTraces = false) (D : va_G) (c4 : Nat → ClassId) (A : Nat → Prop) (Z : CZ) (hZ : cok Z) (u : CS) (a1 : Nat) (ha1 : isF Z a1) (a2 : Int32) (a3 : Int32) (a4 : Nat) (ha4 : isF Z a4) (res : CS × (Nat ⊕ Int32)) (h : pX3_find Z u a1 a2 a3 a4 = some res) : vx_Met l yX3_find (wz yX3_find cX3_find 8 (some .int)) ({ frames := 8, cells := 1, slots := 6, locals := 144 } : Room) (va_Pc [.ref (Zz Z 1), .ref a1, .int a2, .int a3, .ref a4] (fun U => cPre D c4 A Z u U)) (va_Qi (fun q w => res = (w, .inr q)) (fun w t => wPre D c4 A (cW c4 Z w) t) A) (vx_X (fun kw : Nat × CS => res = (kw.2, .inl kw.1)) (fun E kw t => E = zEx kw.1 ∧ wPre D c4 A (cW c4 Z kw.2) t) A) 1 6 A := by
  refine vx_ofW (cc := cX3_find) (maxL := 8) (ret := (some .int)) (by decide) rfl ?_
  intro p e s m args below meth c s₁ B hml htb hv
  obtain ⟨rfl, ⟨hP, hD, hK, hA⟩, hE⟩ := hv
  have hx := B.exec
  have hb := B.bytes
  have hr := B.returns
  have hts := atoms_spec (ws := (wz yX3_find cX3_find 8 (some .int))) B.pre
  have hown : s.vm.findClass RX3 = some m.cls := findClass_of_methodNamed B.named
  have hlocks := B.notSynchronized
  have hS : va_S A s.heap s.heap [] := va_S.rf
  have hl := lv_entry ([.ref (Zz Z 1), .ref a1, .int a2, .int a3, .ref a4]) (n := 8) (Nat.le_of_ble_eq_true rfl)
  rw [lg_entry_eq]
  generalize (lg_sl ([.ref (Zz Z 1), .ref a1, .int a2, .int a3, .ref a4]) ++ List.replicate (8 - (lg_sl ([.ref (Zz Z 1), .ref a1, .int a2, .int a3, .ref a4])).length) Slot.unset).toArray = ls at hl ⊢
  have hl : lv_has ls 8 [(0, .ref (Zz Z 1)), (1, .ref a1), (2, .int a2), (3, .int a3), (4, .ref a4)] := hl
  unfold pX3_find at h
  refine lv_aload_n hx hb dX3_find_0 rfl (lv_at hl 0 rfl) ?_
  refine lv_aload_n hx hb dX3_find_1 rfl (lv_at hl 1 rfl) ?_
  obtain ⟨n_1, hn_1⟩ := cW_F (c4 := c4) (u := u) ha1
  refine va_get (D := D) (ci := 1) (v := .int (Uf u 4 a1)) (C := RX2) (T := TX2) (N := 7) hx hb hts (fun w h => wm (zin_X2 w h)) hown hK hP n_1 hn_1 rfl 4 (by decide) (hts _ (wm zw_88)) (fun _ h9 => h9) rfl dX3_find_2 ?_
  refine lv_iload_n hx hb dX3_find_5 rfl (lv_at hl 2 rfl) ?_
  refine lv_aload hx hb dX3_find_6 (lv_at hl 4 rfl) ?_
  obtain ⟨x_2, hc_2, h⟩ := zb_bind h
  try dsimp only at h
  refine vx_calll (vx_runV (As := [.int (Uf u 4 a1), .int a2, .ref a4]) (rest := []) ⟨hx, hb, hml, hown, hts⟩ (ct_X3_locate l hl0 D c4 A Z hZ u (Uf u 4 a1) a2 a4 ha4 _ hc_2) (cwV 3 hts (wz_V zw_346 zw_348 zs_2 zw_2 zw_349) rfl rfl rfl (by decide +kernel) ⟨Nat.le_of_ble_eq_true rfl, Nat.le_of_ble_eq_true rfl⟩) ⟨fbC, va_recv hK hP (ci := 2) (q0 := 1) rfl rfl, fun U9 hU hW => ⟨rfl, goC hP hD hK hA hE hS hU hW⟩⟩ rfl rfl hl.1 rfl (lv_room (Nat.le_of_ble_eq_true rfl)) dX3_find_8 ⟨Nat.le_of_ble_eq_true rfl, Nat.le_of_ble_eq_true rfl⟩) hS (fun q _ h => h) (fun q h => h) (fun q _ h => h) (fun E9 ce9 q9 kw_2 t H1 locs ht hvm e_2 hB hz1 hk1 hS hc9 hv9 hcl9 => ?_) (fun r_2 u_2 t H1 locs ht hvm e_2 hB hz1 hk1 hS => ?_)
  · subst e_2
    try dsimp only at h
    obtain ⟨rfl, hP, hD, -, -⟩ := hB
    rw [ht] at hP
    exact vx_out (fun x9 hx9 => (htb x9 hx9).elim) hlocks hc9 hv9 hcl9 (fun t ht hal => ⟨kw_2, (Option.some.inj h).symm, ⟨rfl, wPre_go hP hD hK hA hS ht hal⟩, hS.F ht⟩) hS.2.2 (Nat.le_of_ble_eq_true rfl) (Nat.le_of_ble_eq_true rfl)
  subst e_2
  try dsimp only at h
  obtain ⟨hP, hD, -, -⟩ := hB
  rw [ht] at hP
  generalize H1 = H at hP hS ⊢
  refine lv_lstore (lv' := [(5, .long r_2), (0, .ref (Zz Z 1)), (1, .ref a1), (2, .int a2), (3, .int a3), (4, .ref a4)]) hx hb dX3_find_11 hl (by decide) rfl (fun ls hl => ?_)
  refine lv_aload_n hx hb dX3_find_13 rfl (lv_at hl 1 rfl) ?_
  refine lv_lload hx hb dX3_find_14 (lv_at hl 0 rfl) ?_
  refine lv_aload hx hb dX3_find_16 (lv_at hl 5 rfl) ?_
  obtain ⟨x_3, hc_3, h⟩ := zb_bind h
  try dsimp only at h
  refine vx_calli (vx_runV (As := [.long r_2, .ref a4]) (rest := []) ⟨hx, hb, hml, hown, hts⟩ (ct_X3_measure l hl0 D c4 A Z hZ u_2 r_2 a4 ha4 _ hc_3) (cwV 2 hts (wz_V zw_394 zw_396 zs_3 zw_2 zw_397) rfl rfl rfl (by decide +kernel) ⟨Nat.le_of_ble_eq_true rfl, Nat.le_of_ble_eq_true rfl⟩) ⟨fbC, va_recv hK hP (ci := 2) (q0 := 1) rfl rfl, fun U9 hU hW => ⟨rfl, goC hP hD hK hA hE hS hU hW⟩⟩ rfl rfl hl.1 rfl (lv_room (Nat.le_of_ble_eq_true rfl)) dX3_find_18 ⟨Nat.le_of_ble_eq_true rfl, Nat.le_of_ble_eq_true rfl⟩) hS (fun q _ h => h) (fun q h => h) (fun q _ h => h) (fun E9 ce9 q9 kw_3 t H1 locs ht hvm e_3 hB hz1 hk1 hS hc9 hv9 hcl9 => ?_) (fun r_3 u_3 t H1 locs ht hvm e_3 hB hz1 hk1 hS => ?_)
  · subst e_3
    try dsimp only at h
    obtain ⟨rfl, hP, hD, -, -⟩ := hB
    rw [ht] at hP
    exact vx_out (fun x9 hx9 => (htb x9 hx9).elim) hlocks hc9 hv9 hcl9 (fun t ht hal => ⟨kw_3, (Option.some.inj h).symm, ⟨rfl, wPre_go hP hD hK hA hS ht hal⟩, hS.F ht⟩) hS.2.2 (Nat.le_of_ble_eq_true rfl) (Nat.le_of_ble_eq_true rfl)
  subst e_3
  try dsimp only at h
  obtain ⟨hP, hD, -, -⟩ := hB
  rw [ht] at hP
  generalize H1 = H at hP hS ⊢
  refine lv_istore (lv' := [(7, .int r_3), (5, .long r_2), (0, .ref (Zz Z 1)), (1, .ref a1), (2, .int a2), (3, .int a3), (4, .ref a4)]) hx hb dX3_find_21 hl (by decide) rfl (fun ls hl => ?_)
  refine lv_aload hx hb dX3_find_23 (lv_at hl 6 rfl) ?_
  refine lv_aload_n hx hb dX3_find_25 rfl (lv_at hl 3 rfl) ?_
  obtain ⟨n_4, hn_4⟩ := cW_F (c4 := c4) (u := u_3) ha1
  refine va_get (D := D) (ci := 1) (v := .int (Uf u_3 6 a1)) (C := RX2) (T := TX2) (N := 7) hx hb hts (fun w h => wm (zin_X2 w h)) hown hK hP n_4 hn_4 rfl 6 (by decide) (hts _ (wm zw_96)) (fun _ h9 => h9) rfl dX3_find_26 ?_
  refine lv_iconst (v := (1 : Int32)) hx hb dX3_find_29 (by decide) ?_
  refine lv_iadd hx hb dX3_find_30 ?_
  obtain ⟨y_5, e_5, h⟩ := zb_bind h
  try dsimp only at h
  refine zt_i (Option.some.inj e_5) ?_
  obtain ⟨n_6, hn_6⟩ := cW_F (c4 := c4) (u := u_3) ha4
  refine va_put (D := D) (ci := 1) (v := .int y_5) (ty := .int) (C := RX2) (T := TX2) (N := 7) hx hb hts (fun w h => wm (zin_X2 w h)) tyX2 tyX2_ok nmX2 hown hK hP hD hS n_6 hn_6 rfl 6 (by decide) (hts _ (wm zw_96)) (fun _ h9 => h9) rfl (by decide +kernel) rfl rfl (Nat.le_of_ble_eq_true rfl) dX3_find_31 (fun H locs hP hD hS => ?_)
  have hq := fun (hd : va_D A (cW c4 Z u_3)) => cW_setF (A := A) (k := 6) (v := y_5) hd ha4 hn_6 (by decide)
  have hD0 : va_D A (cW c4 Z u_3) := by assumption
  have hP : va_P D vwCl (cW c4 Z (sF u_3 6 a4 y_5)) H := by rw [← hq hD0]; exact hP
  have hD : va_D A (cW c4 Z (sF u_3 6 a4 y_5)) := by rw [← hq hD0]; exact hD
  refine lv_aload hx hb dX3_find_34 (lv_at hl 6 rfl) ?_
  refine lv_iload hx hb dX3_find_36 (lv_at hl 0 rfl) ?_
  refine lv_iload_n hx hb dX3_find_38 rfl (lv_at hl 5 rfl) ?_
  obtain ⟨x_8, hc_8, h⟩ := zb_bind h
  try dsimp only at h
  refine vx_callv (vx_runS (As := [.ref a4, .int r_3, .int a3]) (rest := []) ⟨hx, hb, hml, hown, hts⟩ (ct_X3_requireLimits l hl0 D c4 A Z hZ (sF u_3 6 a4 y_5) a4 ha4 r_3 a3 _ hc_8) (va_cwS 3 hts (wz_S zw_444 zw_445 zw_2 zw_446) rfl rfl rfl (by decide +kernel) ⟨Nat.le_of_ble_eq_true rfl, Nat.le_of_ble_eq_true rfl⟩) ⟨fbC, fun U9 hU hW => ⟨rfl, goC hP hD hK hA hE hS hU hW⟩⟩ rfl rfl hl.1 rfl (lv_room (Nat.le_of_ble_eq_true rfl)) dX3_find_39 ⟨Nat.le_of_ble_eq_true rfl, Nat.le_of_ble_eq_true rfl⟩) hS (fun q _ h => h) (fun q h => h) (fun q _ h => h) (fun E9 ce9 q9 kw_8 t H1 locs ht hvm e_8 hB hz1 hk1 hS hc9 hv9 hcl9 => ?_) (fun u_8 t H1 locs ht hvm e_8 hB hz1 hk1 hS => ?_)
  · subst e_8
    try dsimp only at h
    obtain ⟨rfl, hP, hD, -, -⟩ := hB
    rw [ht] at hP
    exact vx_out (fun x9 hx9 => (htb x9 hx9).elim) hlocks hc9 hv9 hcl9 (fun t ht hal => ⟨kw_8, (Option.some.inj h).symm, ⟨rfl, wPre_go hP hD hK hA hS ht hal⟩, hS.F ht⟩) hS.2.2 (Nat.le_of_ble_eq_true rfl) (Nat.le_of_ble_eq_true rfl)
  subst e_8
  try dsimp only at h
  obtain ⟨hP, hD, -, -⟩ := hB
  rw [ht] at hP
  generalize H1 = H at hP hS ⊢
  refine lv_iload hx hb dX3_find_42 (lv_at hl 0 rfl) ?_
  refine vx_ret ?_
  exact W.iret (v := r_3) hx hb hr (fun t ht hW => ⟨⟨r_3, u_8, rfl, (Option.some.inj h).symm, wPre_go hP hD hK hA hS ht hW.alike⟩, hS.F ht⟩) hS.2.2 dX3_find_44
def pX3_findRoot (Z : CZ) (u : CS) (a1 : Int32) (a2 : Nat) : Option (CS × (Nat ⊕ Int32)) := ((pX3_hasWords Z u (0 : Int32) (0 : Int32) (1 : Int32)).bind fun r_1 => (if r_1 = 0 then some (u, .inl 1) else ((pX3_at Z u (0 : Int32) (0 : Int32)).bind fun r_3 => (if r_3 = (0 : Int64) then some (u, .inl 2) else ((pX3_locate Z u (0 : Int32) (0 : Int32) a2).bind fun x_5 => match x_5.2 with | .inl j => some (x_5.1, .inl j) | .inr r_5 => ((pX3_measure Z (x_5.1) r_5 a2).bind fun x_6 => match x_6.2 with | .inl j => some (x_6.1, .inl j) | .inr r_6 => (if (Uf (x_6.1) 0 a2) = 0 then ((pX3_requireLimits Z (sF (x_6.1) 6 a2 (1 : Int32)) a2 r_6 a1).bind fun x_11 => match x_11.2 with | .inl j => some (x_11.1, .inl j) | .inr r_11 => some ((x_11.1), .inr r_6)) else some ((x_6.1), .inl 3))))))))
set_option maxHeartbeats 4000000 in
set_option maxRecDepth 100000 in
theorem ct_X3_findRoot (l : Launch) (hl0 : l.stackTraces = false) (D : va_G) (c4 : Nat → ClassId) (A : Nat → Prop) (Z : CZ) (hZ : cok Z) (u : CS) (a1 : Int32) (a2 : Nat) (ha2 : isF Z a2) (res : CS × (Nat ⊕ Int32)) (h : pX3_findRoot Z u a1 a2 = some res) : vx_Met l yX3_findRoot (wz yX3_findRoot cX3_findRoot 6 (some .int)) ({ frames := 8, cells := 1, slots := 6, locals := 144 } : Room) (va_Pc [.ref (Zz Z 1), .int a1, .ref a2] (fun U => cPre D c4 A Z u U)) (va_Qi (fun q w => res = (w, .inr q)) (fun w t => wPre D c4 A (cW c4 Z w) t) A) (vx_X (fun kw : Nat × CS => res = (kw.2, .inl kw.1)) (fun E kw t => E = zEx kw.1 ∧ wPre D c4 A (cW c4 Z kw.2) t) A) 1 6 A := by
  refine vx_ofW (cc := cX3_findRoot) (maxL := 6) (ret := (some .int)) (by decide) rfl ?_
  intro p e s m args below meth c s₁ B hml htb hv
  obtain ⟨rfl, ⟨hP, hD, hK, hA⟩, hE⟩ := hv
  have hx := B.exec
  have hb := B.bytes
  have hr := B.returns
  have hts := atoms_spec (ws := (wz yX3_findRoot cX3_findRoot 6 (some .int))) B.pre
  have hown : s.vm.findClass RX3 = some m.cls := findClass_of_methodNamed B.named
  have hlocks := B.notSynchronized
  have hS : va_S A s.heap s.heap [] := va_S.rf
  have hl := lv_entry ([.ref (Zz Z 1), .int a1, .ref a2]) (n := 6) (Nat.le_of_ble_eq_true rfl)
  rw [lg_entry_eq]
  generalize (lg_sl ([.ref (Zz Z 1), .int a1, .ref a2]) ++ List.replicate (6 - (lg_sl ([.ref (Zz Z 1), .int a1, .ref a2])).length) Slot.unset).toArray = ls at hl ⊢
  have hl : lv_has ls 6 [(0, .ref (Zz Z 1)), (1, .int a1), (2, .ref a2)] := hl
  unfold pX3_findRoot at h
  refine lv_aload_n hx hb dX3_findRoot_0 rfl (lv_at hl 0 rfl) ?_
  refine lv_iconst (v := (0 : Int32)) hx hb dX3_findRoot_1 (by decide) ?_
  refine lv_iconst (v := (0 : Int32)) hx hb dX3_findRoot_2 (by decide) ?_
  refine lv_iconst (v := (1 : Int32)) hx hb dX3_findRoot_3 (by decide) ?_
  obtain ⟨q_1, hc_1, h⟩ := zb_bind h
  try dsimp only at h
  refine vp_callSi (W.runV (As := [.int (0 : Int32), .int (0 : Int32), .int (1 : Int32)]) (rest := []) ⟨hx, hb, hml, hown, hts⟩ (ct_X3_hasWords l D c4 A Z hZ u (0 : Int32) (0 : Int32) (1 : Int32) _ hc_1) (cwV 3 hts (wz_V zw_258 zw_181 zw_182 zw_2 zw_183) rfl rfl rfl (by decide +kernel) ⟨Nat.le_of_ble_eq_true rfl, Nat.le_of_ble_eq_true rfl⟩) ⟨fbC, va_recv hK hP (ci := 2) (q0 := 1) rfl rfl, fun U9 hU hW => ⟨rfl, goC hP hD hK hA hE hS hU hW⟩⟩ rfl rfl hl.1 rfl (lv_room (Nat.le_of_ble_eq_true rfl)) dX3_findRoot_4 ⟨Nat.le_of_ble_eq_true rfl, Nat.le_of_ble_eq_true rfl⟩) (fun r_1 e_1 => ?_)
  subst e_1
  refine lv_if_ne (tgt := 20) hx hb dX3_findRoot_7 (by decide) (fun c_2 => ?_) (fun c_2 => ?_)
  · skip
    rw [if_neg c_2] at h
    refine lv_aload_n hx hb dX3_findRoot_20 rfl (lv_at hl 0 rfl) ?_
    refine lv_iconst (v := (0 : Int32)) hx hb dX3_findRoot_21 (by decide) ?_
    refine lv_iconst (v := (0 : Int32)) hx hb dX3_findRoot_22 (by decide) ?_
    obtain ⟨q_3, hc_3, h⟩ := zb_bind h
    try dsimp only at h
    refine vp_callSl (W.runV (As := [.int (0 : Int32), .int (0 : Int32)]) (rest := []) ⟨hx, hb, hml, hown, hts⟩ (ct_X3_at l D c4 A Z hZ u (0 : Int32) (0 : Int32) _ hc_3) (cwV 2 hts (wz_V zw_329 zw_201 zw_202 zw_2 zw_203) rfl rfl rfl (by decide +kernel) ⟨Nat.le_of_ble_eq_true rfl, Nat.le_of_ble_eq_true rfl⟩) ⟨fbC, va_recv hK hP (ci := 2) (q0 := 1) rfl rfl, fun U9 hU hW => ⟨rfl, goC hP hD hK hA hE hS hU hW⟩⟩ rfl rfl hl.1 rfl (lv_room (Nat.le_of_ble_eq_true rfl)) dX3_findRoot_23 ⟨Nat.le_of_ble_eq_true rfl, Nat.le_of_ble_eq_true rfl⟩) (fun r_3 e_3 => ?_)
    subst e_3
    refine lv_lconst (v := (0 : Int64)) hx hb dX3_findRoot_26 (by decide) ?_
    refine W.lcmp hx hb dX3_findRoot_27 ?_
    refine lv_if_ne (tgt := 41) hx hb dX3_findRoot_28 (by decide) (fun c_4 => ?_) (fun c_4 => ?_)
    · skip
      have c_4 := mt (lg_cmp_eq _ _).mpr c_4
      rw [if_neg c_4] at h
      refine lv_aload_n hx hb dX3_findRoot_41 rfl (lv_at hl 0 rfl) ?_
      refine lv_iconst (v := (0 : Int32)) hx hb dX3_findRoot_42 (by decide) ?_
      refine lv_iconst (v := (0 : Int32)) hx hb dX3_findRoot_43 (by decide) ?_
      refine lv_aload_n hx hb dX3_findRoot_44 rfl (lv_at hl 2 rfl) ?_
      obtain ⟨x_5, hc_5, h⟩ := zb_bind h
      try dsimp only at h
      refine vx_calll (vx_runV (As := [.int (0 : Int32), .int (0 : Int32), .ref a2]) (rest := []) ⟨hx, hb, hml, hown, hts⟩ (ct_X3_locate l hl0 D c4 A Z hZ u (0 : Int32) (0 : Int32) a2 ha2 _ hc_5) (cwV 3 hts (wz_V zw_346 zw_348 zs_2 zw_2 zw_349) rfl rfl rfl (by decide +kernel) ⟨Nat.le_of_ble_eq_true rfl, Nat.le_of_ble_eq_true rfl⟩) ⟨fbC, va_recv hK hP (ci := 2) (q0 := 1) rfl rfl, fun U9 hU hW => ⟨rfl, goC hP hD hK hA hE hS hU hW⟩⟩ rfl rfl hl.1 rfl (lv_room (Nat.le_of_ble_eq_true rfl)) dX3_findRoot_45 ⟨Nat.le_of_ble_eq_true rfl, Nat.le_of_ble_eq_true rfl⟩) hS (fun q _ h => h) (fun q h => h) (fun q _ h => h) (fun E9 ce9 q9 kw_5 t H1 locs ht hvm e_5 hB hz1 hk1 hS hc9 hv9 hcl9 => ?_) (fun r_5 u_5 t H1 locs ht hvm e_5 hB hz1 hk1 hS => ?_)
      · subst e_5
        try dsimp only at h
        obtain ⟨rfl, hP, hD, -, -⟩ := hB
        rw [ht] at hP
        exact vx_out (fun x9 hx9 => (htb x9 hx9).elim) hlocks hc9 hv9 hcl9 (fun t ht hal => ⟨kw_5, (Option.some.inj h).symm, ⟨rfl, wPre_go hP hD hK hA hS ht hal⟩, hS.F ht⟩) hS.2.2 (Nat.le_of_ble_eq_true rfl) (Nat.le_of_ble_eq_true rfl)
      subst e_5
      try dsimp only at h
      obtain ⟨hP, hD, -, -⟩ := hB
      rw [ht] at hP
      generalize H1 = H at hP hS ⊢
      refine lv_lstore_n (lv' := [(3, .long r_5), (0, .ref (Zz Z 1)), (1, .int a1), (2, .ref a2)]) hx hb dX3_findRoot_48 rfl hl (by decide) rfl (fun ls hl => ?_)
      refine lv_aload_n hx hb dX3_findRoot_49 rfl (lv_at hl 1 rfl) ?_
      refine lv_lload_n hx hb dX3_findRoot_50 rfl (lv_at hl 0 rfl) ?_
      refine lv_aload_n hx hb dX3_findRoot_51 rfl (lv_at hl 3 rfl) ?_
      obtain ⟨x_6, hc_6, h⟩ := zb_bind h
      try dsimp only at h
      refine vx_calli (vx_runV (As := [.long r_5, .ref a2]) (rest := []) ⟨hx, hb, hml, hown, hts⟩ (ct_X3_measure l hl0 D c4 A Z hZ u_5 r_5 a2 ha2 _ hc_6) (cwV 2 hts (wz_V zw_394 zw_396 zs_3 zw_2 zw_397) rfl rfl rfl (by decide +kernel) ⟨Nat.le_of_ble_eq_true rfl, Nat.le_of_ble_eq_true rfl⟩) ⟨fbC, va_recv hK hP (ci := 2) (q0 := 1) rfl rfl, fun U9 hU hW => ⟨rfl, goC hP hD hK hA hE hS hU hW⟩⟩ rfl rfl hl.1 rfl (lv_room (Nat.le_of_ble_eq_true rfl)) dX3_findRoot_52 ⟨Nat.le_of_ble_eq_true rfl, Nat.le_of_ble_eq_true rfl⟩) hS (fun q _ h => h) (fun q h => h) (fun q _ h => h) (fun E9 ce9 q9 kw_6 t H1 locs ht hvm e_6 hB hz1 hk1 hS hc9 hv9 hcl9 => ?_) (fun r_6 u_6 t H1 locs ht hvm e_6 hB hz1 hk1 hS => ?_)
      · subst e_6
        try dsimp only at h
        obtain ⟨rfl, hP, hD, -, -⟩ := hB
        rw [ht] at hP
        exact vx_out (fun x9 hx9 => (htb x9 hx9).elim) hlocks hc9 hv9 hcl9 (fun t ht hal => ⟨kw_6, (Option.some.inj h).symm, ⟨rfl, wPre_go hP hD hK hA hS ht hal⟩, hS.F ht⟩) hS.2.2 (Nat.le_of_ble_eq_true rfl) (Nat.le_of_ble_eq_true rfl)
      subst e_6
      try dsimp only at h
      obtain ⟨hP, hD, -, -⟩ := hB
      rw [ht] at hP
      generalize H1 = H at hP hS ⊢
      refine lv_istore (lv' := [(5, .int r_6), (3, .long r_5), (0, .ref (Zz Z 1)), (1, .int a1), (2, .ref a2)]) hx hb dX3_findRoot_55 hl (by decide) rfl (fun ls hl => ?_)
      refine lv_aload_n hx hb dX3_findRoot_57 rfl (lv_at hl 4 rfl) ?_
      obtain ⟨n_7, hn_7⟩ := cW_F (c4 := c4) (u := u_6) ha2
      refine va_get (D := D) (ci := 1) (v := .int (Uf u_6 0 a2)) (C := RX2) (T := TX2) (N := 7) hx hb hts (fun w h => wm (zin_X2 w h)) hown hK hP n_7 hn_7 rfl 0 (by decide) (hts _ (wm zw_72)) (fun _ h9 => h9) rfl dX3_findRoot_58 ?_
      refine lv_if_eq (tgt := 74) hx hb dX3_findRoot_61 (by decide) (fun c_8 => ?_) (fun c_8 => ?_)
      · skip
        rw [if_pos c_8] at h
        refine lv_aload_n hx hb dX3_findRoot_74 rfl (lv_at hl 4 rfl) ?_
        refine lv_iconst (v := (1 : Int32)) hx hb dX3_findRoot_75 (by decide) ?_
        obtain ⟨n_9, hn_9⟩ := cW_F (c4 := c4) (u := u_6) ha2
        refine va_put (D := D) (ci := 1) (v := .int (1 : Int32)) (ty := .int) (C := RX2) (T := TX2) (N := 7) hx hb hts (fun w h => wm (zin_X2 w h)) tyX2 tyX2_ok nmX2 hown hK hP hD hS n_9 hn_9 rfl 6 (by decide) (hts _ (wm zw_96)) (fun _ h9 => h9) rfl (by decide +kernel) rfl rfl (Nat.le_of_ble_eq_true rfl) dX3_findRoot_76 (fun H locs hP hD hS => ?_)
        have hq := fun (hd : va_D A (cW c4 Z u_6)) => cW_setF (A := A) (k := 6) (v := (1 : Int32)) hd ha2 hn_9 (by decide)
        have hD0 : va_D A (cW c4 Z u_6) := by assumption
        have hP : va_P D vwCl (cW c4 Z (sF u_6 6 a2 (1 : Int32))) H := by rw [← hq hD0]; exact hP
        have hD : va_D A (cW c4 Z (sF u_6 6 a2 (1 : Int32))) := by rw [← hq hD0]; exact hD
        refine lv_aload_n hx hb dX3_findRoot_79 rfl (lv_at hl 4 rfl) ?_
        refine lv_iload hx hb dX3_findRoot_80 (lv_at hl 0 rfl) ?_
        refine lv_iload_n hx hb dX3_findRoot_82 rfl (lv_at hl 3 rfl) ?_
        obtain ⟨x_11, hc_11, h⟩ := zb_bind h
        try dsimp only at h
        refine vx_callv (vx_runS (As := [.ref a2, .int r_6, .int a1]) (rest := []) ⟨hx, hb, hml, hown, hts⟩ (ct_X3_requireLimits l hl0 D c4 A Z hZ (sF u_6 6 a2 (1 : Int32)) a2 ha2 r_6 a1 _ hc_11) (va_cwS 3 hts (wz_S zw_444 zw_445 zw_2 zw_446) rfl rfl rfl (by decide +kernel) ⟨Nat.le_of_ble_eq_true rfl, Nat.le_of_ble_eq_true rfl⟩) ⟨fbC, fun U9 hU hW => ⟨rfl, goC hP hD hK hA hE hS hU hW⟩⟩ rfl rfl hl.1 rfl (lv_room (Nat.le_of_ble_eq_true rfl)) dX3_findRoot_83 ⟨Nat.le_of_ble_eq_true rfl, Nat.le_of_ble_eq_true rfl⟩) hS (fun q _ h => h) (fun q h => h) (fun q _ h => h) (fun E9 ce9 q9 kw_11 t H1 locs ht hvm e_11 hB hz1 hk1 hS hc9 hv9 hcl9 => ?_) (fun u_11 t H1 locs ht hvm e_11 hB hz1 hk1 hS => ?_)
        · subst e_11
          try dsimp only at h
          obtain ⟨rfl, hP, hD, -, -⟩ := hB
          rw [ht] at hP
          exact vx_out (fun x9 hx9 => (htb x9 hx9).elim) hlocks hc9 hv9 hcl9 (fun t ht hal => ⟨kw_11, (Option.some.inj h).symm, ⟨rfl, wPre_go hP hD hK hA hS ht hal⟩, hS.F ht⟩) hS.2.2 (Nat.le_of_ble_eq_true rfl) (Nat.le_of_ble_eq_true rfl)
        subst e_11
        try dsimp only at h
        obtain ⟨hP, hD, -, -⟩ := hB
        rw [ht] at hP
        generalize H1 = H at hP hS ⊢
        refine lv_iload hx hb dX3_findRoot_86 (lv_at hl 0 rfl) ?_
        refine vx_ret ?_
        exact W.iret (v := r_6) hx hb hr (fun t ht hW => ⟨⟨r_6, u_11, rfl, (Option.some.inj h).symm, wPre_go hP hD hK hA hS ht hW.alike⟩, hS.F ht⟩) hS.2.2 dX3_findRoot_88
      · skip
        rw [if_neg c_8] at h
        obtain ⟨sa, hsa⟩ := hE.2.2.2.2.1 ("PointedWords$Message", 79, "the root is a list") (by decide)
        exact vx_throwS (A := A) (own := RX3) (cls := "java/lang/IllegalArgumentException") (names := ["java/lang/RuntimeException", "java/lang/Exception"]) hx hb hl0 hown (by decide +kernel) (by decide +kernel) (hts _ (wm zw_360)) (hts _ (wm zw_13)) hsa (zat_X3_81 (fun w h => hts w (wm h)) hE.2.2.2.2.2) zgd_X3_81 hE.1 hE.2.1 hS (hl.1.trans hml.symm) dX3_findRoot_64 dX3_findRoot_67 dX3_findRoot_68 dX3_findRoot_70 dX3_findRoot_73 (fun x9 hx9 => (htb x9 hx9).elim) (Nat.le_of_ble_eq_true rfl) (Nat.le_of_ble_eq_true rfl) (Nat.le_of_ble_eq_true rfl) (Nat.le_of_ble_eq_true rfl) hlocks (fun t hal hz hk => ⟨(3, u_6), (Option.some.inj h).symm, ⟨rfl, wPre_up hP hD hK hA hS hz hk hal⟩, va_S_up hS hz hk⟩) hS.2.2 (Nat.le_of_ble_eq_true rfl) (Nat.le_of_ble_eq_true rfl)
    · skip
      have c_4 := (lg_cmp_eq _ _).mp c_4
      rw [if_pos c_4] at h
      obtain ⟨sa, hsa⟩ := hE.2.2.2.2.1 ("PointedWords$Message", 66, "the root is null") (by decide)
      exact zx_throwS (ix := 13) (rx := prog_20_method_4_code) (by decide +kernel) (by decide +kernel) (by decide +kernel) (by decide +kernel) (A := A) (own := RX3) (cls := "java/util/NoSuchElementException") (names := ["java/lang/RuntimeException", "java/lang/Exception"]) hx hb hl0 hown (by decide +kernel) (by decide +kernel) (hts _ (wm zw_330)) (hts _ (wm zw_11)) hsa (zat_X3_68 (fun w h => hts w (wm h)) hE.2.2.2.2.2) zgd_X3_68 hE.1 hE.2.1 hS (hl.1.trans hml.symm) dX3_findRoot_31 dX3_findRoot_34 dX3_findRoot_35 dX3_findRoot_37 dX3_findRoot_40 (fun x9 hx9 => (htb x9 hx9).elim) (Nat.le_of_ble_eq_true rfl) (Nat.le_of_ble_eq_true rfl) (Nat.le_of_ble_eq_true rfl) (Nat.le_of_ble_eq_true rfl) hlocks (fun t hal hz hk => ⟨(2, u), (Option.some.inj h).symm, ⟨rfl, wPre_up hP hD hK hA hS hz hk hal⟩, va_S_up hS hz hk⟩) hS.2.2 (Nat.le_of_ble_eq_true rfl) (Nat.le_of_ble_eq_true rfl)
  · skip
    rw [if_pos c_2] at h
    obtain ⟨sa, hsa⟩ := hE.2.2.2.2.1 ("PointedWords$Message", 59, "there is no word for the root") (by decide)
    exact vx_throwS (A := A) (own := RX3) (cls := "java/lang/IndexOutOfBoundsException") (names := ["java/lang/RuntimeException", "java/lang/Exception"]) hx hb hl0 hown (by decide +kernel) (by decide +kernel) (hts _ (wm zw_259)) (hts _ (wm zw_10)) hsa (zat_X3_61 (fun w h => hts w (wm h)) hE.2.2.2.2.2) zgd_X3_61 hE.1 hE.2.1 hS (hl.1.trans hml.symm) dX3_findRoot_10 dX3_findRoot_13 dX3_findRoot_14 dX3_findRoot_16 dX3_findRoot_19 (fun x9 hx9 => (htb x9 hx9).elim) (Nat.le_of_ble_eq_true rfl) (Nat.le_of_ble_eq_true rfl) (Nat.le_of_ble_eq_true rfl) (Nat.le_of_ble_eq_true rfl) hlocks (fun t hal hz hk => ⟨(1, u), (Option.some.inj h).symm, ⟨rfl, wPre_up hP hD hK hA hS hz hk hal⟩, va_S_up hS hz hk⟩) hS.2.2 (Nat.le_of_ble_eq_true rfl) (Nat.le_of_ble_eq_true rfl)
