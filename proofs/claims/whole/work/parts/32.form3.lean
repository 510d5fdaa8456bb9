def pX1_writeStruct (R : zRT) (Z : CZ) (u : CS) (a2 : Nat) (a3 : Int32) : Option (CS × (Nat ⊕ Unit)) := ((some (pX2_firstPointer Z u a2)).bind fun y_3 => ((pX3_usedWords Z u (Uf u 4 a2) (Uf u 5 a2) (Uf u 1 a2)).bind fun r_7 => ((pX3_usedWords Z u (Uf u 4 a2) y_3 (Uf u 2 a2)).bind fun r_10 => ((pX1_grow Z u (r_7 + r_10)).bind fun x_11 => (if (r_7 + r_10) = 0 then ((pX4_put Z (x_11.1) (Zz Z 9) a3 (pX0_structPointer (-1 : Int32) r_7 r_10)).bind fun x_21 => ((pX1_copyWords Z (x_21.1) a2 (Uf (x_21.1) 5 a2) r_7 (x_11.2)).bind fun x_24 => ((pX1_writePointers R Z (x_24.1) a2 y_3 r_10 ((x_11.2) + r_7)).bind fun x_25 => match x_25.2 with | .inl j => some (x_25.1, .inl j) | .inr r_25 => some ((x_25.1), .inr ())))) else ((some (((x_11.2) - a3) - (1 : Int32))).bind fun y_13 => ((pX4_put Z (x_11.1) (Zz Z 9) a3 (pX0_structPointer y_13 r_7 r_10)).bind fun x_15 => ((pX1_copyWords Z (x_15.1) a2 (Uf (x_15.1) 5 a2) r_7 (x_11.2)).bind fun x_18 => ((pX1_writePointers R Z (x_18.1) a2 y_3 r_10 ((x_11.2) + r_7)).bind fun x_19 => match x_19.2 with | .inl j => some (x_19.1, .inl j) | .inr r_19 => some ((x_19.1), .inr ()))))))))))
set_option maxHeartbeats 4000000 in
set_option maxRecDepth 100000 in
theorem ct_X1_writeStruct (l : Launch) (hl0 : l.stackTraces = false) (D : va_G) (c4 : Nat → ClassId) (A : Nat → Prop) (Z : CZ) (hZ : cok Z) (R : zRT) (d : Nat) (hrec : zRec l D c4 A Z R d) (u : CS) (a2 : Nat) (ha2 : isF Z a2) (a3 : Int32) (res : CS × (Nat ⊕ Unit)) (h : pX1_writeStruct R Z u a2 a3 = some res) : vx_Met l yX1_writeStruct (wz yX1_writeStruct cX1_writeStruct 9 none) ({ frames := (3 * d + 42), cells := 1, slots := 6, locals := (120 * d + 2080) } : Room) (va_Pc [.ref (Zz Z 3), .ref (Zz Z 1), .ref a2, .int a3] (fun U => cPre D c4 A Z u U)) (va_Qv (fun w => res = (w, .inr ())) (fun w t => wPre D c4 A (cW c4 Z w) t) A) (vx_X (fun kw : Nat × CS => res = (kw.2, .inl kw.1)) (fun E kw t => E = zEx kw.1 ∧ wPre D c4 A (cW c4 Z kw.2) t) A) 1 6 A := by
  refine vx_ofW (cc := cX1_writeStruct) (maxL := 9) (ret := none) (by decide) rfl ?_
  intro p e s m args below meth c s₁ B hml htb hv
  obtain ⟨rfl, ⟨hP, hD, hK, hA⟩, hE⟩ := hv
  have hx := B.exec
  have hb := B.bytes
  have hr := B.returns
  have hts := atoms_spec (ws := (wz yX1_writeStruct cX1_writeStruct 9 none)) B.pre
  have hown : s.vm.findClass RX1 = some m.cls := findClass_of_methodNamed B.named
  have hlocks := B.notSynchronized
  have hS : va_S A s.heap s.heap [] := va_S.rf
  have hl := lv_entry ([.ref (Zz Z 3), .ref (Zz Z 1), .ref a2, .int a3]) (n := 9) (Nat.le_of_ble_eq_true rfl)
  rw [lg_entry_eq]
  generalize (lg_sl ([.ref (Zz Z 3), .ref (Zz Z 1), .ref a2, .int a3]) ++ List.replicate (9 - (lg_sl ([.ref (Zz Z 3), .ref (Zz Z 1), .ref a2, .int a3])).length) Slot.unset).toArray = ls at hl ⊢
  have hl : lv_has ls 9 [(0, .ref (Zz Z 3)), (1, .ref (Zz Z 1)), (2, .ref a2), (3, .int a3)] := hl
  unfold pX1_writeStruct at h
  refine lv_aload_n hx hb dX1_writeStruct_0 rfl (lv_at hl 2 rfl) ?_
  obtain ⟨n_2, hn_2⟩ := cW_F (c4 := c4) (u := u) ha2
  refine vp_callSi (W.runV (As := []) (rest := []) ⟨hx, hb, hml, hown, hts⟩ (ct_X2_firstPointer l D c4 A Z hZ u a2 ha2 _ rfl) (cwV 0 hts (wz_V zw_582 zw_510 zw_511 zw_5 zw_512) rfl rfl rfl (by decide +kernel) ⟨(show 0 + 1 ≤ (3 * d + 42) by omega), (show 8 + (1 + 11) + 0 ≤ (120 * d + 2080) by omega)⟩) ⟨fbC, va_recv hK hP (ci := 1) (q0 := n_2) rfl hn_2, fun U9 hU hW => ⟨rfl, goC hP hD hK hA hE hS hU hW⟩⟩ rfl rfl hl.1 rfl (lv_room (Nat.le_of_ble_eq_true rfl)) dX1_writeStruct_1 ⟨Nat.le_of_ble_eq_true rfl, Nat.le_of_ble_eq_true rfl⟩) (fun r_1 e_1 => ?_)
  subst e_1
  obtain ⟨y_3, e_3, h⟩ := zb_bind h
  try dsimp only at h
  refine zt_i (Option.some.inj e_3) ?_
  refine lv_istore (lv' := [(4, .int y_3), (0, .ref (Zz Z 3)), (1, .ref (Zz Z 1)), (2, .ref a2), (3, .int a3)]) hx hb dX1_writeStruct_4 hl (by decide) rfl (fun ls hl => ?_)
  refine lv_aload_n hx hb dX1_writeStruct_6 rfl (lv_at hl 2 rfl) ?_
  refine lv_aload_n hx hb dX1_writeStruct_7 rfl (lv_at hl 3 rfl) ?_
  obtain ⟨n_4, hn_4⟩ := cW_F (c4 := c4) (u := u) ha2
  refine va_get (D := D) (ci := 1) (v := .int (Uf u 4 a2)) (C := RX2) (T := TX2) (N := 7) hx hb hts (fun w h => wm (zin_X2 w h)) hown hK hP n_4 hn_4 rfl 4 (by decide) (hts _ (wm zw_86)) (fun _ h9 => h9) rfl dX1_writeStruct_8 ?_
  refine lv_aload_n hx hb dX1_writeStruct_11 rfl (lv_at hl 3 rfl) ?_
  obtain ⟨n_5, hn_5⟩ := cW_F (c4 := c4) (u := u) ha2
  refine va_get (D := D) (ci := 1) (v := .int (Uf u 5 a2)) (C := RX2) (T := TX2) (N := 7) hx hb hts (fun w h => wm (zin_X2 w h)) hown hK hP n_5 hn_5 rfl 5 (by decide) (hts _ (wm zw_91)) (fun _ h9 => h9) rfl dX1_writeStruct_12 ?_
  refine lv_aload_n hx hb dX1_writeStruct_15 rfl (lv_at hl 3 rfl) ?_
  obtain ⟨n_6, hn_6⟩ := cW_F (c4 := c4) (u := u) ha2
  refine va_get (D := D) (ci := 1) (v := .int (Uf u 1 a2)) (C := RX2) (T := TX2) (N := 7) hx hb hts (fun w h => wm (zin_X2 w h)) hown hK hP n_6 hn_6 rfl 1 (by decide) (hts _ (wm zw_75)) (fun _ h9 => h9) rfl dX1_writeStruct_16 ?_
  obtain ⟨q_7, hc_7, h⟩ := zb_bind h
  try dsimp only at h
  refine vp_callSi (W.runV (As := [.int (Uf u 4 a2), .int (Uf u 5 a2), .int (Uf u 1 a2)]) (rest := []) ⟨hx, hb, hml, hown, hts⟩ (ct_X3_usedWords l D c4 A Z hZ u (Uf u 4 a2) (Uf u 5 a2) (Uf u 1 a2) _ hc_7) (cwV 3 hts (wz_V zw_583 zw_584 zw_585 zw_2 zw_586) rfl rfl rfl (by decide +kernel) ⟨(show 1 + 1 ≤ (3 * d + 42) by omega), (show 8 + (5 + 11) + 23 ≤ (120 * d + 2080) by omega)⟩) ⟨fbC, va_recv hK hP (ci := 2) (q0 := 1) rfl rfl, fun U9 hU hW => ⟨rfl, goC hP hD hK hA hE hS hU hW⟩⟩ rfl rfl hl.1 rfl (lv_room (Nat.le_of_ble_eq_true rfl)) dX1_writeStruct_19 ⟨Nat.le_of_ble_eq_true rfl, Nat.le_of_ble_eq_true rfl⟩) (fun r_7 e_7 => ?_)
  subst e_7
  refine lv_istore (lv' := [(5, .int r_7), (4, .int y_3), (0, .ref (Zz Z 3)), (1, .ref (Zz Z 1)), (2, .ref a2), (3, .int a3)]) hx hb dX1_writeStruct_22 hl (by decide) rfl (fun ls hl => ?_)
  refine lv_aload_n hx hb dX1_writeStruct_24 rfl (lv_at hl 3 rfl) ?_
  refine lv_aload_n hx hb dX1_writeStruct_25 rfl (lv_at hl 4 rfl) ?_
  obtain ⟨n_8, hn_8⟩ := cW_F (c4 := c4) (u := u) ha2
  refine va_get (D := D) (ci := 1) (v := .int (Uf u 4 a2)) (C := RX2) (T := TX2) (N := 7) hx hb hts (fun w h => wm (zin_X2 w h)) hown hK hP n_8 hn_8 rfl 4 (by decide) (hts _ (wm zw_86)) (fun _ h9 => h9) rfl dX1_writeStruct_26 ?_
  refine lv_iload hx hb dX1_writeStruct_29 (lv_at hl 1 rfl) ?_
  refine lv_aload_n hx hb dX1_writeStruct_31 rfl (lv_at hl 4 rfl) ?_
  obtain ⟨n_9, hn_9⟩ := cW_F (c4 := c4) (u := u) ha2
  refine va_get (D := D) (ci := 1) (v := .int (Uf u 2 a2)) (C := RX2) (T := TX2) (N := 7) hx hb hts (fun w h => wm (zin_X2 w h)) hown hK hP n_9 hn_9 rfl 2 (by decide) (hts _ (wm zw_79)) (fun _ h9 => h9) rfl dX1_writeStruct_32 ?_
  obtain ⟨q_10, hc_10, h⟩ := zb_bind h
  try dsimp only at h
  refine vp_callSi (W.runV (As := [.int (Uf u 4 a2), .int y_3, .int (Uf u 2 a2)]) (rest := []) ⟨hx, hb, hml, hown, hts⟩ (ct_X3_usedWords l D c4 A Z hZ u (Uf u 4 a2) y_3 (Uf u 2 a2) _ hc_10) (cwV 3 hts (wz_V zw_583 zw_584 zw_585 zw_2 zw_586) rfl rfl rfl (by decide +kernel) ⟨(show 1 + 1 ≤ (3 * d + 42) by omega), (show 8 + (5 + 11) + 23 ≤ (120 * d + 2080) by omega)⟩) ⟨fbC, va_recv hK hP (ci := 2) (q0 := 1) rfl rfl, fun U9 hU hW => ⟨rfl, goC hP hD hK hA hE hS hU hW⟩⟩ rfl rfl hl.1 rfl (lv_room (Nat.le_of_ble_eq_true rfl)) dX1_writeStruct_35 ⟨Nat.le_of_ble_eq_true rfl, Nat.le_of_ble_eq_true rfl⟩) (fun r_10 e_10 => ?_)
  subst e_10
  refine lv_istore (lv' := [(6, .int r_10), (5, .int r_7), (4, .int y_3), (0, .ref (Zz Z 3)), (1, .ref (Zz Z 1)), (2, .ref a2), (3, .int a3)]) hx hb dX1_writeStruct_38 hl (by decide) rfl (fun ls hl => ?_)
  refine lv_aload_n hx hb dX1_writeStruct_40 rfl (lv_at hl 3 rfl) ?_
  refine lv_iload hx hb dX1_writeStruct_41 (lv_at hl 1 rfl) ?_
  refine lv_iload hx hb dX1_writeStruct_43 (lv_at hl 0 rfl) ?_
  refine lv_iadd hx hb dX1_writeStruct_45 ?_
  obtain ⟨x_11, hc_11, h⟩ := zb_bind h
  try dsimp only at h
  refine va_calli (va_runV (As := [.int (r_7 + r_10)]) (rest := []) ⟨hx, hb, hml, hown, hts⟩ (ct_X1_grow l D c4 A Z hZ u (r_7 + r_10) _ hc_11) (cwV 1 hts (wz_V zw_587 zw_589 zs_10 zw_4 zw_590) rfl rfl rfl (by decide +kernel) ⟨(show 1 + 1 ≤ (3 * d + 42) by omega), (show 8 + (4 + 11) + 22 ≤ (120 * d + 2080) by omega)⟩) ⟨fbC, va_recv hK hP (ci := 0) (q0 := 3) rfl rfl, fun U9 hU hW => ⟨rfl, goC hP hD hK hA hE hS hU hW⟩⟩ rfl rfl hl.1 rfl (lv_room (Nat.le_of_ble_eq_true rfl)) dX1_writeStruct_46 ⟨Nat.le_of_ble_eq_true rfl, Nat.le_of_ble_eq_true rfl⟩) hS (fun q _ h => h) (fun q h => h) (fun r_11 u_11 t H1 locs ht hvm e_11 hB hz1 hk1 hS => ?_)
  subst e_11
  try dsimp only at h
  obtain ⟨hP, hD, -, -⟩ := hB
  rw [ht] at hP
  generalize H1 = H at hP hS ⊢
  refine lv_istore (lv' := [(7, .int r_11), (6, .int r_10), (5, .int r_7), (4, .int y_3), (0, .ref (Zz Z 3)), (1, .ref (Zz Z 1)), (2, .ref a2), (3, .int a3)]) hx hb dX1_writeStruct_49 hl (by decide) rfl (fun ls hl => ?_)
  refine lv_iload hx hb dX1_writeStruct_51 (lv_at hl 2 rfl) ?_
  refine lv_iload hx hb dX1_writeStruct_53 (lv_at hl 1 rfl) ?_
  refine lv_iadd hx hb dX1_writeStruct_55 ?_
  refine lv_if_ne (tgt := 63) hx hb dX1_writeStruct_56 (by decide) (fun c_12 => ?_) (fun c_12 => ?_)
  · skip
    rw [if_neg c_12] at h
    refine lv_iload hx hb dX1_writeStruct_63 (lv_at hl 0 rfl) ?_
    refine lv_iload_n hx hb dX1_writeStruct_65 rfl (lv_at hl 7 rfl) ?_
    refine lv_isub hx hb dX1_writeStruct_66 ?_
    refine lv_iconst (v := (1 : Int32)) hx hb dX1_writeStruct_67 (by decide) ?_
    refine lv_isub hx hb dX1_writeStruct_68 ?_
    obtain ⟨y_13, e_13, h⟩ := zb_bind h
    try dsimp only at h
    refine zt_i (Option.some.inj e_13) ?_
    refine lv_istore (lv' := [(8, .int y_13), (7, .int r_11), (6, .int r_10), (5, .int r_7), (4, .int y_3), (0, .ref (Zz Z 3)), (1, .ref (Zz Z 1)), (2, .ref a2), (3, .int a3)]) hx hb dX1_writeStruct_69 hl (by decide) rfl (fun ls hl => ?_)
    refine lv_aload_n hx hb dX1_writeStruct_71 rfl (lv_at hl 5 rfl) ?_
    refine va_get (D := D) (ci := 0) (v := .ref (Zz Z 9)) (C := RX1) (T := TX1) (N := 3) hx hb hts (fun w h => wm (zin_X1 w h)) hown hK hP 3 rfl rfl 0 (by decide) (hts _ (wm zw_113)) (fun _ h9 => h9) rfl dX1_writeStruct_72 ?_
    refine lv_iload_n hx hb dX1_writeStruct_75 rfl (lv_at hl 8 rfl) ?_
    refine lv_iload hx hb dX1_writeStruct_76 (lv_at hl 0 rfl) ?_
    refine lv_iload hx hb dX1_writeStruct_78 (lv_at hl 3 rfl) ?_
    refine lv_iload hx hb dX1_writeStruct_80 (lv_at hl 2 rfl) ?_
    refine vp_callSl (W.runS (As := [.int y_13, .int r_7, .int r_10]) (rest := [.int a3, .ref (Zz Z 9)]) ⟨hx, hb, hml, hown, hts⟩ (ct_X0_structPointer l y_13 r_7 r_10 _ rfl) (va_cwS 3 hts (wz_S zw_591 zw_592 zw_12 zw_593) rfl rfl rfl (by decide +kernel) ⟨(show 0 + 1 ≤ (3 * d + 42) by omega), (show 8 + (3 + 11) + 0 ≤ (120 * d + 2080) by omega)⟩) ⟨fbN, fun U9 hU hW => ⟨rfl, trivial⟩⟩ rfl rfl hl.1 rfl (lv_room (Nat.le_of_ble_eq_true rfl)) dX1_writeStruct_82 ⟨Nat.le_of_ble_eq_true rfl, Nat.le_of_ble_eq_true rfl⟩) (fun r_14 e_14 => ?_)
    subst e_14
    obtain ⟨n_16, hn_16⟩ := cW_R (c4 := c4) (u := u_11) hZ.2.2.2.2.2.2
    obtain ⟨x_15, hc_15, h⟩ := zb_bind h
    try dsimp only at h
    refine va_callv (va_runV (As := [.int a3, .long (pX0_structPointer y_13 r_7 r_10)]) (rest := []) ⟨hx, hb, hml, hown, hts⟩ (ct_X4_put l D c4 A Z hZ u_11 (Zz Z 9) hZ.2.2.2.2.2.2 a3 (pX0_structPointer y_13 r_7 r_10) _ hc_15) (cwV 2 hts (wz_V zw_595 zw_185 zw_186 zw_3 zw_187) rfl rfl rfl (by decide +kernel) ⟨(show 0 + 1 ≤ (3 * d + 42) by omega), (show 8 + (4 + 11) + 0 ≤ (120 * d + 2080) by omega)⟩) ⟨fbC, va_recv hK hP (ci := 3) (q0 := n_16) rfl hn_16, fun U9 hU hW => ⟨rfl, goC hP hD hK hA hE hS hU hW⟩⟩ rfl rfl hl.1 rfl (lv_room (Nat.le_of_ble_eq_true rfl)) dX1_writeStruct_85 ⟨Nat.le_of_ble_eq_true rfl, Nat.le_of_ble_eq_true rfl⟩) hS (fun q _ h => h) (fun q h => h) (fun u_15 t H1 locs ht hvm e_15 hB hz1 hk1 hS => ?_)
    subst e_15
    try dsimp only at h
    obtain ⟨hP, hD, -, -⟩ := hB
    rw [ht] at hP
    generalize H1 = H at hP hS ⊢
    refine lv_aload_n hx hb dX1_writeStruct_88 rfl (lv_at hl 5 rfl) ?_
    refine lv_aload_n hx hb dX1_writeStruct_89 rfl (lv_at hl 6 rfl) ?_
    refine lv_aload_n hx hb dX1_writeStruct_90 rfl (lv_at hl 7 rfl) ?_
    refine lv_aload_n hx hb dX1_writeStruct_91 rfl (lv_at hl 7 rfl) ?_
    obtain ⟨n_17, hn_17⟩ := cW_F (c4 := c4) (u := u_15) ha2
    refine va_get (D := D) (ci := 1) (v := .int (Uf u_15 5 a2)) (C := RX2) (T := TX2) (N := 7) hx hb hts (fun w h => wm (zin_X2 w h)) hown hK hP n_17 hn_17 rfl 5 (by decide) (hts _ (wm zw_91)) (fun _ h9 => h9) rfl dX1_writeStruct_92 ?_
    refine lv_iload hx hb dX1_writeStruct_95 (lv_at hl 3 rfl) ?_
    refine lv_iload hx hb dX1_writeStruct_97 (lv_at hl 1 rfl) ?_
    obtain ⟨x_18, hc_18, h⟩ := zb_bind h
    try dsimp only at h
    refine va_callv (va_runV (As := [.ref (Zz Z 1), .ref a2, .int (Uf u_15 5 a2), .int r_7, .int r_11]) (rest := []) ⟨hx, hb, hml, hown, hts⟩ (ct_X1_copyWords l D c4 A Z hZ u_15 a2 ha2 (Uf u_15 5 a2) r_7 r_11 _ hc_18) (cwV 5 hts (wz_V zw_596 zw_598 zs_11 zw_4 zw_599) rfl rfl rfl (by decide +kernel) ⟨(show 1 + 1 ≤ (3 * d + 42) by omega), (show 8 + (7 + 11) + 23 ≤ (120 * d + 2080) by omega)⟩) ⟨fbC, va_recv hK hP (ci := 0) (q0 := 3) rfl rfl, fun U9 hU hW => ⟨rfl, goC hP hD hK hA hE hS hU hW⟩⟩ rfl rfl hl.1 rfl (lv_room (Nat.le_of_ble_eq_true rfl)) dX1_writeStruct_99 ⟨Nat.le_of_ble_eq_true rfl, Nat.le_of_ble_eq_true rfl⟩) hS (fun q _ h => h) (fun q h => h) (fun u_18 t H1 locs ht hvm e_18 hB hz1 hk1 hS => ?_)
    subst e_18
    try dsimp only at h
    obtain ⟨hP, hD, -, -⟩ := hB
    rw [ht] at hP
    generalize H1 = H at hP hS ⊢
    refine lv_aload_n hx hb dX1_writeStruct_102 rfl (lv_at hl 5 rfl) ?_
    refine lv_aload_n hx hb dX1_writeStruct_103 rfl (lv_at hl 6 rfl) ?_
    refine lv_aload_n hx hb dX1_writeStruct_104 rfl (lv_at hl 7 rfl) ?_
    refine lv_iload hx hb dX1_writeStruct_105 (lv_at hl 4 rfl) ?_
    refine lv_iload hx hb dX1_writeStruct_107 (lv_at hl 2 rfl) ?_
    refine lv_iload hx hb dX1_writeStruct_109 (lv_at hl 1 rfl) ?_
    refine lv_iload hx hb dX1_writeStruct_111 (lv_at hl 3 rfl) ?_
    refine lv_iadd hx hb dX1_writeStruct_113 ?_
    obtain ⟨x_19, hc_19, h⟩ := zb_bind h
    try dsimp only at h
    refine vx_callv (vx_runV (As := [.ref (Zz Z 1), .ref a2, .int y_3, .int r_10, .int (r_11 + r_7)]) (rest := []) ⟨hx, hb, hml, hown, hts⟩ (ct_X1_writePointers l hl0 D c4 A Z hZ R d hrec u_18 a2 ha2 y_3 r_10 (r_11 + r_7) _ hc_19) (cwV 5 hts (wz_V zw_601 zw_603 zs_12 zw_4 zw_604) rfl rfl rfl (by decide +kernel) ⟨(show (3 * d + 41) + 1 ≤ (3 * d + 42) by omega), (show 8 + (8 + 11) + (120 * d + 2040) ≤ (120 * d + 2080) by omega)⟩) ⟨fbC, va_recv hK hP (ci := 0) (q0 := 3) rfl rfl, fun U9 hU hW => ⟨rfl, goC hP hD hK hA hE hS hU hW⟩⟩ rfl rfl hl.1 rfl (lv_room (Nat.le_of_ble_eq_true rfl)) dX1_writeStruct_114 ⟨Nat.le_of_ble_eq_true rfl, Nat.le_of_ble_eq_true rfl⟩) hS (fun q _ h => h) (fun q h => h) (fun q _ h => h) (fun E9 ce9 q9 kw_19 t H1 locs ht hvm e_19 hB hz1 hk1 hS hc9 hv9 hcl9 => ?_) (fun u_19 t H1 locs ht hvm e_19 hB hz1 hk1 hS => ?_)
    · subst e_19
      try dsimp only at h
      obtain ⟨rfl, hP, hD, -, -⟩ := hB
      rw [ht] at hP
      exact vx_out (fun x9 hx9 => (htb x9 hx9).elim) hlocks hc9 hv9 hcl9 (fun t ht hal => ⟨kw_19, (Option.some.inj h).symm, ⟨rfl, wPre_go hP hD hK hA hS ht hal⟩, hS.F ht⟩) hS.2.2 (Nat.le_of_ble_eq_true rfl) (Nat.le_of_ble_eq_true rfl)
    subst e_19
    try dsimp only at h
    obtain ⟨hP, hD, -, -⟩ := hB
    rw [ht] at hP
    generalize H1 = H at hP hS ⊢
    refine vx_ret ?_
    exact W.vret hx hb hr (fun t ht hW => ⟨⟨u_19, rfl, (Option.some.inj h).symm, wPre_go hP hD hK hA hS ht hW.alike⟩, hS.F ht⟩) hS.2.2 dX1_writeStruct_117
  · skip
    rw [if_pos c_12] at h
    refine lv_iconst (v := (-1 : Int32)) hx hb dX1_writeStruct_59 (by decide) ?_
    refine lv_goto (tgt := 69) hx hb dX1_writeStruct_60 (by decide) ?_
    refine lv_istore (lv' := [(8, .int (-1 : Int32)), (7, .int r_11), (6, .int r_10), (5, .int r_7), (4, .int y_3), (0, .ref (Zz Z 3)), (1, .ref (Zz Z 1)), (2, .ref a2), (3, .int a3)]) hx hb dX1_writeStruct_69 hl (by decide) rfl (fun ls hl => ?_)
    refine lv_aload_n hx hb dX1_writeStruct_71 rfl (lv_at hl 5 rfl) ?_
    refine va_get (D := D) (ci := 0) (v := .ref (Zz Z 9)) (C := RX1) (T := TX1) (N := 3) hx hb hts (fun w h => wm (zin_X1 w h)) hown hK hP 3 rfl rfl 0 (by decide) (hts _ (wm zw_113)) (fun _ h9 => h9) rfl dX1_writeStruct_72 ?_
    refine lv_iload_n hx hb dX1_writeStruct_75 rfl (lv_at hl 8 rfl) ?_
    refine lv_iload hx hb dX1_writeStruct_76 (lv_at hl 0 rfl) ?_
    refine lv_iload hx hb dX1_writeStruct_78 (lv_at hl 3 rfl) ?_
    refine lv_iload hx hb dX1_writeStruct_80 (lv_at hl 2 rfl) ?_
    refine vp_callSl (W.runS (As := [.int (-1 : Int32), .int r_7, .int r_10]) (rest := [.int a3, .ref (Zz Z 9)]) ⟨hx, hb, hml, hown, hts⟩ (ct_X0_structPointer l (-1 : Int32) r_7 r_10 _ rfl) (va_cwS 3 hts (wz_S zw_591 zw_592 zw_12 zw_593) rfl rfl rfl (by decide +kernel) ⟨(show 0 + 1 ≤ (3 * d + 42) by omega), (show 8 + (3 + 11) + 0 ≤ (120 * d + 2080) by omega)⟩) ⟨fbN, fun U9 hU hW => ⟨rfl, trivial⟩⟩ rfl rfl hl.1 rfl (lv_room (Nat.le_of_ble_eq_true rfl)) dX1_writeStruct_82 ⟨Nat.le_of_ble_eq_true rfl, Nat.le_of_ble_eq_true rfl⟩) (fun r_20 e_20 => ?_)
    subst e_20
    obtain ⟨n_22, hn_22⟩ := cW_R (c4 := c4) (u := u_11) hZ.2.2.2.2.2.2
    obtain ⟨x_21, hc_21, h⟩ := zb_bind h
    try dsimp only at h
    refine va_callv (va_runV (As := [.int a3, .long (pX0_structPointer (-1 : Int32) r_7 r_10)]) (rest := []) ⟨hx, hb, hml, hown, hts⟩ (ct_X4_put l D c4 A Z hZ u_11 (Zz Z 9) hZ.2.2.2.2.2.2 a3 (pX0_structPointer (-1 : Int32) r_7 r_10) _ hc_21) (cwV 2 hts (wz_V zw_595 zw_185 zw_186 zw_3 zw_187) rfl rfl rfl (by decide +kernel) ⟨(show 0 + 1 ≤ (3 * d + 42) by omega), (show 8 + (4 + 11) + 0 ≤ (120 * d + 2080) by omega)⟩) ⟨fbC, va_recv hK hP (ci := 3) (q0 := n_22) rfl hn_22, fun U9 hU hW => ⟨rfl, goC hP hD hK hA hE hS hU hW⟩⟩ rfl rfl hl.1 rfl (lv_room (Nat.le_of_ble_eq_true rfl)) dX1_writeStruct_85 ⟨Nat.le_of_ble_eq_true rfl, Nat.le_of_ble_eq_true rfl⟩) hS (fun q _ h => h) (fun q h => h) (fun u_21 t H1 locs ht hvm e_21 hB hz1 hk1 hS => ?_)
    subst e_21
    try dsimp only at h
    obtain ⟨hP, hD, -, -⟩ := hB
    rw [ht] at hP
    generalize H1 = H at hP hS ⊢
    refine lv_aload_n hx hb dX1_writeStruct_88 rfl (lv_at hl 5 rfl) ?_
    refine lv_aload_n hx hb dX1_writeStruct_89 rfl (lv_at hl 6 rfl) ?_
    refine lv_aload_n hx hb dX1_writeStruct_90 rfl (lv_at hl 7 rfl) ?_
    refine lv_aload_n hx hb dX1_writeStruct_91 rfl (lv_at hl 7 rfl) ?_
    obtain ⟨n_23, hn_23⟩ := cW_F (c4 := c4) (u := u_21) ha2
    refine va_get (D := D) (ci := 1) (v := .int (Uf u_21 5 a2)) (C := RX2) (T := TX2) (N := 7) hx hb hts (fun w h => wm (zin_X2 w h)) hown hK hP n_23 hn_23 rfl 5 (by decide) (hts _ (wm zw_91)) (fun _ h9 => h9) rfl dX1_writeStruct_92 ?_
    refine lv_iload hx hb dX1_writeStruct_95 (lv_at hl 3 rfl) ?_
    refine lv_iload hx hb dX1_writeStruct_97 (lv_at hl 1 rfl) ?_
    obtain ⟨x_24, hc_24, h⟩ := zb_bind h
    try dsimp only at h
    refine va_callv (va_runV (As := [.ref (Zz Z 1), .ref a2, .int (Uf u_21 5 a2), .int r_7, .int r_11]) (rest := []) ⟨hx, hb, hml, hown, hts⟩ (ct_X1_copyWords l D c4 A Z hZ u_21 a2 ha2 (Uf u_21 5 a2) r_7 r_11 _ hc_24) (cwV 5 hts (wz_V zw_596 zw_598 zs_11 zw_4 zw_599) rfl rfl rfl (by decide +kernel) ⟨(show 1 + 1 ≤ (3 * d + 42) by omega), (show 8 + (7 + 11) + 23 ≤ (120 * d + 2080) by omega)⟩) ⟨fbC, va_recv hK hP (ci := 0) (q0 := 3) rfl rfl, fun U9 hU hW => ⟨rfl, goC hP hD hK hA hE hS hU hW⟩⟩ rfl rfl hl.1 rfl (lv_room (Nat.le_of_ble_eq_true rfl)) dX1_writeStruct_99 ⟨Nat.le_of_ble_eq_true rfl, Nat.le_of_ble_eq_true rfl⟩) hS (fun q _ h => h) (fun q h => h) (fun u_24 t H1 locs ht hvm e_24 hB hz1 hk1 hS => ?_)
    subst e_24
    try dsimp only at h
    obtain ⟨hP, hD, -, -⟩ := hB
    rw [ht] at hP
    generalize H1 = H at hP hS ⊢
    refine lv_aload_n hx hb dX1_writeStruct_102 rfl (lv_at hl 5 rfl) ?_
    refine lv_aload_n hx hb dX1_writeStruct_103 rfl (lv_at hl 6 rfl) ?_
    refine lv_aload_n hx hb dX1_writeStruct_104 rfl (lv_at hl 7 rfl) ?_
    refine lv_iload hx hb dX1_writeStruct_105 (lv_at hl 4 rfl) ?_
    refine lv_iload hx hb dX1_writeStruct_107 (lv_at hl 2 rfl) ?_
    refine lv_iload hx hb dX1_writeStruct_109 (lv_at hl 1 rfl) ?_
    refine lv_iload hx hb dX1_writeStruct_111 (lv_at hl 3 rfl) ?_
    refine lv_iadd hx hb dX1_writeStruct_113 ?_
    obtain ⟨x_25, hc_25, h⟩ := zb_bind h
    try dsimp only at h
    refine vx_callv (vx_runV (As := [.ref (Zz Z 1), .ref a2, .int y_3, .int r_10, .int (r_11 + r_7)]) (rest := []) ⟨hx, hb, hml, hown, hts⟩ (ct_X1_writePointers l hl0 D c4 A Z hZ R d hrec u_24 a2 ha2 y_3 r_10 (r_11 + r_7) _ hc_25) (cwV 5 hts (wz_V zw_601 zw_603 zs_12 zw_4 zw_604) rfl rfl rfl (by decide +kernel) ⟨(show (3 * d + 41) + 1 ≤ (3 * d + 42) by omega), (show 8 + (8 + 11) + (120 * d + 2040) ≤ (120 * d + 2080) by omega)⟩) ⟨fbC, va_recv hK hP (ci := 0) (q0 := 3) rfl rfl, fun U9 hU hW => ⟨rfl, goC hP hD hK hA hE hS hU hW⟩⟩ rfl rfl hl.1 rfl (lv_room (Nat.le_of_ble_eq_true rfl)) dX1_writeStruct_114 ⟨Nat.le_of_ble_eq_true rfl, Nat.le_of_ble_eq_true rfl⟩) hS (fun q _ h => h) (fun q h => h) (fun q _ h => h) (fun E9 ce9 q9 kw_25 t H1 locs ht hvm e_25 hB hz1 hk1 hS hc9 hv9 hcl9 => ?_) (fun u_25 t H1 locs ht hvm e_25 hB hz1 hk1 hS => ?_)
    · subst e_25
      try dsimp only at h
      obtain ⟨rfl, hP, hD, -, -⟩ := hB
      rw [ht] at hP
      exact vx_out (fun x9 hx9 => (htb x9 hx9).elim) hlocks hc9 hv9 hcl9 (fun t ht hal => ⟨kw_25, (Option.some.inj h).symm, ⟨rfl, wPre_go hP hD hK hA hS ht hal⟩, hS.F ht⟩) hS.2.2 (Nat.le_of_ble_eq_true rfl) (Nat.le_of_ble_eq_true rfl)
    subst e_25
    try dsimp only at h
    obtain ⟨hP, hD, -, -⟩ := hB
    rw [ht] at hP
    generalize H1 = H at hP hS ⊢
    refine vx_ret ?_
    exact W.vret hx hb hr (fun t ht hW => ⟨⟨u_25, rfl, (Option.some.inj h).symm, wPre_go hP hD hK hA hS ht hW.alike⟩, hS.F ht⟩) hS.2.2 dX1_writeStruct_117
def pX1_writePointerList (R : zRT) (Z : CZ) (u : CS) (a2 : Nat) (a3 : Int32) : Option (CS × (Nat ⊕ Unit)) := ((pX1_grow Z u (Uf u 1 a2)).bind fun x_2 => ((pX4_put Z (x_2.1) (Zz Z 9) a3 (pX0_listPointer (((x_2.2) - a3) - (1 : Int32)) (6 : Int32) (Uf (x_2.1) 1 a2))).bind fun x_5 => ((pX1_writePointers R Z (x_5.1) a2 (Uf (x_5.1) 5 a2) (Uf (x_5.1) 1 a2) (x_2.2)).bind fun x_9 => match x_9.2 with | .inl j => some (x_9.1, .inl j) | .inr r_9 => some ((x_9.1), .inr ()))))
set_option maxHeartbeats 4000000 in
set_option maxRecDepth 100000 in
theorem ct_X1_writePointerList (l : Launch) (hl0 : l.stackTraces = false) (D : va_G) (c4 : Nat → ClassId) (A : Nat → Prop) (Z : CZ) (hZ : cok Z) (R : zRT) (d : Nat) (hrec : zRec l D c4 A Z R d) (u : CS) (a2 : Nat) (ha2 : isF Z a2) (a3 : Int32) (res : CS × (Nat ⊕ Unit)) (h : pX1_writePointerList R Z u a2 a3 = some res) : vx_Met l yX1_writePointerList (wz yX1_writePointerList cX1_writePointerList 6 none) ({ frames := (3 * d + 42), cells := 1, slots := 6, locals := (120 * d + 2080) } : Room) (va_Pc [.ref (Zz Z 3), .ref (Zz Z 1), .ref a2, .int a3] (fun U => cPre D c4 A Z u U)) (va_Qv (fun w => res = (w, .inr ())) (fun w t => wPre D c4 A (cW c4 Z w) t) A) (vx_X (fun kw : Nat × CS => res = (kw.2, .inl kw.1)) (fun E kw t => E = zEx kw.1 ∧ wPre D c4 A (cW c4 Z kw.2) t) A) 1 6 A := by
  refine vx_ofW (cc := cX1_writePointerList) (maxL := 6) (ret := none) (by decide) rfl ?_
  intro p e s m args below meth c s₁ B hml htb hv
  obtain ⟨rfl, ⟨hP, hD, hK, hA⟩, hE⟩ := hv
  have hx := B.exec
  have hb := B.bytes
  have hr := B.returns
  have hts := atoms_spec (ws := (wz yX1_writePointerList cX1_writePointerList 6 none)) B.pre
  have hown : s.vm.findClass RX1 = some m.cls := findClass_of_methodNamed B.named
  have hlocks := B.notSynchronized
  have hS : va_S A s.heap s.heap [] := va_S.rf
  have hl := lv_entry ([.ref (Zz Z 3), .ref (Zz Z 1), .ref a2, .int a3]) (n := 6) (Nat.le_of_ble_eq_true rfl)
  rw [lg_entry_eq]
  generalize (lg_sl ([.ref (Zz Z 3), .ref (Zz Z 1), .ref a2, .int a3]) ++ List.replicate (6 - (lg_sl ([.ref (Zz Z 3), .ref (Zz Z 1), .ref a2, .int a3])).length) Slot.unset).toArray = ls at hl ⊢
  have hl : lv_has ls 6 [(0, .ref (Zz Z 3)), (1, .ref (Zz Z 1)), (2, .ref a2), (3, .int a3)] := hl
  unfold pX1_writePointerList at h
  refine lv_aload_n hx hb dX1_writePointerList_0 rfl (lv_at hl 0 rfl) ?_
  refine lv_aload_n hx hb dX1_writePointerList_1 rfl (lv_at hl 2 rfl) ?_
  obtain ⟨n_1, hn_1⟩ := cW_F (c4 := c4) (u := u) ha2
  refine va_get (D := D) (ci := 1) (v := .int (Uf u 1 a2)) (C := RX2) (T := TX2) (N := 7) hx hb hts (fun w h => wm (zin_X2 w h)) hown hK hP n_1 hn_1 rfl 1 (by decide) (hts _ (wm zw_75)) (fun _ h9 => h9) rfl dX1_writePointerList_2 ?_
  obtain ⟨x_2, hc_2, h⟩ := zb_bind h
  try dsimp only at h
  refine va_calli (va_runV (As := [.int (Uf u 1 a2)]) (rest := []) ⟨hx, hb, hml, hown, hts⟩ (ct_X1_grow l D c4 A Z hZ u (Uf u 1 a2) _ hc_2) (cwV 1 hts (wz_V zw_587 zw_589 zs_10 zw_4 zw_590) rfl rfl rfl (by decide +kernel) ⟨(show 1 + 1 ≤ (3 * d + 42) by omega), (show 8 + (4 + 11) + 22 ≤ (120 * d + 2080) by omega)⟩) ⟨fbC, va_recv hK hP (ci := 0) (q0 := 3) rfl rfl, fun U9 hU hW => ⟨rfl, goC hP hD hK hA hE hS hU hW⟩⟩ rfl rfl hl.1 rfl (lv_room (Nat.le_of_ble_eq_true rfl)) dX1_writePointerList_5 ⟨Nat.le_of_ble_eq_true rfl, Nat.le_of_ble_eq_true rfl⟩) hS (fun q _ h => h) (fun q h => h) (fun r_2 u_2 t H1 locs ht hvm e_2 hB hz1 hk1 hS => ?_)
  subst e_2
  try dsimp only at h
  obtain ⟨hP, hD, -, -⟩ := hB
  rw [ht] at hP
  generalize H1 = H at hP hS ⊢
  refine lv_istore (lv' := [(4, .int r_2), (0, .ref (Zz Z 3)), (1, .ref (Zz Z 1)), (2, .ref a2), (3, .int a3)]) hx hb dX1_writePointerList_8 hl (by decide) rfl (fun ls hl => ?_)
  refine lv_bipush (v := (6 : Int32)) hx hb dX1_writePointerList_10 (by decide) ?_
  refine lv_istore (lv' := [(5, .int (6 : Int32)), (4, .int r_2), (0, .ref (Zz Z 3)), (1, .ref (Zz Z 1)), (2, .ref a2), (3, .int a3)]) hx hb dX1_writePointerList_12 hl (by decide) rfl (fun ls hl => ?_)
  refine lv_aload_n hx hb dX1_writePointerList_14 rfl (lv_at hl 2 rfl) ?_
  refine va_get (D := D) (ci := 0) (v := .ref (Zz Z 9)) (C := RX1) (T := TX1) (N := 3) hx hb hts (fun w h => wm (zin_X1 w h)) hown hK hP 3 rfl rfl 0 (by decide) (hts _ (wm zw_113)) (fun _ h9 => h9) rfl dX1_writePointerList_15 ?_
  refine lv_iload_n hx hb dX1_writePointerList_18 rfl (lv_at hl 5 rfl) ?_
  refine lv_iload hx hb dX1_writePointerList_19 (lv_at hl 1 rfl) ?_
  refine lv_iload_n hx hb dX1_writePointerList_21 rfl (lv_at hl 5 rfl) ?_
  refine lv_isub hx hb dX1_writePointerList_22 ?_
  refine lv_iconst (v := (1 : Int32)) hx hb dX1_writePointerList_23 (by decide) ?_
  refine lv_isub hx hb dX1_writePointerList_24 ?_
  refine lv_iload hx hb dX1_writePointerList_25 (lv_at hl 0 rfl) ?_
  refine lv_aload_n hx hb dX1_writePointerList_27 rfl (lv_at hl 4 rfl) ?_
  obtain ⟨n_3, hn_3⟩ := cW_F (c4 := c4) (u := u_2) ha2
  refine va_get (D := D) (ci := 1) (v := .int (Uf u_2 1 a2)) (C := RX2) (T := TX2) (N := 7) hx hb hts (fun w h => wm (zin_X2 w h)) hown hK hP n_3 hn_3 rfl 1 (by decide) (hts _ (wm zw_75)) (fun _ h9 => h9) rfl dX1_writePointerList_28 ?_
  refine vp_callSl (W.runS (As := [.int ((r_2 - a3) - (1 : Int32)), .int (6 : Int32), .int (Uf u_2 1 a2)]) (rest := [.int a3, .ref (Zz Z 9)]) ⟨hx, hb, hml, hown, hts⟩ (ct_X0_listPointer l ((r_2 - a3) - (1 : Int32)) (6 : Int32) (Uf u_2 1 a2) _ rfl) (va_cwS 3 hts (wz_S zw_614 zw_615 zw_12 zw_616) rfl rfl rfl (by decide +kernel) ⟨(show 0 + 1 ≤ (3 * d + 42) by omega), (show 8 + (3 + 11) + 0 ≤ (120 * d + 2080) by omega)⟩) ⟨fbN, fun U9 hU hW => ⟨rfl, trivial⟩⟩ rfl rfl hl.1 rfl (lv_room (Nat.le_of_ble_eq_true rfl)) dX1_writePointerList_31 ⟨Nat.le_of_ble_eq_true rfl, Nat.le_of_ble_eq_true rfl⟩) (fun r_4 e_4 => ?_)
  subst e_4
  obtain ⟨n_6, hn_6⟩ := cW_R (c4 := c4) (u := u_2) hZ.2.2.2.2.2.2
  obtain ⟨x_5, hc_5, h⟩ := zb_bind h
  try dsimp only at h
  refine va_callv (va_runV (As := [.int a3, .long (pX0_listPointer ((r_2 - a3) - (1 : Int32)) (6 : Int32) (Uf u_2 1 a2))]) (rest := []) ⟨hx, hb, hml, hown, hts⟩ (ct_X4_put l D c4 A Z hZ u_2 (Zz Z 9) hZ.2.2.2.2.2.2 a3 (pX0_listPointer ((r_2 - a3) - (1 : Int32)) (6 : Int32) (Uf u_2 1 a2)) _ hc_5) (cwV 2 hts (wz_V zw_595 zw_185 zw_186 zw_3 zw_187) rfl rfl rfl (by decide +kernel) ⟨(show 0 + 1 ≤ (3 * d + 42) by omega), (show 8 + (4 + 11) + 0 ≤ (120 * d + 2080) by omega)⟩) ⟨fbC, va_recv hK hP (ci := 3) (q0 := n_6) rfl hn_6, fun U9 hU hW => ⟨rfl, goC hP hD hK hA hE hS hU hW⟩⟩ rfl rfl hl.1 rfl (lv_room (Nat.le_of_ble_eq_true rfl)) dX1_writePointerList_34 ⟨Nat.le_of_ble_eq_true rfl, Nat.le_of_ble_eq_true rfl⟩) hS (fun q _ h => h) (fun q h => h) (fun u_5 t H1 locs ht hvm e_5 hB hz1 hk1 hS => ?_)
  subst e_5
  try dsimp only at h
  obtain ⟨hP, hD, -, -⟩ := hB
  rw [ht] at hP
  generalize H1 = H at hP hS ⊢
  refine lv_aload_n hx hb dX1_writePointerList_37 rfl (lv_at hl 2 rfl) ?_
  refine lv_aload_n hx hb dX1_writePointerList_38 rfl (lv_at hl 3 rfl) ?_
  refine lv_aload_n hx hb dX1_writePointerList_39 rfl (lv_at hl 4 rfl) ?_
  refine lv_aload_n hx hb dX1_writePointerList_40 rfl (lv_at hl 4 rfl) ?_
  obtain ⟨n_7, hn_7⟩ := cW_F (c4 := c4) (u := u_5) ha2
  refine va_get (D := D) (ci := 1) (v := .int (Uf u_5 5 a2)) (C := RX2) (T := TX2) (N := 7) hx hb hts (fun w h => wm (zin_X2 w h)) hown hK hP n_7 hn_7 rfl 5 (by decide) (hts _ (wm zw_91)) (fun _ h9 => h9) rfl dX1_writePointerList_41 ?_
  refine lv_aload_n hx hb dX1_writePointerList_44 rfl (lv_at hl 4 rfl) ?_
  obtain ⟨n_8, hn_8⟩ := cW_F (c4 := c4) (u := u_5) ha2
  refine va_get (D := D) (ci := 1) (v := .int (Uf u_5 1 a2)) (C := RX2) (T := TX2) (N := 7) hx hb hts (fun w h => wm (zin_X2 w h)) hown hK hP n_8 hn_8 rfl 1 (by decide) (hts _ (wm zw_75)) (fun _ h9 => h9) rfl dX1_writePointerList_45 ?_
  refine lv_iload hx hb dX1_writePointerList_48 (lv_at hl 1 rfl) ?_
  obtain ⟨x_9, hc_9, h⟩ := zb_bind h
  try dsimp only at h
  refine vx_callv (vx_runV (As := [.ref (Zz Z 1), .ref a2, .int (Uf u_5 5 a2), .int (Uf u_5 1 a2), .int r_2]) (rest := []) ⟨hx, hb, hml, hown, hts⟩ (ct_X1_writePointers l hl0 D c4 A Z hZ R d hrec u_5 a2 ha2 (Uf u_5 5 a2) (Uf u_5 1 a2) r_2 _ hc_9) (cwV 5 hts (wz_V zw_601 zw_603 zs_12 zw_4 zw_604) rfl rfl rfl (by decide +kernel) ⟨(show (3 * d + 41) + 1 ≤ (3 * d + 42) by omega), (show 8 + (8 + 11) + (120 * d + 2040) ≤ (120 * d + 2080) by omega)⟩) ⟨fbC, va_recv hK hP (ci := 0) (q0 := 3) rfl rfl, fun U9 hU hW => ⟨rfl, goC hP hD hK hA hE hS hU hW⟩⟩ rfl rfl hl.1 rfl (lv_room (Nat.le_of_ble_eq_true rfl)) dX1_writePointerList_50 ⟨Nat.le_of_ble_eq_true rfl, Nat.le_of_ble_eq_true rfl⟩) hS (fun q _ h => h) (fun q h => h) (fun q _ h => h) (fun E9 ce9 q9 kw_9 t H1 locs ht hvm e_9 hB hz1 hk1 hS hc9 hv9 hcl9 => ?_) (fun u_9 t H1 locs ht hvm e_9 hB hz1 hk1 hS => ?_)
  · subst e_9
    try dsimp only at h
    obtain ⟨rfl, hP, hD, -, -⟩ := hB
    rw [ht] at hP
    exact vx_out (fun x9 hx9 => (htb x9 hx9).elim) hlocks hc9 hv9 hcl9 (fun t ht hal => ⟨kw_9, (Option.some.inj h).symm, ⟨rfl, wPre_go hP hD hK hA hS ht hal⟩, hS.F ht⟩) hS.2.2 (Nat.le_of_ble_eq_true rfl) (Nat.le_of_ble_eq_true rfl)
  subst e_9
  try dsimp only at h
  obtain ⟨hP, hD, -, -⟩ := hB
  rw [ht] at hP
  generalize H1 = H at hP hS ⊢
  refine vx_ret ?_
  exact W.vret hx hb hr (fun t ht hW => ⟨⟨u_9, rfl, (Option.some.inj h).symm, wPre_go hP hD hK hA hS ht hW.alike⟩, hS.F ht⟩) hS.2.2 dX1_writePointerList_53
def pX1_writeStructList_153 (R : zRT) (Z : CZ) (a2 : Nat) : Nat → CS → Int32 → Int32 → Int32 → Int32 → Option (CS × (Nat ⊕ Unit))
  | 0, _, _, _, _, _ => none
  | n + 1, u, x0, x1, x2, x3 => (if (Uf u 1 a2) ≤ x3 then some (u, .inr ()) else ((some (pX2_elementBegin Z u a2 x3)).bind fun y_5 => ((some ((x2 + (1 : Int32)) + (x3 * (x0 + x1)))).bind fun y_6 => ((pX1_copyWords Z u a2 y_5 x0 y_6).bind fun x_7 => ((pX1_writePointers R Z (x_7.1) a2 (y_5 + (Uf (x_7.1) 3 a2)) x1 (y_6 + x0)).bind fun x_9 => match x_9.2 with | .inl j => some (x_9.1, .inl j) | .inr r_9 => pX1_writeStructList_153 R Z a2 n (x_9.1) x0 x1 x2 (x3 + (1 : Int32)))))))
theorem pX1_writeStructList_153_s (R : zRT) (Z : CZ) (a2 : Nat) (n : Nat) (u : CS) (x0 : Int32) (x1 : Int32) (x2 : Int32) (x3 : Int32) : pX1_writeStructList_153 R Z a2 (n + 1) u x0 x1 x2 x3 = (if (Uf u 1 a2) ≤ x3 then some (u, .inr ()) else ((some (pX2_elementBegin Z u a2 x3)).bind fun y_5 => ((some ((x2 + (1 : Int32)) + (x3 * (x0 + x1)))).bind fun y_6 => ((pX1_copyWords Z u a2 y_5 x0 y_6).bind fun x_7 => ((pX1_writePointers R Z (x_7.1) a2 (y_5 + (Uf (x_7.1) 3 a2)) x1 (y_6 + x0)).bind fun x_9 => match x_9.2 with | .inl j => some (x_9.1, .inl j) | .inr r_9 => pX1_writeStructList_153 R Z a2 n (x_9.1) x0 x1 x2 (x3 + (1 : Int32))))))) := rfl
def pX1_writeStructList_9 (R : zRT) (Z : CZ) (a2 : Nat) : Nat → CS → Int32 → Int32 → Int32 → Int32 → Option (CS × (Nat ⊕ Unit))
  | 0, _, _, _, _, _ => none
  | n + 1, u, x0, x1, x2, x3 => (if (Uf u 1 a2) ≤ x3 then ((some ((Uf u 1 a2) * (x1 + x2))).bind fun y_13 => ((pX1_grow Z u ((1 : Int32) + y_13)).bind fun x_14 => ((pX4_put Z (x_14.1) (Zz Z 9) x0 (pX0_listPointer (((x_14.2) - x0) - (1 : Int32)) (7 : Int32) y_13)).bind fun x_16 => ((pX4_put Z (x_16.1) (Zz Z 9) (x_14.2) (pX0_structPointer (Uf (x_16.1) 1 a2) x1 x2)).bind fun x_20 => pX1_writeStructList_153 R Z a2 300 (x_20.1) x1 x2 (x_14.2) (0 : Int32))))) else ((some (pX2_elementBegin Z u a2 x3)).bind fun y_24 => ((some (y_24 + (Uf u 3 a2))).bind fun y_26 => ((pX3_usedWords Z u (Uf u 4 a2) y_24 (Uf u 3 a2)).bind fun r_29 => ((some (if x1 < r_29 then r_29 else x1)).bind fun y_30 => ((pX3_usedWords Z u (Uf u 4 a2) y_26 (Uf u 2 a2)).bind fun r_33 => ((some (if x2 < r_33 then r_33 else x2)).bind fun y_34 => pX1_writeStructList_9 R Z a2 n u x0 y_30 y_34 (x3 + (1 : Int32)))))))))
theorem pX1_writeStructList_9_s (R : zRT) (Z : CZ) (a2 : Nat) (n : Nat) (u : CS) (x0 : Int32) (x1 : Int32) (x2 : Int32) (x3 : Int32) : pX1_writeStructList_9 R Z a2 (n + 1) u x0 x1 x2 x3 = (if (Uf u 1 a2) ≤ x3 then ((some ((Uf u 1 a2) * (x1 + x2))).bind fun y_13 => ((pX1_grow Z u ((1 : Int32) + y_13)).bind fun x_14 => ((pX4_put Z (x_14.1) (Zz Z 9) x0 (pX0_listPointer (((x_14.2) - x0) - (1 : Int32)) (7 : Int32) y_13)).bind fun x_16 => ((pX4_put Z (x_16.1) (Zz Z 9) (x_14.2) (pX0_structPointer (Uf (x_16.1) 1 a2) x1 x2)).bind fun x_20 => pX1_writeStructList_153 R Z a2 300 (x_20.1) x1 x2 (x_14.2) (0 : Int32))))) else ((some (pX2_elementBegin Z u a2 x3)).bind fun y_24 => ((some (y_24 + (Uf u 3 a2))).bind fun y_26 => ((pX3_usedWords Z u (Uf u 4 a2) y_24 (Uf u 3 a2)).bind fun r_29 => ((some (if x1 < r_29 then r_29 else x1)).bind fun y_30 => ((pX3_usedWords Z u (Uf u 4 a2) y_26 (Uf u 2 a2)).bind fun r_33 => ((some (if x2 < r_33 then r_33 else x2)).bind fun y_34 => pX1_writeStructList_9 R Z a2 n u x0 y_30 y_34 (x3 + (1 : Int32))))))))) := rfl
def pX1_writeStructList (R : zRT) (Z : CZ) (u : CS) (a2 : Nat) (a3 : Int32) : Option (CS × (Nat ⊕ Unit)) := pX1_writeStructList_9 R Z a2 300 u a3 (0 : Int32) (0 : Int32) (0 : Int32)
set_option maxHeartbeats 4000000 in
set_option maxRecDepth 100000 in
theorem ct_X1_writeStructList (l : Launch) (hl0 : l.stackTraces = false) (D : va_G) (c4 : Nat → ClassId) (A : Nat → Prop) (Z : CZ) (hZ : cok Z) (R : zRT) (d : Nat) (hrec : zRec l D c4 A Z R d) (u : CS) (a2 : Nat) (ha2 : isF Z a2) (a3 : Int32) (res : CS × (Nat ⊕ Unit)) (h : pX1_writeStructList R Z u a2 a3 = some res) : vx_Met l yX1_writeStructList (wz yX1_writeStructList cX1_writeStructList 12 none) ({ frames := (3 * d + 42), cells := 1, slots := 6, locals := (120 * d + 2080) } : Room) (va_Pc [.ref (Zz Z 3), .ref (Zz Z 1), .ref a2, .int a3] (fun U => cPre D c4 A Z u U)) (va_Qv (fun w => res = (w, .inr ())) (fun w t => wPre D c4 A (cW c4 Z w) t) A) (vx_X (fun kw : Nat × CS => res = (kw.2, .inl kw.1)) (fun E kw t => E = zEx kw.1 ∧ wPre D c4 A (cW c4 Z kw.2) t) A) 1 6 A := by
  refine vx_ofW (cc := cX1_writeStructList) (maxL := 12) (ret := none) (by decide) rfl ?_
  intro p e s m args below meth c s₁ B hml htb hv
  obtain ⟨rfl, ⟨hP, hD, hK, hA⟩, hE⟩ := hv
  have hx := B.exec
  have hb := B.bytes
  have hr := B.returns
  have hts := atoms_spec (ws := (wz yX1_writeStructList cX1_writeStructList 12 none)) B.pre
  have hown : s.vm.findClass RX1 = some m.cls := findClass_of_methodNamed B.named
  have hlocks := B.notSynchronized
  have hS : va_S A s.heap s.heap [] := va_S.rf
  have hl := lv_entry ([.ref (Zz Z 3), .ref (Zz Z 1), .ref a2, .int a3]) (n := 12) (Nat.le_of_ble_eq_true rfl)
  rw [lg_entry_eq]
  generalize (lg_sl ([.ref (Zz Z 3), .ref (Zz Z 1), .ref a2, .int a3]) ++ List.replicate (12 - (lg_sl ([.ref (Zz Z 3), .ref (Zz Z 1), .ref a2, .int a3])).length) Slot.unset).toArray = ls at hl ⊢
  have hl : lv_has ls 12 [(0, .ref (Zz Z 3)), (1, .ref (Zz Z 1)), (2, .ref a2), (3, .int a3)] := hl
  have k_153 : ∀ (n_153 : Nat), ∀ (u : CS) (H : Heap) (locs : List Loc) (x0 : Int32) (x1 : Int32) (x2 : Int32) (x3 : Int32), va_P D vwCl (cW c4 Z u) H → va_D A (cW c4 Z u) → va_S A s.heap H locs → ∀ (ls : Array Slot), lv_has ls 12 [(0, .ref (Zz Z 3)), (1, .ref (Zz Z 1)), (2, .ref a2), (4, .int x0), (5, .int x1), (7, .int x2), (9, .int x3)] → pX1_writeStructList_153 R Z a2 n_153 u x0 x1 x2 x3 = some res → W p l e ({ frames := (3 * d + 42), cells := 1, slots := 6, locals := (120 * d + 2080) } : Room) s m ([.ref (Zz Z 3), .ref (Zz Z 1), .ref a2, .int a3] : List Value).toArray below meth c H locs 0 0 (vx_MQ below (va_Qv (fun w => res = (w, .inr ())) (fun w t => wPre D c4 A (cW c4 Z w) t) A) (vx_X (fun kw : Nat × CS => res = (kw.2, .inl kw.1)) (fun E kw t => E = zEx kw.1 ∧ wPre D c4 A (cW c4 Z kw.2) t) A) ([.ref (Zz Z 3), .ref (Zz Z 1), .ref a2, .int a3] : List Value).toArray s 1 6 A) (F0 m 153 ls []) := by
    intro n_153
    induction n_153 with
    | zero =>
      intro u H locs x0 x1 x2 x3 hP hD hS ls hl h
      exact nomatch h
    | succ n_153 ih_153 =>
      intro u H locs x0 x1 x2 x3 hP hD hS ls hl h
      rw [pX1_writeStructList_153_s] at h
      refine lv_iload hx hb dX1_writeStructList_153 (lv_at hl 6 rfl) ?_
      refine lv_aload_n hx hb dX1_writeStructList_155 rfl (lv_at hl 2 rfl) ?_
      obtain ⟨n_1, hn_1⟩ := cW_F (c4 := c4) (u := u) ha2
      refine va_get (D := D) (ci := 1) (v := .int (Uf u 1 a2)) (C := RX2) (T := TX2) (N := 7) hx hb hts (fun w h => wm (zin_X2 w h)) hown hK hP n_1 hn_1 rfl 1 (by decide) (hts _ (wm zw_75)) (fun _ h9 => h9) rfl dX1_writeStructList_156 ?_
      refine lv_icmp_ge (tgt := 223) hx hb dX1_writeStructList_159 (by decide) (fun c_2 => ?_) (fun c_2 => ?_)
      · skip
        rw [if_pos c_2] at h
        refine vx_ret ?_
        exact W.vret hx hb hr (fun t ht hW => ⟨⟨u, rfl, (Option.some.inj h).symm, wPre_go hP hD hK hA hS ht hW.alike⟩, hS.F ht⟩) hS.2.2 dX1_writeStructList_223
      · skip
        rw [if_neg c_2] at h
        refine lv_aload_n hx hb dX1_writeStructList_162 rfl (lv_at hl 2 rfl) ?_
        refine lv_iload hx hb dX1_writeStructList_163 (lv_at hl 6 rfl) ?_
        obtain ⟨n_4, hn_4⟩ := cW_F (c4 := c4) (u := u) ha2
        refine vp_callSi (W.runV (As := [.int x3]) (rest := []) ⟨hx, hb, hml, hown, hts⟩ (ct_X2_elementBegin l D c4 A Z hZ u a2 ha2 x3 _ rfl) (cwV 1 hts (wz_V zw_621 zw_537 zw_538 zw_5 zw_539) rfl rfl rfl (by decide +kernel) ⟨(show 0 + 1 ≤ (3 * d + 42) by omega), (show 8 + (2 + 11) + 0 ≤ (120 * d + 2080) by omega)⟩) ⟨fbC, va_recv hK hP (ci := 1) (q0 := n_4) rfl hn_4, fun U9 hU hW => ⟨rfl, goC hP hD hK hA hE hS hU hW⟩⟩ rfl rfl hl.1 rfl (lv_room (Nat.le_of_ble_eq_true rfl)) dX1_writeStructList_165 ⟨Nat.le_of_ble_eq_true rfl, Nat.le_of_ble_eq_true rfl⟩) (fun r_3 e_3 => ?_)
        subst e_3
        obtain ⟨y_5, e_5, h⟩ := zb_bind h
        try dsimp only at h
        refine zt_i (Option.some.inj e_5) ?_
        refine lv_istore (lv' := [(10, .int y_5), (0, .ref (Zz Z 3)), (1, .ref (Zz Z 1)), (2, .ref a2), (4, .int x0), (5, .int x1), (7, .int x2), (9, .int x3)]) hx hb dX1_writeStructList_168 hl (by decide) rfl (fun ls hl => ?_)
        refine lv_iload hx hb dX1_writeStructList_170 (lv_at hl 6 rfl) ?_
        refine lv_iconst (v := (1 : Int32)) hx hb dX1_writeStructList_172 (by decide) ?_
        refine lv_iadd hx hb dX1_writeStructList_173 ?_
        refine lv_iload hx hb dX1_writeStructList_174 (lv_at hl 7 rfl) ?_
        refine lv_iload hx hb dX1_writeStructList_176 (lv_at hl 4 rfl) ?_
        refine lv_iload hx hb dX1_writeStructList_178 (lv_at hl 5 rfl) ?_
        refine lv_iadd hx hb dX1_writeStructList_180 ?_
        refine lv_imul hx hb dX1_writeStructList_181 ?_
        refine lv_iadd hx hb dX1_writeStructList_182 ?_
        obtain ⟨y_6, e_6, h⟩ := zb_bind h
        try dsimp only at h
        refine zt_i (Option.some.inj e_6) ?_
        refine lv_istore (lv' := [(11, .int y_6), (10, .int y_5), (0, .ref (Zz Z 3)), (1, .ref (Zz Z 1)), (2, .ref a2), (4, .int x0), (5, .int x1), (7, .int x2), (9, .int x3)]) hx hb dX1_writeStructList_183 hl (by decide) rfl (fun ls hl => ?_)
        refine lv_aload_n hx hb dX1_writeStructList_185 rfl (lv_at hl 2 rfl) ?_
        refine lv_aload_n hx hb dX1_writeStructList_186 rfl (lv_at hl 3 rfl) ?_
        refine lv_aload_n hx hb dX1_writeStructList_187 rfl (lv_at hl 4 rfl) ?_
        refine lv_iload hx hb dX1_writeStructList_188 (lv_at hl 1 rfl) ?_
        refine lv_iload hx hb dX1_writeStructList_190 (lv_at hl 5 rfl) ?_
        refine lv_iload hx hb dX1_writeStructList_192 (lv_at hl 0 rfl) ?_
        obtain ⟨x_7, hc_7, h⟩ := zb_bind h
        try dsimp only at h
        refine va_callv (va_runV (As := [.ref (Zz Z 1), .ref a2, .int y_5, .int x0, .int y_6]) (rest := []) ⟨hx, hb, hml, hown, hts⟩ (ct_X1_copyWords l D c4 A Z hZ u a2 ha2 y_5 x0 y_6 _ hc_7) (cwV 5 hts (wz_V zw_596 zw_598 zs_11 zw_4 zw_599) rfl rfl rfl (by decide +kernel) ⟨(show 1 + 1 ≤ (3 * d + 42) by omega), (show 8 + (7 + 11) + 23 ≤ (120 * d + 2080) by omega)⟩) ⟨fbC, va_recv hK hP (ci := 0) (q0 := 3) rfl rfl, fun U9 hU hW => ⟨rfl, goC hP hD hK hA hE hS hU hW⟩⟩ rfl rfl hl.1 rfl (lv_room (Nat.le_of_ble_eq_true rfl)) dX1_writeStructList_194 ⟨Nat.le_of_ble_eq_true rfl, Nat.le_of_ble_eq_true rfl⟩) hS (fun q _ h => h) (fun q h => h) (fun u_7 t H1 locs ht hvm e_7 hB hz1 hk1 hS => ?_)
        subst e_7
        try dsimp only at h
        obtain ⟨hP, hD, -, -⟩ := hB
        rw [ht] at hP
        generalize H1 = H at hP hS ⊢
        refine lv_aload_n hx hb dX1_writeStructList_197 rfl (lv_at hl 2 rfl) ?_
        refine lv_aload_n hx hb dX1_writeStructList_198 rfl (lv_at hl 3 rfl) ?_
        refine lv_aload_n hx hb dX1_writeStructList_199 rfl (lv_at hl 4 rfl) ?_
        refine lv_iload hx hb dX1_writeStructList_200 (lv_at hl 1 rfl) ?_
        refine lv_aload_n hx hb dX1_writeStructList_202 rfl (lv_at hl 4 rfl) ?_
        obtain ⟨n_8, hn_8⟩ := cW_F (c4 := c4) (u := u_7) ha2
        refine va_get (D := D) (ci := 1) (v := .int (Uf u_7 3 a2)) (C := RX2) (T := TX2) (N := 7) hx hb hts (fun w h => wm (zin_X2 w h)) hown hK hP n_8 hn_8 rfl 3 (by decide) (hts _ (wm zw_83)) (fun _ h9 => h9) rfl dX1_writeStructList_203 ?_
        refine lv_iadd hx hb dX1_writeStructList_206 ?_
        refine lv_iload hx hb dX1_writeStructList_207 (lv_at hl 6 rfl) ?_
        refine lv_iload hx hb dX1_writeStructList_209 (lv_at hl 0 rfl) ?_
        refine lv_iload hx hb dX1_writeStructList_211 (lv_at hl 5 rfl) ?_
        refine lv_iadd hx hb dX1_writeStructList_213 ?_
        obtain ⟨x_9, hc_9, h⟩ := zb_bind h
        try dsimp only at h
        refine vx_callv (vx_runV (As := [.ref (Zz Z 1), .ref a2, .int (y_5 + (Uf u_7 3 a2)), .int x1, .int (y_6 + x0)]) (rest := []) ⟨hx, hb, hml, hown, hts⟩ (ct_X1_writePointers l hl0 D c4 A Z hZ R d hrec u_7 a2 ha2 (y_5 + (Uf u_7 3 a2)) x1 (y_6 + x0) _ hc_9) (cwV 5 hts (wz_V zw_601 zw_603 zs_12 zw_4 zw_604) rfl rfl rfl (by decide +kernel) ⟨(show (3 * d + 41) + 1 ≤ (3 * d + 42) by omega), (show 8 + (8 + 11) + (120 * d + 2040) ≤ (120 * d + 2080) by omega)⟩) ⟨fbC, va_recv hK hP (ci := 0) (q0 := 3) rfl rfl, fun U9 hU hW => ⟨rfl, goC hP hD hK hA hE hS hU hW⟩⟩ rfl rfl hl.1 rfl (lv_room (Nat.le_of_ble_eq_true rfl)) dX1_writeStructList_214 ⟨Nat.le_of_ble_eq_true rfl, Nat.le_of_ble_eq_true rfl⟩) hS (fun q _ h => h) (fun q h => h) (fun q _ h => h) (fun E9 ce9 q9 kw_9 t H1 locs ht hvm e_9 hB hz1 hk1 hS hc9 hv9 hcl9 => ?_) (fun u_9 t H1 locs ht hvm e_9 hB hz1 hk1 hS => ?_)
        · subst e_9
          try dsimp only at h
          obtain ⟨rfl, hP, hD, -, -⟩ := hB
          rw [ht] at hP
          exact vx_out (fun x9 hx9 => (htb x9 hx9).elim) hlocks hc9 hv9 hcl9 (fun t ht hal => ⟨kw_9, (Option.some.inj h).symm, ⟨rfl, wPre_go hP hD hK hA hS ht hal⟩, hS.F ht⟩) hS.2.2 (Nat.le_of_ble_eq_true rfl) (Nat.le_of_ble_eq_true rfl)
        subst e_9
        try dsimp only at h
        obtain ⟨hP, hD, -, -⟩ := hB
        rw [ht] at hP
        generalize H1 = H at hP hS ⊢
        refine lv_iinc (v := (x3 + (1 : Int32))) (lv' := [(9, .int (x3 + (1 : Int32))), (11, .int y_6), (10, .int y_5), (0, .ref (Zz Z 3)), (1, .ref (Zz Z 1)), (2, .ref a2), (4, .int x0), (5, .int x1), (7, .int x2)]) hx hb dX1_writeStructList_217 hl (k := 8) rfl rfl (by decide) rfl (fun ls hl => ?_)
        refine lv_goto (tgt := 153) hx hb dX1_writeStructList_220 (by decide) ?_
        exact ih_153 u_9 _ _ x0 x1 x2 (x3 + (1 : Int32)) hP hD hS ls (lv_sub hl [3, 4, 5, 6, 7, 8, 0] rfl) h
  have k_9 : ∀ (n_9 : Nat), ∀ (u : CS) (H : Heap) (locs : List Loc) (x0 : Int32) (x1 : Int32) (x2 : Int32) (x3 : Int32), va_P D vwCl (cW c4 Z u) H → va_D A (cW c4 Z u) → va_S A s.heap H locs → ∀ (ls : Array Slot), lv_has ls 12 [(0, .ref (Zz Z 3)), (1, .ref (Zz Z 1)), (2, .ref a2), (3, .int x0), (4, .int x1), (5, .int x2), (6, .int x3)] → pX1_writeStructList_9 R Z a2 n_9 u x0 x1 x2 x3 = some res → W p l e ({ frames := (3 * d + 42), cells := 1, slots := 6, locals := (120 * d + 2080) } : Room) s m ([.ref (Zz Z 3), .ref (Zz Z 1), .ref a2, .int a3] : List Value).toArray below meth c H locs 0 0 (vx_MQ below (va_Qv (fun w => res = (w, .inr ())) (fun w t => wPre D c4 A (cW c4 Z w) t) A) (vx_X (fun kw : Nat × CS => res = (kw.2, .inl kw.1)) (fun E kw t => E = zEx kw.1 ∧ wPre D c4 A (cW c4 Z kw.2) t) A) ([.ref (Zz Z 3), .ref (Zz Z 1), .ref a2, .int a3] : List Value).toArray s 1 6 A) (F0 m 9 ls []) := by
    intro n_9
    induction n_9 with
    | zero =>
      intro u H locs x0 x1 x2 x3 hP hD hS ls hl h
      exact nomatch h
    | succ n_9 ih_9 =>
      intro u H locs x0 x1 x2 x3 hP hD hS ls hl h
      rw [pX1_writeStructList_9_s] at h
      refine lv_iload hx hb dX1_writeStructList_9 (lv_at hl 6 rfl) ?_
      refine lv_aload_n hx hb dX1_writeStructList_11 rfl (lv_at hl 2 rfl) ?_
      obtain ⟨n_10, hn_10⟩ := cW_F (c4 := c4) (u := u) ha2
      refine va_get (D := D) (ci := 1) (v := .int (Uf u 1 a2)) (C := RX2) (T := TX2) (N := 7) hx hb hts (fun w h => wm (zin_X2 w h)) hown hK hP n_10 hn_10 rfl 1 (by decide) (hts _ (wm zw_75)) (fun _ h9 => h9) rfl dX1_writeStructList_12 ?_
      refine lv_icmp_ge (tgt := 83) hx hb dX1_writeStructList_15 (by decide) (fun c_11 => ?_) (fun c_11 => ?_)
      · skip
        rw [if_pos c_11] at h
        refine lv_aload_n hx hb dX1_writeStructList_83 rfl (lv_at hl 2 rfl) ?_
        obtain ⟨n_12, hn_12⟩ := cW_F (c4 := c4) (u := u) ha2
        refine va_get (D := D) (ci := 1) (v := .int (Uf u 1 a2)) (C := RX2) (T := TX2) (N := 7) hx hb hts (fun w h => wm (zin_X2 w h)) hown hK hP n_12 hn_12 rfl 1 (by decide) (hts _ (wm zw_75)) (fun _ h9 => h9) rfl dX1_writeStructList_84 ?_
        refine lv_iload hx hb dX1_writeStructList_87 (lv_at hl 4 rfl) ?_
        refine lv_iload hx hb dX1_writeStructList_89 (lv_at hl 5 rfl) ?_
        refine lv_iadd hx hb dX1_writeStructList_91 ?_
        refine lv_imul hx hb dX1_writeStructList_92 ?_
        obtain ⟨y_13, e_13, h⟩ := zb_bind h
        try dsimp only at h
        refine zt_i (Option.some.inj e_13) ?_
        refine lv_istore (lv' := [(6, .int y_13), (0, .ref (Zz Z 3)), (1, .ref (Zz Z 1)), (2, .ref a2), (3, .int x0), (4, .int x1), (5, .int x2)]) hx hb dX1_writeStructList_93 hl (by decide) rfl (fun ls hl => ?_)
        refine lv_aload_n hx hb dX1_writeStructList_95 rfl (lv_at hl 1 rfl) ?_
        refine lv_iconst (v := (1 : Int32)) hx hb dX1_writeStructList_96 (by decide) ?_
        refine lv_iload hx hb dX1_writeStructList_97 (lv_at hl 0 rfl) ?_
        refine lv_iadd hx hb dX1_writeStructList_99 ?_
        obtain ⟨x_14, hc_14, h⟩ := zb_bind h
        try dsimp only at h
        refine va_calli (va_runV (As := [.int ((1 : Int32) + y_13)]) (rest := []) ⟨hx, hb, hml, hown, hts⟩ (ct_X1_grow l D c4 A Z hZ u ((1 : Int32) + y_13) _ hc_14) (cwV 1 hts (wz_V zw_587 zw_589 zs_10 zw_4 zw_590) rfl rfl rfl (by decide +kernel) ⟨(show 1 + 1 ≤ (3 * d + 42) by omega), (show 8 + (4 + 11) + 22 ≤ (120 * d + 2080) by omega)⟩) ⟨fbC, va_recv hK hP (ci := 0) (q0 := 3) rfl rfl, fun U9 hU hW => ⟨rfl, goC hP hD hK hA hE hS hU hW⟩⟩ rfl rfl hl.1 rfl (lv_room (Nat.le_of_ble_eq_true rfl)) dX1_writeStructList_100 ⟨Nat.le_of_ble_eq_true rfl, Nat.le_of_ble_eq_true rfl⟩) hS (fun q _ h => h) (fun q h => h) (fun r_14 u_14 t H1 locs ht hvm e_14 hB hz1 hk1 hS => ?_)
        subst e_14
        try dsimp only at h
        obtain ⟨hP, hD, -, -⟩ := hB
        rw [ht] at hP
        generalize H1 = H at hP hS ⊢
        refine lv_istore (lv' := [(7, .int r_14), (6, .int y_13), (0, .ref (Zz Z 3)), (1, .ref (Zz Z 1)), (2, .ref a2), (3, .int x0), (4, .int x1), (5, .int x2)]) hx hb dX1_writeStructList_103 hl (by decide) rfl (fun ls hl => ?_)
        refine lv_bipush (v := (7 : Int32)) hx hb dX1_writeStructList_105 (by decide) ?_
        refine lv_istore (lv' := [(8, .int (7 : Int32)), (7, .int r_14), (6, .int y_13), (0, .ref (Zz Z 3)), (1, .ref (Zz Z 1)), (2, .ref a2), (3, .int x0), (4, .int x1), (5, .int x2)]) hx hb dX1_writeStructList_107 hl (by decide) rfl (fun ls hl => ?_)
        refine lv_aload_n hx hb dX1_writeStructList_109 rfl (lv_at hl 3 rfl) ?_
        refine va_get (D := D) (ci := 0) (v := .ref (Zz Z 9)) (C := RX1) (T := TX1) (N := 3) hx hb hts (fun w h => wm (zin_X1 w h)) hown hK hP 3 rfl rfl 0 (by decide) (hts _ (wm zw_113)) (fun _ h9 => h9) rfl dX1_writeStructList_110 ?_
        refine lv_iload_n hx hb dX1_writeStructList_113 rfl (lv_at hl 6 rfl) ?_
        refine lv_iload hx hb dX1_writeStructList_114 (lv_at hl 1 rfl) ?_
        refine lv_iload_n hx hb dX1_writeStructList_116 rfl (lv_at hl 6 rfl) ?_
        refine lv_isub hx hb dX1_writeStructList_117 ?_
        refine lv_iconst (v := (1 : Int32)) hx hb dX1_writeStructList_118 (by decide) ?_
        refine lv_isub hx hb dX1_writeStructList_119 ?_
        refine lv_iload hx hb dX1_writeStructList_120 (lv_at hl 0 rfl) ?_
        refine lv_iload hx hb dX1_writeStructList_122 (lv_at hl 2 rfl) ?_
        refine vp_callSl (W.runS (As := [.int ((r_14 - x0) - (1 : Int32)), .int (7 : Int32), .int y_13]) (rest := [.int x0, .ref (Zz Z 9)]) ⟨hx, hb, hml, hown, hts⟩ (ct_X0_listPointer l ((r_14 - x0) - (1 : Int32)) (7 : Int32) y_13 _ rfl) (va_cwS 3 hts (wz_S zw_614 zw_615 zw_12 zw_616) rfl rfl rfl (by decide +kernel) ⟨(show 0 + 1 ≤ (3 * d + 42) by omega), (show 8 + (3 + 11) + 0 ≤ (120 * d + 2080) by omega)⟩) ⟨fbN, fun U9 hU hW => ⟨rfl, trivial⟩⟩ rfl rfl hl.1 rfl (lv_room (Nat.le_of_ble_eq_true rfl)) dX1_writeStructList_124 ⟨Nat.le_of_ble_eq_true rfl, Nat.le_of_ble_eq_true rfl⟩) (fun r_15 e_15 => ?_)
        subst e_15
        obtain ⟨n_17, hn_17⟩ := cW_R (c4 := c4) (u := u_14) hZ.2.2.2.2.2.2
        obtain ⟨x_16, hc_16, h⟩ := zb_bind h
        try dsimp only at h
        refine va_callv (va_runV (As := [.int x0, .long (pX0_listPointer ((r_14 - x0) - (1 : Int32)) (7 : Int32) y_13)]) (rest := []) ⟨hx, hb, hml, hown, hts⟩ (ct_X4_put l D c4 A Z hZ u_14 (Zz Z 9) hZ.2.2.2.2.2.2 x0 (pX0_listPointer ((r_14 - x0) - (1 : Int32)) (7 : Int32) y_13) _ hc_16) (cwV 2 hts (wz_V zw_595 zw_185 zw_186 zw_3 zw_187) rfl rfl rfl (by decide +kernel) ⟨(show 0 + 1 ≤ (3 * d + 42) by omega), (show 8 + (4 + 11) + 0 ≤ (120 * d + 2080) by omega)⟩) ⟨fbC, va_recv hK hP (ci := 3) (q0 := n_17) rfl hn_17, fun U9 hU hW => ⟨rfl, goC hP hD hK hA hE hS hU hW⟩⟩ rfl rfl hl.1 rfl (lv_room (Nat.le_of_ble_eq_true rfl)) dX1_writeStructList_127 ⟨Nat.le_of_ble_eq_true rfl, Nat.le_of_ble_eq_true rfl⟩) hS (fun q _ h => h) (fun q h => h) (fun u_16 t H1 locs ht hvm e_16 hB hz1 hk1 hS => ?_)
        subst e_16
        try dsimp only at h
        obtain ⟨hP, hD, -, -⟩ := hB
        rw [ht] at hP
        generalize H1 = H at hP hS ⊢
        refine lv_aload_n hx hb dX1_writeStructList_130 rfl (lv_at hl 3 rfl) ?_
        refine va_get (D := D) (ci := 0) (v := .ref (Zz Z 9)) (C := RX1) (T := TX1) (N := 3) hx hb hts (fun w h => wm (zin_X1 w h)) hown hK hP 3 rfl rfl 0 (by decide) (hts _ (wm zw_113)) (fun _ h9 => h9) rfl dX1_writeStructList_131 ?_
        refine lv_iload hx hb dX1_writeStructList_134 (lv_at hl 1 rfl) ?_
        refine lv_aload_n hx hb dX1_writeStructList_136 rfl (lv_at hl 5 rfl) ?_
        obtain ⟨n_18, hn_18⟩ := cW_F (c4 := c4) (u := u_16) ha2
        refine va_get (D := D) (ci := 1) (v := .int (Uf u_16 1 a2)) (C := RX2) (T := TX2) (N := 7) hx hb hts (fun w h => wm (zin_X2 w h)) hown hK hP n_18 hn_18 rfl 1 (by decide) (hts _ (wm zw_75)) (fun _ h9 => h9) rfl dX1_writeStructList_137 ?_
        refine lv_iload hx hb dX1_writeStructList_140 (lv_at hl 7 rfl) ?_
        refine lv_iload hx hb dX1_writeStructList_142 (lv_at hl 8 rfl) ?_
        refine vp_callSl (W.runS (As := [.int (Uf u_16 1 a2), .int x1, .int x2]) (rest := [.int r_14, .ref (Zz Z 9)]) ⟨hx, hb, hml, hown, hts⟩ (ct_X0_structPointer l (Uf u_16 1 a2) x1 x2 _ rfl) (va_cwS 3 hts (wz_S zw_591 zw_592 zw_12 zw_593) rfl rfl rfl (by decide +kernel) ⟨(show 0 + 1 ≤ (3 * d + 42) by omega), (show 8 + (3 + 11) + 0 ≤ (120 * d + 2080) by omega)⟩) ⟨fbN, fun U9 hU hW => ⟨rfl, trivial⟩⟩ rfl rfl hl.1 rfl (lv_room (Nat.le_of_ble_eq_true rfl)) dX1_writeStructList_144 ⟨Nat.le_of_ble_eq_true rfl, Nat.le_of_ble_eq_true rfl⟩) (fun r_19 e_19 => ?_)
        subst e_19
        obtain ⟨n_21, hn_21⟩ := cW_R (c4 := c4) (u := u_16) hZ.2.2.2.2.2.2
        obtain ⟨x_20, hc_20, h⟩ := zb_bind h
        try dsimp only at h
        refine va_callv (va_runV (As := [.int r_14, .long (pX0_structPointer (Uf u_16 1 a2) x1 x2)]) (rest := []) ⟨hx, hb, hml, hown, hts⟩ (ct_X4_put l D c4 A Z hZ u_16 (Zz Z 9) hZ.2.2.2.2.2.2 r_14 (pX0_structPointer (Uf u_16 1 a2) x1 x2) _ hc_20) (cwV 2 hts (wz_V zw_595 zw_185 zw_186 zw_3 zw_187) rfl rfl rfl (by decide +kernel) ⟨(show 0 + 1 ≤ (3 * d + 42) by omega), (show 8 + (4 + 11) + 0 ≤ (120 * d + 2080) by omega)⟩) ⟨fbC, va_recv hK hP (ci := 3) (q0 := n_21) rfl hn_21, fun U9 hU hW => ⟨rfl, goC hP hD hK hA hE hS hU hW⟩⟩ rfl rfl hl.1 rfl (lv_room (Nat.le_of_ble_eq_true rfl)) dX1_writeStructList_147 ⟨Nat.le_of_ble_eq_true rfl, Nat.le_of_ble_eq_true rfl⟩) hS (fun q _ h => h) (fun q h => h) (fun u_20 t H1 locs ht hvm e_20 hB hz1 hk1 hS => ?_)
        subst e_20
        try dsimp only at h
        obtain ⟨hP, hD, -, -⟩ := hB
        rw [ht] at hP
        generalize H1 = H at hP hS ⊢
        refine lv_iconst (v := (0 : Int32)) hx hb dX1_writeStructList_150 (by decide) ?_
        refine lv_istore (lv' := [(9, .int (0 : Int32)), (8, .int (7 : Int32)), (7, .int r_14), (6, .int y_13), (0, .ref (Zz Z 3)), (1, .ref (Zz Z 1)), (2, .ref a2), (3, .int x0), (4, .int x1), (5, .int x2)]) hx hb dX1_writeStructList_151 hl (by decide) rfl (fun ls hl => ?_)
        exact k_153 300 u_20 _ _ x1 x2 r_14 (0 : Int32) hP hD hS ls (lv_sub hl [4, 5, 6, 8, 9, 2, 0] rfl) h
      · skip
        rw [if_neg c_11] at h
        refine lv_aload_n hx hb dX1_writeStructList_18 rfl (lv_at hl 2 rfl) ?_
        refine lv_iload hx hb dX1_writeStructList_19 (lv_at hl 6 rfl) ?_
        obtain ⟨n_23, hn_23⟩ := cW_F (c4 := c4) (u := u) ha2
        refine vp_callSi (W.runV (As := [.int x3]) (rest := []) ⟨hx, hb, hml, hown, hts⟩ (ct_X2_elementBegin l D c4 A Z hZ u a2 ha2 x3 _ rfl) (cwV 1 hts (wz_V zw_621 zw_537 zw_538 zw_5 zw_539) rfl rfl rfl (by decide +kernel) ⟨(show 0 + 1 ≤ (3 * d + 42) by omega), (show 8 + (2 + 11) + 0 ≤ (120 * d + 2080) by omega)⟩) ⟨fbC, va_recv hK hP (ci := 1) (q0 := n_23) rfl hn_23, fun U9 hU hW => ⟨rfl, goC hP hD hK hA hE hS hU hW⟩⟩ rfl rfl hl.1 rfl (lv_room (Nat.le_of_ble_eq_true rfl)) dX1_writeStructList_21 ⟨Nat.le_of_ble_eq_true rfl, Nat.le_of_ble_eq_true rfl⟩) (fun r_22 e_22 => ?_)
        subst e_22
        obtain ⟨y_24, e_24, h⟩ := zb_bind h
        try dsimp only at h
        refine zt_i (Option.some.inj e_24) ?_
        refine lv_istore (lv' := [(7, .int y_24), (0, .ref (Zz Z 3)), (1, .ref (Zz Z 1)), (2, .ref a2), (3, .int x0), (4, .int x1), (5, .int x2), (6, .int x3)]) hx hb dX1_writeStructList_24 hl (by decide) rfl (fun ls hl => ?_)
        refine lv_iload hx hb dX1_writeStructList_26 (lv_at hl 0 rfl) ?_
        refine lv_aload_n hx hb dX1_writeStructList_28 rfl (lv_at hl 3 rfl) ?_
        obtain ⟨n_25, hn_25⟩ := cW_F (c4 := c4) (u := u) ha2
        refine va_get (D := D) (ci := 1) (v := .int (Uf u 3 a2)) (C := RX2) (T := TX2) (N := 7) hx hb hts (fun w h => wm (zin_X2 w h)) hown hK hP n_25 hn_25 rfl 3 (by decide) (hts _ (wm zw_83)) (fun _ h9 => h9) rfl dX1_writeStructList_29 ?_
        refine lv_iadd hx hb dX1_writeStructList_32 ?_
        obtain ⟨y_26, e_26, h⟩ := zb_bind h
        try dsimp only at h
        refine zt_i (Option.some.inj e_26) ?_
        refine lv_istore (lv' := [(8, .int y_26), (7, .int y_24), (0, .ref (Zz Z 3)), (1, .ref (Zz Z 1)), (2, .ref a2), (3, .int x0), (4, .int x1), (5, .int x2), (6, .int x3)]) hx hb dX1_writeStructList_33 hl (by decide) rfl (fun ls hl => ?_)
        refine lv_iload hx hb dX1_writeStructList_35 (lv_at hl 6 rfl) ?_
        refine lv_aload_n hx hb dX1_writeStructList_37 rfl (lv_at hl 3 rfl) ?_
        refine lv_aload_n hx hb dX1_writeStructList_38 rfl (lv_at hl 4 rfl) ?_
        obtain ⟨n_27, hn_27⟩ := cW_F (c4 := c4) (u := u) ha2
        refine va_get (D := D) (ci := 1) (v := .int (Uf u 4 a2)) (C := RX2) (T := TX2) (N := 7) hx hb hts (fun w h => wm (zin_X2 w h)) hown hK hP n_27 hn_27 rfl 4 (by decide) (hts _ (wm zw_86)) (fun _ h9 => h9) rfl dX1_writeStructList_39 ?_
        refine lv_iload hx hb dX1_writeStructList_42 (lv_at hl 1 rfl) ?_
        refine lv_aload_n hx hb dX1_writeStructList_44 rfl (lv_at hl 4 rfl) ?_
        obtain ⟨n_28, hn_28⟩ := cW_F (c4 := c4) (u := u) ha2
        refine va_get (D := D) (ci := 1) (v := .int (Uf u 3 a2)) (C := RX2) (T := TX2) (N := 7) hx hb hts (fun w h => wm (zin_X2 w h)) hown hK hP n_28 hn_28 rfl 3 (by decide) (hts _ (wm zw_83)) (fun _ h9 => h9) rfl dX1_writeStructList_45 ?_
        obtain ⟨q_29, hc_29, h⟩ := zb_bind h
        try dsimp only at h
        refine vp_callSi (W.runV (As := [.int (Uf u 4 a2), .int y_24, .int (Uf u 3 a2)]) (rest := [.int x1]) ⟨hx, hb, hml, hown, hts⟩ (ct_X3_usedWords l D c4 A Z hZ u (Uf u 4 a2) y_24 (Uf u 3 a2) _ hc_29) (cwV 3 hts (wz_V zw_583 zw_584 zw_585 zw_2 zw_586) rfl rfl rfl (by decide +kernel) ⟨(show 1 + 1 ≤ (3 * d + 42) by omega), (show 8 + (5 + 11) + 23 ≤ (120 * d + 2080) by omega)⟩) ⟨fbC, va_recv hK hP (ci := 2) (q0 := 1) rfl rfl, fun U9 hU hW => ⟨rfl, goC hP hD hK hA hE hS hU hW⟩⟩ rfl rfl hl.1 rfl (lv_room (Nat.le_of_ble_eq_true rfl)) dX1_writeStructList_48 ⟨Nat.le_of_ble_eq_true rfl, Nat.le_of_ble_eq_true rfl⟩) (fun r_29 e_29 => ?_)
        subst e_29
        refine va_mmax hx hb (hml.trans hl.1.symm) hown (hts _ (wm zw_622)) (hts _ (wm zw_411)) (hts _ (wm zw_14)) (hts _ (wm zw_412)) (show 1 ≤ (3 * d + 42) by omega) (Nat.le_trans (m := 100) (Nat.le_of_ble_eq_true rfl) (show 100 ≤ (120 * d + 2080) by omega)) (Nat.zero_le _) (Nat.zero_le _) dX1_writeStructList_51 ?_
        obtain ⟨y_30, e_30, h⟩ := zb_bind h
        try dsimp only at h
        refine zt_i (Option.some.inj e_30) ?_
        refine lv_istore (lv' := [(4, .int y_30), (8, .int y_26), (7, .int y_24), (0, .ref (Zz Z 3)), (1, .ref (Zz Z 1)), (2, .ref a2), (3, .int x0), (5, .int x2), (6, .int x3)]) hx hb dX1_writeStructList_54 hl (by decide) rfl (fun ls hl => ?_)
        refine lv_iload hx hb dX1_writeStructList_56 (lv_at hl 7 rfl) ?_
        refine lv_aload_n hx hb dX1_writeStructList_58 rfl (lv_at hl 4 rfl) ?_
        refine lv_aload_n hx hb dX1_writeStructList_59 rfl (lv_at hl 5 rfl) ?_
        obtain ⟨n_31, hn_31⟩ := cW_F (c4 := c4) (u := u) ha2
        refine va_get (D := D) (ci := 1) (v := .int (Uf u 4 a2)) (C := RX2) (T := TX2) (N := 7) hx hb hts (fun w h => wm (zin_X2 w h)) hown hK hP n_31 hn_31 rfl 4 (by decide) (hts _ (wm zw_86)) (fun _ h9 => h9) rfl dX1_writeStructList_60 ?_
        refine lv_iload hx hb dX1_writeStructList_63 (lv_at hl 1 rfl) ?_
        refine lv_aload_n hx hb dX1_writeStructList_65 rfl (lv_at hl 5 rfl) ?_
        obtain ⟨n_32, hn_32⟩ := cW_F (c4 := c4) (u := u) ha2
        refine va_get (D := D) (ci := 1) (v := .int (Uf u 2 a2)) (C := RX2) (T := TX2) (N := 7) hx hb hts (fun w h => wm (zin_X2 w h)) hown hK hP n_32 hn_32 rfl 2 (by decide) (hts _ (wm zw_79)) (fun _ h9 => h9) rfl dX1_writeStructList_66 ?_
        obtain ⟨q_33, hc_33, h⟩ := zb_bind h
        try dsimp only at h
        refine vp_callSi (W.runV (As := [.int (Uf u 4 a2), .int y_26, .int (Uf u 2 a2)]) (rest := [.int x2]) ⟨hx, hb, hml, hown, hts⟩ (ct_X3_usedWords l D c4 A Z hZ u (Uf u 4 a2) y_26 (Uf u 2 a2) _ hc_33) (cwV 3 hts (wz_V zw_583 zw_584 zw_585 zw_2 zw_586) rfl rfl rfl (by decide +kernel) ⟨(show 1 + 1 ≤ (3 * d + 42) by omega), (show 8 + (5 + 11) + 23 ≤ (120 * d + 2080) by omega)⟩) ⟨fbC, va_recv hK hP (ci := 2) (q0 := 1) rfl rfl, fun U9 hU hW => ⟨rfl, goC hP hD hK hA hE hS hU hW⟩⟩ rfl rfl hl.1 rfl (lv_room (Nat.le_of_ble_eq_true rfl)) dX1_writeStructList_69 ⟨Nat.le_of_ble_eq_true rfl, Nat.le_of_ble_eq_true rfl⟩) (fun r_33 e_33 => ?_)
        subst e_33
        refine va_mmax hx hb (hml.trans hl.1.symm) hown (hts _ (wm zw_622)) (hts _ (wm zw_411)) (hts _ (wm zw_14)) (hts _ (wm zw_412)) (show 1 ≤ (3 * d + 42) by omega) (Nat.le_trans (m := 100) (Nat.le_of_ble_eq_true rfl) (show 100 ≤ (120 * d + 2080) by omega)) (Nat.zero_le _) (Nat.zero_le _) dX1_writeStructList_72 ?_
        obtain ⟨y_34, e_34, h⟩ := zb_bind h
        try dsimp only at h
        refine zt_i (Option.some.inj e_34) ?_
        refine lv_istore (lv' := [(5, .int y_34), (4, .int y_30), (8, .int y_26), (7, .int y_24), (0, .ref (Zz Z 3)), (1, .ref (Zz Z 1)), (2, .ref a2), (3, .int x0), (6, .int x3)]) hx hb dX1_writeStructList_75 hl (by decide) rfl (fun ls hl => ?_)
        refine lv_iinc (v := (x3 + (1 : Int32))) (lv' := [(6, .int (x3 + (1 : Int32))), (5, .int y_34), (4, .int y_30), (8, .int y_26), (7, .int y_24), (0, .ref (Zz Z 3)), (1, .ref (Zz Z 1)), (2, .ref a2), (3, .int x0)]) hx hb dX1_writeStructList_77 hl (k := 8) rfl rfl (by decide) rfl (fun ls hl => ?_)
        refine lv_goto (tgt := 9) hx hb dX1_writeStructList_80 (by decide) ?_
        exact ih_9 u _ _ x0 y_30 y_34 (x3 + (1 : Int32)) hP hD hS ls (lv_sub hl [5, 6, 7, 8, 2, 1, 0] rfl) h
  unfold pX1_writeStructList at h
  refine lv_iconst (v := (0 : Int32)) hx hb dX1_writeStructList_0 (by decide) ?_
  refine lv_istore (lv' := [(4, .int (0 : Int32)), (0, .ref (Zz Z 3)), (1, .ref (Zz Z 1)), (2, .ref a2), (3, .int a3)]) hx hb dX1_writeStructList_1 hl (by decide) rfl (fun ls hl => ?_)
  refine lv_iconst (v := (0 : Int32)) hx hb dX1_writeStructList_3 (by decide) ?_
  refine lv_istore (lv' := [(5, .int (0 : Int32)), (4, .int (0 : Int32)), (0, .ref (Zz Z 3)), (1, .ref (Zz Z 1)), (2, .ref a2), (3, .int a3)]) hx hb dX1_writeStructList_4 hl (by decide) rfl (fun ls hl => ?_)
  refine lv_iconst (v := (0 : Int32)) hx hb dX1_writeStructList_6 (by decide) ?_
  refine lv_istore (lv' := [(6, .int (0 : Int32)), (5, .int (0 : Int32)), (4, .int (0 : Int32)), (0, .ref (Zz Z 3)), (1, .ref (Zz Z 1)), (2, .ref a2), (3, .int a3)]) hx hb dX1_writeStructList_7 hl (by decide) rfl (fun ls hl => ?_)
  exact k_9 300 u _ _ a3 (0 : Int32) (0 : Int32) (0 : Int32) hP hD hS ls (lv_sub hl [3, 4, 5, 6, 2, 1, 0] rfl) h
