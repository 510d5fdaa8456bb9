def pX6_measureTag (v : MS) : Option (MS × Int32) := (if inb (((64 : Int32) * (Vi v 6)) + (Vi v 7)) 256 = true then ((some (Vr v 1 (((64 : Int32) * (Vi v 6)) + (Vi v 7)).toNatClampNeg)).bind fun y_2 => ((some ((Vi v 7) + (1 : Int32))).bind fun y_3 => ((some (((y_2.toUInt64 >>> ((2 : Int32).toInt64.toUInt64 &&& Int64.toUInt64 63)).toInt64) &&& (1073741823 : Int64))).bind fun y_4 => ((some ((((y_2.toUInt64 >>> ((32 : Int32).toInt64.toUInt64 &&& Int64.toUInt64 63)).toInt64) &&& (65535 : Int64)).toInt32)).bind fun y_5 => ((some (((y_2.toUInt64 >>> ((48 : Int32).toInt64.toUInt64 &&& Int64.toUInt64 63)).toInt64).toInt32)).bind fun y_6 => (if y_4 ≤ (Vl v 11) then ((some ((Vl v 11) + (1 : Int64))).bind fun y_8 => (if (y_2 &&& (3 : Int64)) = (0 : Int64) then (if (y_4 * ((y_5 + y_6).toInt64)) ≤ (Vl v 11) then some ((tL (tI (tI (tL (tI v 7 y_3) 8 y_4) 9 y_5) 10 y_6) 12 y_8), (0 : Int32)) else some ((tL (tI (tI (tL (tI v 7 y_3) 8 y_4) 9 y_5) 10 y_6) 12 y_8), (2 : Int32))) else some ((tL (tI (tI (tL (tI v 7 y_3) 8 y_4) 9 y_5) 10 y_6) 12 y_8), (2 : Int32)))) else ((some (y_4 + (1 : Int64))).bind fun y_11 => (if (y_2 &&& (3 : Int64)) = (0 : Int64) then (if (y_4 * ((y_5 + y_6).toInt64)) ≤ (Vl v 11) then some ((tL (tI (tI (tL (tI v 7 y_3) 8 y_4) 9 y_5) 10 y_6) 12 y_11), (0 : Int32)) else some ((tL (tI (tI (tL (tI v 7 y_3) 8 y_4) 9 y_5) 10 y_6) 12 y_11), (2 : Int32))) else some ((tL (tI (tI (tL (tI v 7 y_3) 8 y_4) 9 y_5) 10 y_6) 12 y_11), (2 : Int32)))))))))) else none)
set_option maxHeartbeats 4000000 in
set_option maxRecDepth 100000 in
theorem ct_X6_measureTag (l : Launch) (D : va_G) (c4 : Nat → ClassId) (A : Nat → Prop) (z : Nat → Nat) (v : MS) (res : MS × Int32) (h : pX6_measureTag v = some res) : Met l yX6_measureTag (wz yX6_measureTag cX6_measureTag 3 (some .int)) ({ frames := 0, cells := 0, slots := 0, locals := 0 } : Room) (va_Pc [.ref (z 0)] (fun U => mPre D c4 A z v U)) (va_Qi (fun q w => res = (w, q)) (fun w t => wPre D c4 A (mW c4 z w) t) A) 0 0 A := by
  refine Met.ofW (cc := cX6_measureTag) (maxL := 3) (ret := (some .int)) (by decide) rfl ?_
  intro p e s m args below meth c s₁ B hml hv
  obtain ⟨rfl, hP, hD, hK, hA⟩ := hv
  have hx := B.exec
  have hb := B.bytes
  have hr := B.returns
  have hts := atoms_spec (ws := (wz yX6_measureTag cX6_measureTag 3 (some .int))) B.pre
  have hown : s.vm.findClass RX6 = some m.cls := findClass_of_methodNamed B.named
  have hlocks := B.notSynchronized
  have hS : va_S A s.heap s.heap [] := va_S.rf
  have hl := lv_entry ([.ref (z 0)]) (n := 3) (Nat.le_of_ble_eq_true rfl)
  rw [lg_entry_eq]
  generalize (lg_sl ([.ref (z 0)]) ++ List.replicate (3 - (lg_sl ([.ref (z 0)])).length) Slot.unset).toArray = ls at hl ⊢
  have hl : lv_has ls 3 [(0, .ref (z 0))] := hl
  unfold pX6_measureTag at h
  refine lv_aload_n hx hb dX6_measureTag_0 rfl (lv_at hl 0 rfl) ?_
  refine va_get (D := D) (ci := 5) (v := .ref (z 1)) (C := RX6) (T := TX6) (N := 33) hx hb hts (fun w h => wm (zin_X6 w h)) hown hK hP 0 rfl rfl 1 (by decide) (hts _ (wm zw_638)) (fun _ h9 => h9) rfl dX6_measureTag_1 ?_
  refine lv_bipush (v := (64 : Int32)) hx hb dX6_measureTag_4 (by decide) ?_
  refine lv_aload_n hx hb dX6_measureTag_6 rfl (lv_at hl 0 rfl) ?_
  refine va_get (D := D) (ci := 5) (v := .int (Vi v 6)) (C := RX6) (T := TX6) (N := 33) hx hb hts (fun w h => wm (zin_X6 w h)) hown hK hP 0 rfl rfl 6 (by decide) (hts _ (wm zw_643)) (fun _ h9 => h9) rfl dX6_measureTag_7 ?_
  refine lv_imul hx hb dX6_measureTag_10 ?_
  refine lv_aload_n hx hb dX6_measureTag_11 rfl (lv_at hl 0 rfl) ?_
  refine va_get (D := D) (ci := 5) (v := .int (Vi v 7)) (C := RX6) (T := TX6) (N := 33) hx hb hts (fun w h => wm (zin_X6 w h)) hown hK hP 0 rfl rfl 7 (by decide) (hts _ (wm zw_644)) (fun _ h9 => h9) rfl dX6_measureTag_12 ?_
  refine lv_iadd hx hb dX6_measureTag_15 ?_
  obtain ⟨hi_1, h⟩ := zb_if h
  refine va_lald hx hb hK hP 1 0 rfl rfl (inb_in hi_1) dX6_measureTag_16 ?_
  refine W.eq (g2 := F0 m 17 ls ([.long (Vr v 1 (((64 : Int32) * (Vi v 6)) + (Vi v 7)).toNatClampNeg)])) rfl ?_
  obtain ⟨y_2, e_2, h⟩ := zb_bind h
  try dsimp only at h
  refine zt_l (Option.some.inj e_2) ?_
  refine lv_lstore_n (lv' := [(1, .long y_2), (0, .ref (z 0))]) hx hb dX6_measureTag_17 rfl hl (by decide) rfl (fun ls hl => ?_)
  refine lv_aload_n hx hb dX6_measureTag_18 rfl (lv_at hl 1 rfl) ?_
  refine lv_dup hx hb dX6_measureTag_19 rfl ?_
  refine va_get (D := D) (ci := 5) (v := .int (Vi v 7)) (C := RX6) (T := TX6) (N := 33) hx hb hts (fun w h => wm (zin_X6 w h)) hown hK hP 0 rfl rfl 7 (by decide) (hts _ (wm zw_644)) (fun _ h9 => h9) rfl dX6_measureTag_20 ?_
  refine lv_iconst (v := (1 : Int32)) hx hb dX6_measureTag_23 (by decide) ?_
  refine lv_iadd hx hb dX6_measureTag_24 ?_
  obtain ⟨y_3, e_3, h⟩ := zb_bind h
  try dsimp only at h
  refine zt_i (Option.some.inj e_3) ?_
  refine va_put (D := D) (ci := 5) (v := .int y_3) (ty := .int) (C := RX6) (T := TX6) (N := 33) hx hb hts (fun w h => wm (zin_X6 w h)) tyX6 tyX6_ok nmX6 hown hK hP hD hS 0 rfl rfl 7 (by decide) (hts _ (wm zw_644)) (fun _ h9 => h9) rfl (by decide +kernel) rfl rfl (Nat.le_of_ble_eq_true rfl) dX6_measureTag_25 (fun H locs hP hD hS => ?_)
  have hP : va_P D vwCl (mW c4 z (tI v 7 y_3)) H := hP
  have hD : va_D A (mW c4 z (tI v 7 y_3)) := hD
  refine lv_aload_n hx hb dX6_measureTag_28 rfl (lv_at hl 1 rfl) ?_
  refine lv_lload_n hx hb dX6_measureTag_29 rfl (lv_at hl 0 rfl) ?_
  refine lv_iconst (v := (2 : Int32)) hx hb dX6_measureTag_30 (by decide) ?_
  refine lv_lushr hx hb dX6_measureTag_31 rfl ?_
  refine lv_ldc2 (v := (1073741823 : Int64)) hx hb hown (hts _ (wm zw_811)) dX6_measureTag_32 ?_
  refine lv_land hx hb dX6_measureTag_35 ?_
  obtain ⟨y_4, e_4, h⟩ := zb_bind h
  try dsimp only at h
  refine zt_l (Option.some.inj e_4) ?_
  refine va_put (D := D) (ci := 5) (v := .long y_4) (ty := .long) (C := RX6) (T := TX6) (N := 33) hx hb hts (fun w h => wm (zin_X6 w h)) tyX6 tyX6_ok nmX6 hown hK hP hD hS 0 rfl rfl 8 (by decide) (hts _ (wm zw_645)) (fun _ h9 => h9) rfl (by decide +kernel) rfl rfl (Nat.le_of_ble_eq_true rfl) dX6_measureTag_36 (fun H locs hP hD hS => ?_)
  have hP : va_P D vwCl (mW c4 z (tL (tI v 7 y_3) 8 y_4)) H := hP
  have hD : va_D A (mW c4 z (tL (tI v 7 y_3) 8 y_4)) := hD
  refine lv_aload_n hx hb dX6_measureTag_39 rfl (lv_at hl 1 rfl) ?_
  refine lv_lload_n hx hb dX6_measureTag_40 rfl (lv_at hl 0 rfl) ?_
  refine lv_bipush (v := (32 : Int32)) hx hb dX6_measureTag_41 (by decide) ?_
  refine lv_lushr hx hb dX6_measureTag_43 rfl ?_
  refine lv_ldc2 (v := (65535 : Int64)) hx hb hown (hts _ (wm zw_801)) dX6_measureTag_44 ?_
  refine lv_land hx hb dX6_measureTag_47 ?_
  refine lv_l2i hx hb dX6_measureTag_48 rfl ?_
  obtain ⟨y_5, e_5, h⟩ := zb_bind h
  try dsimp only at h
  refine zt_i (Option.some.inj e_5) ?_
  refine va_put (D := D) (ci := 5) (v := .int y_5) (ty := .int) (C := RX6) (T := TX6) (N := 33) hx hb hts (fun w h => wm (zin_X6 w h)) tyX6 tyX6_ok nmX6 hown hK hP hD hS 0 rfl rfl 9 (by decide) (hts _ (wm zw_646)) (fun _ h9 => h9) rfl (by decide +kernel) rfl rfl (Nat.le_of_ble_eq_true rfl) dX6_measureTag_49 (fun H locs hP hD hS => ?_)
  have hP : va_P D vwCl (mW c4 z (tI (tL (tI v 7 y_3) 8 y_4) 9 y_5)) H := hP
  have hD : va_D A (mW c4 z (tI (tL (tI v 7 y_3) 8 y_4) 9 y_5)) := hD
  refine lv_aload_n hx hb dX6_measureTag_52 rfl (lv_at hl 1 rfl) ?_
  refine lv_lload_n hx hb dX6_measureTag_53 rfl (lv_at hl 0 rfl) ?_
  refine lv_bipush (v := (48 : Int32)) hx hb dX6_measureTag_54 (by decide) ?_
  refine lv_lushr hx hb dX6_measureTag_56 rfl ?_
  refine lv_l2i hx hb dX6_measureTag_57 rfl ?_
  obtain ⟨y_6, e_6, h⟩ := zb_bind h
  try dsimp only at h
  refine zt_i (Option.some.inj e_6) ?_
  refine va_put (D := D) (ci := 5) (v := .int y_6) (ty := .int) (C := RX6) (T := TX6) (N := 33) hx hb hts (fun w h => wm (zin_X6 w h)) tyX6 tyX6_ok nmX6 hown hK hP hD hS 0 rfl rfl 10 (by decide) (hts _ (wm zw_647)) (fun _ h9 => h9) rfl (by decide +kernel) rfl rfl (Nat.le_of_ble_eq_true rfl) dX6_measureTag_58 (fun H locs hP hD hS => ?_)
  have hP : va_P D vwCl (mW c4 z (tI (tI (tL (tI v 7 y_3) 8 y_4) 9 y_5) 10 y_6)) H := hP
  have hD : va_D A (mW c4 z (tI (tI (tL (tI v 7 y_3) 8 y_4) 9 y_5) 10 y_6)) := hD
  refine lv_aload_n hx hb dX6_measureTag_61 rfl (lv_at hl 1 rfl) ?_
  refine lv_aload_n hx hb dX6_measureTag_62 rfl (lv_at hl 1 rfl) ?_
  refine va_get (D := D) (ci := 5) (v := .long y_4) (C := RX6) (T := TX6) (N := 33) hx hb hts (fun w h => wm (zin_X6 w h)) hown hK hP 0 rfl rfl 8 (by decide) (hts _ (wm zw_645)) (fun _ h9 => h9) rfl dX6_measureTag_63 ?_
  refine lv_aload_n hx hb dX6_measureTag_66 rfl (lv_at hl 1 rfl) ?_
  refine va_get (D := D) (ci := 5) (v := .long (Vl v 11)) (C := RX6) (T := TX6) (N := 33) hx hb hts (fun w h => wm (zin_X6 w h)) hown hK hP 0 rfl rfl 11 (by decide) (hts _ (wm zw_648)) (fun _ h9 => h9) rfl dX6_measureTag_67 ?_
  refine W.lcmp hx hb dX6_measureTag_70 ?_
  refine lv_if_le (tgt := 81) hx hb dX6_measureTag_71 (by decide) (fun c_7 => ?_) (fun c_7 => ?_)
  · skip
    have c_7 := (lg_cmp_le _ _).mp c_7
    rw [if_pos c_7] at h
    refine lv_aload_n hx hb dX6_measureTag_81 rfl (lv_at hl 1 rfl) ?_
    refine va_get (D := D) (ci := 5) (v := .long (Vl v 11)) (C := RX6) (T := TX6) (N := 33) hx hb hts (fun w h => wm (zin_X6 w h)) hown hK hP 0 rfl rfl 11 (by decide) (hts _ (wm zw_648)) (fun _ h9 => h9) rfl dX6_measureTag_82 ?_
    refine lv_lconst (v := (1 : Int64)) hx hb dX6_measureTag_85 (by decide) ?_
    refine lv_ladd hx hb dX6_measureTag_86 ?_
    obtain ⟨y_8, e_8, h⟩ := zb_bind h
    try dsimp only at h
    refine zt_l (Option.some.inj e_8) ?_
    refine va_put (D := D) (ci := 5) (v := .long y_8) (ty := .long) (C := RX6) (T := TX6) (N := 33) hx hb hts (fun w h => wm (zin_X6 w h)) tyX6 tyX6_ok nmX6 hown hK hP hD hS 0 rfl rfl 12 (by decide) (hts _ (wm zw_649)) (fun _ h9 => h9) rfl (by decide +kernel) rfl rfl (Nat.le_of_ble_eq_true rfl) dX6_measureTag_87 (fun H locs hP hD hS => ?_)
    have hP : va_P D vwCl (mW c4 z (tL (tI (tI (tL (tI v 7 y_3) 8 y_4) 9 y_5) 10 y_6) 12 y_8)) H := hP
    have hD : va_D A (mW c4 z (tL (tI (tI (tL (tI v 7 y_3) 8 y_4) 9 y_5) 10 y_6) 12 y_8)) := hD
    refine lv_lload_n hx hb dX6_measureTag_90 rfl (lv_at hl 0 rfl) ?_
    refine lv_ldc2 (v := (3 : Int64)) hx hb hown (hts _ (wm zw_789)) dX6_measureTag_91 ?_
    refine lv_land hx hb dX6_measureTag_94 ?_
    refine lv_lconst (v := (0 : Int64)) hx hb dX6_measureTag_95 (by decide) ?_
    refine W.lcmp hx hb dX6_measureTag_96 ?_
    refine lv_if_ne (tgt := 123) hx hb dX6_measureTag_97 (by decide) (fun c_9 => ?_) (fun c_9 => ?_)
    · skip
      have c_9 := mt (lg_cmp_eq _ _).mpr c_9
      rw [if_neg c_9] at h
      refine lv_iconst (v := (2 : Int32)) hx hb dX6_measureTag_123 (by decide) ?_
      refine lv_goto (tgt := 128) hx hb dX6_measureTag_124 (by decide) ?_
      exact W.iret (v := (2 : Int32)) hx hb hr (fun t ht hW => ⟨⟨(2 : Int32), (tL (tI (tI (tL (tI v 7 y_3) 8 y_4) 9 y_5) 10 y_6) 12 y_8), rfl, (Option.some.inj h).symm, wPre_go hP hD hK hA hS ht hW.alike⟩, hS.F ht⟩) hS.2.2 dX6_measureTag_128
    · skip
      have c_9 := (lg_cmp_eq _ _).mp c_9
      rw [if_pos c_9] at h
      refine lv_aload_n hx hb dX6_measureTag_100 rfl (lv_at hl 1 rfl) ?_
      refine va_get (D := D) (ci := 5) (v := .long y_4) (C := RX6) (T := TX6) (N := 33) hx hb hts (fun w h => wm (zin_X6 w h)) hown hK hP 0 rfl rfl 8 (by decide) (hts _ (wm zw_645)) (fun _ h9 => h9) rfl dX6_measureTag_101 ?_
      refine lv_aload_n hx hb dX6_measureTag_104 rfl (lv_at hl 1 rfl) ?_
      refine va_get (D := D) (ci := 5) (v := .int y_5) (C := RX6) (T := TX6) (N := 33) hx hb hts (fun w h => wm (zin_X6 w h)) hown hK hP 0 rfl rfl 9 (by decide) (hts _ (wm zw_646)) (fun _ h9 => h9) rfl dX6_measureTag_105 ?_
      refine lv_aload_n hx hb dX6_measureTag_108 rfl (lv_at hl 1 rfl) ?_
      refine va_get (D := D) (ci := 5) (v := .int y_6) (C := RX6) (T := TX6) (N := 33) hx hb hts (fun w h => wm (zin_X6 w h)) hown hK hP 0 rfl rfl 10 (by decide) (hts _ (wm zw_647)) (fun _ h9 => h9) rfl dX6_measureTag_109 ?_
      refine lv_iadd hx hb dX6_measureTag_112 ?_
      refine lv_i2l hx hb dX6_measureTag_113 rfl ?_
      refine lv_lmul hx hb dX6_measureTag_114 ?_
      refine lv_aload_n hx hb dX6_measureTag_115 rfl (lv_at hl 1 rfl) ?_
      refine va_get (D := D) (ci := 5) (v := .long (Vl v 11)) (C := RX6) (T := TX6) (N := 33) hx hb hts (fun w h => wm (zin_X6 w h)) hown hK hP 0 rfl rfl 11 (by decide) (hts _ (wm zw_648)) (fun _ h9 => h9) rfl dX6_measureTag_116 ?_
      refine W.lcmp hx hb dX6_measureTag_119 ?_
      refine lv_if_le (tgt := 127) hx hb dX6_measureTag_120 (by decide) (fun c_10 => ?_) (fun c_10 => ?_)
      · skip
        have c_10 := (lg_cmp_le _ _).mp c_10
        rw [if_pos c_10] at h
        refine lv_iconst (v := (0 : Int32)) hx hb dX6_measureTag_127 (by decide) ?_
        exact W.iret (v := (0 : Int32)) hx hb hr (fun t ht hW => ⟨⟨(0 : Int32), (tL (tI (tI (tL (tI v 7 y_3) 8 y_4) 9 y_5) 10 y_6) 12 y_8), rfl, (Option.some.inj h).symm, wPre_go hP hD hK hA hS ht hW.alike⟩, hS.F ht⟩) hS.2.2 dX6_measureTag_128
      · skip
        have c_10 := mt (lg_cmp_le _ _).mpr c_10
        rw [if_neg c_10] at h
        refine lv_iconst (v := (2 : Int32)) hx hb dX6_measureTag_123 (by decide) ?_
        refine lv_goto (tgt := 128) hx hb dX6_measureTag_124 (by decide) ?_
        exact W.iret (v := (2 : Int32)) hx hb hr (fun t ht hW => ⟨⟨(2 : Int32), (tL (tI (tI (tL (tI v 7 y_3) 8 y_4) 9 y_5) 10 y_6) 12 y_8), rfl, (Option.some.inj h).symm, wPre_go hP hD hK hA hS ht hW.alike⟩, hS.F ht⟩) hS.2.2 dX6_measureTag_128
  · skip
    have c_7 := mt (lg_cmp_le _ _).mpr c_7
    rw [if_neg c_7] at h
    refine lv_aload_n hx hb dX6_measureTag_74 rfl (lv_at hl 1 rfl) ?_
    refine va_get (D := D) (ci := 5) (v := .long y_4) (C := RX6) (T := TX6) (N := 33) hx hb hts (fun w h => wm (zin_X6 w h)) hown hK hP 0 rfl rfl 8 (by decide) (hts _ (wm zw_645)) (fun _ h9 => h9) rfl dX6_measureTag_75 ?_
    refine lv_goto (tgt := 85) hx hb dX6_measureTag_78 (by decide) ?_
    refine lv_lconst (v := (1 : Int64)) hx hb dX6_measureTag_85 (by decide) ?_
    refine lv_ladd hx hb dX6_measureTag_86 ?_
    obtain ⟨y_11, e_11, h⟩ := zb_bind h
    try dsimp only at h
    refine zt_l (Option.some.inj e_11) ?_
    refine va_put (D := D) (ci := 5) (v := .long y_11) (ty := .long) (C := RX6) (T := TX6) (N := 33) hx hb hts (fun w h => wm (zin_X6 w h)) tyX6 tyX6_ok nmX6 hown hK hP hD hS 0 rfl rfl 12 (by decide) (hts _ (wm zw_649)) (fun _ h9 => h9) rfl (by decide +kernel) rfl rfl (Nat.le_of_ble_eq_true rfl) dX6_measureTag_87 (fun H locs hP hD hS => ?_)
    have hP : va_P D vwCl (mW c4 z (tL (tI (tI (tL (tI v 7 y_3) 8 y_4) 9 y_5) 10 y_6) 12 y_11)) H := hP
    have hD : va_D A (mW c4 z (tL (tI (tI (tL (tI v 7 y_3) 8 y_4) 9 y_5) 10 y_6) 12 y_11)) := hD
    refine lv_lload_n hx hb dX6_measureTag_90 rfl (lv_at hl 0 rfl) ?_
    refine lv_ldc2 (v := (3 : Int64)) hx hb hown (hts _ (wm zw_789)) dX6_measureTag_91 ?_
    refine lv_land hx hb dX6_measureTag_94 ?_
    refine lv_lconst (v := (0 : Int64)) hx hb dX6_measureTag_95 (by decide) ?_
    refine W.lcmp hx hb dX6_measureTag_96 ?_
    refine lv_if_ne (tgt := 123) hx hb dX6_measureTag_97 (by decide) (fun c_12 => ?_) (fun c_12 => ?_)
    · skip
      have c_12 := mt (lg_cmp_eq _ _).mpr c_12
      rw [if_neg c_12] at h
      refine lv_iconst (v := (2 : Int32)) hx hb dX6_measureTag_123 (by decide) ?_
      refine lv_goto (tgt := 128) hx hb dX6_measureTag_124 (by decide) ?_
      exact W.iret (v := (2 : Int32)) hx hb hr (fun t ht hW => ⟨⟨(2 : Int32), (tL (tI (tI (tL (tI v 7 y_3) 8 y_4) 9 y_5) 10 y_6) 12 y_11), rfl, (Option.some.inj h).symm, wPre_go hP hD hK hA hS ht hW.alike⟩, hS.F ht⟩) hS.2.2 dX6_measureTag_128
    · skip
      have c_12 := (lg_cmp_eq _ _).mp c_12
      rw [if_pos c_12] at h
      refine lv_aload_n hx hb dX6_measureTag_100 rfl (lv_at hl 1 rfl) ?_
      refine va_get (D := D) (ci := 5) (v := .long y_4) (C := RX6) (T := TX6) (N := 33) hx hb hts (fun w h => wm (zin_X6 w h)) hown hK hP 0 rfl rfl 8 (by decide) (hts _ (wm zw_645)) (fun _ h9 => h9) rfl dX6_measureTag_101 ?_
      refine lv_aload_n hx hb dX6_measureTag_104 rfl (lv_at hl 1 rfl) ?_
      refine va_get (D := D) (ci := 5) (v := .int y_5) (C := RX6) (T := TX6) (N := 33) hx hb hts (fun w h => wm (zin_X6 w h)) hown hK hP 0 rfl rfl 9 (by decide) (hts _ (wm zw_646)) (fun _ h9 => h9) rfl dX6_measureTag_105 ?_
      refine lv_aload_n hx hb dX6_measureTag_108 rfl (lv_at hl 1 rfl) ?_
      refine va_get (D := D) (ci := 5) (v := .int y_6) (C := RX6) (T := TX6) (N := 33) hx hb hts (fun w h => wm (zin_X6 w h)) hown hK hP 0 rfl rfl 10 (by decide) (hts _ (wm zw_647)) (fun _ h9 => h9) rfl dX6_measureTag_109 ?_
      refine lv_iadd hx hb dX6_measureTag_112 ?_
      refine lv_i2l hx hb dX6_measureTag_113 rfl ?_
      refine lv_lmul hx hb dX6_measureTag_114 ?_
      refine lv_aload_n hx hb dX6_measureTag_115 rfl (lv_at hl 1 rfl) ?_
      refine va_get (D := D) (ci := 5) (v := .long (Vl v 11)) (C := RX6) (T := TX6) (N := 33) hx hb hts (fun w h => wm (zin_X6 w h)) hown hK hP 0 rfl rfl 11 (by decide) (hts _ (wm zw_648)) (fun _ h9 => h9) rfl dX6_measureTag_116 ?_
      refine W.lcmp hx hb dX6_measureTag_119 ?_
      refine lv_if_le (tgt := 127) hx hb dX6_measureTag_120 (by decide) (fun c_13 => ?_) (fun c_13 => ?_)
      · skip
        have c_13 := (lg_cmp_le _ _).mp c_13
        rw [if_pos c_13] at h
        refine lv_iconst (v := (0 : Int32)) hx hb dX6_measureTag_127 (by decide) ?_
        exact W.iret (v := (0 : Int32)) hx hb hr (fun t ht hW => ⟨⟨(0 : Int32), (tL (tI (tI (tL (tI v 7 y_3) 8 y_4) 9 y_5) 10 y_6) 12 y_11), rfl, (Option.some.inj h).symm, wPre_go hP hD hK hA hS ht hW.alike⟩, hS.F ht⟩) hS.2.2 dX6_measureTag_128
      · skip
        have c_13 := mt (lg_cmp_le _ _).mpr c_13
        rw [if_neg c_13] at h
        refine lv_iconst (v := (2 : Int32)) hx hb dX6_measureTag_123 (by decide) ?_
        refine lv_goto (tgt := 128) hx hb dX6_measureTag_124 (by decide) ?_
        exact W.iret (v := (2 : Int32)) hx hb hr (fun t ht hW => ⟨⟨(2 : Int32), (tL (tI (tI (tL (tI v 7 y_3) 8 y_4) 9 y_5) 10 y_6) 12 y_11), rfl, (Option.some.inj h).symm, wPre_go hP hD hK hA hS ht hW.alike⟩, hS.F ht⟩) hS.2.2 dX6_measureTag_128
def pX6_follow_141 (v : MS) (x0 : Int64) (x1 : Int64) (x2 : Int32) (x3 : Int32) : Option (MS × Int32) := (if x3 = 0 then some (v, (2 : Int32)) else (if inb (((64 : Int32) * (x0.toInt32)) + (x1.toInt32)) 256 = true then ((some (Vr v 1 (((64 : Int32) * (x0.toInt32)) + (x1.toInt32)).toNatClampNeg)).bind fun y_3 => (if x2 = 0 then ((some (((x1.toInt32) + (1 : Int32)) + (pX6_offset y_3))).bind fun y_14 => (if (pX6_isPad y_3) = 0 then some ((tL (tI (tI v 6 (x0.toInt32)) 7 y_14) 11 y_3), (2 : Int32)) else some ((tL (tI (tI v 6 (x0.toInt32)) 7 y_14) 11 y_3), (0 : Int32)))) else (if inb ((((64 : Int32) * (x0.toInt32)) + (x1.toInt32)) + (1 : Int32)) 256 = true then ((some (Vr v 1 ((((64 : Int32) * (x0.toInt32)) + (x1.toInt32)) + (1 : Int32)).toNatClampNeg)).bind fun y_6 => (if (y_3 &&& (7 : Int64)) = (2 : Int64) then (if (pX6_isPad y_6) = 0 then some ((tL v 11 y_6), (2 : Int32)) else (if ((y_3.toUInt64 >>> ((32 : Int32).toInt64.toUInt64 &&& Int64.toUInt64 63)).toInt64) ≤ (3 : Int64) then ((some (((y_3.toUInt64 >>> ((32 : Int32).toInt64.toUInt64 &&& Int64.toUInt64 63)).toInt64).toInt32)).bind fun y_11 => ((some ((((y_3.toUInt64 >>> ((3 : Int32).toInt64.toUInt64 &&& Int64.toUInt64 63)).toInt64) &&& (536870911 : Int64)).toInt32)).bind fun y_12 => some ((tI (tI (tL v 11 y_6) 6 y_11) 7 y_12), (0 : Int32)))) else some ((tL v 11 y_6), (1 : Int32)))) else some ((tL v 11 y_6), (2 : Int32)))) else none))) else none))
def pX6_follow_125 (v : MS) (x0 : Int64) (x1 : Int64) (x2 : Int32) (x3 : Int32) (y0 : Int64) (y1 : Int64) : Option (MS × Int32) := (if inb (x0.toInt32) 4 = true then (if (y1 + y0) < ((Va v 2 (x0.toInt32).toNatClampNeg).toInt64) then pX6_follow_141 v x0 x1 x2 x3 else some (v, (1 : Int32))) else none)
def pX6_follow_97 (v : MS) (x0 : Int64) (x1 : Int64) (x2 : Int32) (y0 : Int32) : Option (MS × Int32) := (if y0 = 0 then pX6_follow_141 v x0 x1 x2 y0 else (if (3 : Int64) < x0 then some (v, (1 : Int32)) else (if x2 = 0 then pX6_follow_125 v x0 x1 x2 y0 (0 : Int64) x1 else pX6_follow_125 v x0 x1 x2 y0 (1 : Int64) x1)))
def pX6_follow_78 (v : MS) (x0 : Int64) (x1 : Int64) (x2 : Int64) (y0 : Int32) : Option (MS × Int32) := (if (x0 &&& (3 : Int64)) = (2 : Int64) then pX6_follow_97 v x1 x2 y0 (1 : Int32) else pX6_follow_97 v x1 x2 y0 (0 : Int32))
def pX6_follow (v : MS) (a1 : Int32) (a2 : Int32) : Option (MS × Int32) := (if inb (((64 : Int32) * a1) + a2) 256 = true then ((some (Vr v 1 (((64 : Int32) * a1) + a2).toNatClampNeg)).bind fun y_24 => ((some ((a2 + (1 : Int32)) + (pX6_offset y_24))).bind fun y_26 => (if (2 : Int64) ≤ (y_24 &&& (3 : Int64)) then ((some ((y_24.toUInt64 >>> ((32 : Int32).toInt64.toUInt64 &&& Int64.toUInt64 63)).toInt64)).bind fun y_28 => ((some (((y_24.toUInt64 >>> ((3 : Int32).toInt64.toUInt64 &&& Int64.toUInt64 63)).toInt64) &&& (536870911 : Int64))).bind fun y_29 => (if (y_24 &&& (4 : Int64)) = (0 : Int64) then pX6_follow_78 (tL (tI (tI v 6 a1) 7 y_26) 11 y_24) y_24 y_28 y_29 (0 : Int32) else pX6_follow_78 (tL (tI (tI v 6 a1) 7 y_26) 11 y_24) y_24 y_28 y_29 (1 : Int32)))) else some ((tL (tI (tI v 6 a1) 7 y_26) 11 y_24), (0 : Int32))))) else none)
set_option maxHeartbeats 4000000 in
set_option maxRecDepth 100000 in
theorem ct_X6_follow (l : Launch) (D : va_G) (c4 : Nat → ClassId) (A : Nat → Prop) (z : Nat → Nat) (v : MS) (a1 : Int32) (a2 : Int32) (res : MS × Int32) (h : pX6_follow v a1 a2 = some res) : Met l yX6_follow (wz yX6_follow cX6_follow 13 (some .int)) ({ frames := 1, cells := 0, slots := 0, locals := 21 } : Room) (va_Pc [.ref (z 0), .int a1, .int a2] (fun U => mPre D c4 A z v U)) (va_Qi (fun q w => res = (w, q)) (fun w t => wPre D c4 A (mW c4 z w) t) A) 0 0 A := by
  refine Met.ofW (cc := cX6_follow) (maxL := 13) (ret := (some .int)) (by decide) rfl ?_
  intro p e s m args below meth c s₁ B hml hv
  obtain ⟨rfl, hP, hD, hK, hA⟩ := hv
  have hx := B.exec
  have hb := B.bytes
  have hr := B.returns
  have hts := atoms_spec (ws := (wz yX6_follow cX6_follow 13 (some .int))) B.pre
  have hown : s.vm.findClass RX6 = some m.cls := findClass_of_methodNamed B.named
  have hlocks := B.notSynchronized
  have hS : va_S A s.heap s.heap [] := va_S.rf
  have hl := lv_entry ([.ref (z 0), .int a1, .int a2]) (n := 13) (Nat.le_of_ble_eq_true rfl)
  rw [lg_entry_eq]
  generalize (lg_sl ([.ref (z 0), .int a1, .int a2]) ++ List.replicate (13 - (lg_sl ([.ref (z 0), .int a1, .int a2])).length) Slot.unset).toArray = ls at hl ⊢
  have hl : lv_has ls 13 [(0, .ref (z 0)), (1, .int a1), (2, .int a2)] := hl
  have k_141 : ∀ (v : MS) (H : Heap) (locs : List Loc) (x0 : Int64) (x1 : Int64) (x2 : Int32) (x3 : Int32), va_P D vwCl (mW c4 z v) H → va_D A (mW c4 z v) → va_S A s.heap H locs → ∀ (ls : Array Slot), lv_has ls 13 [(0, .ref (z 0)), (5, .long x0), (7, .long x1), (9, .int x2), (10, .int x3)] → pX6_follow_141 v x0 x1 x2 x3 = some res → W p l e ({ frames := 1, cells := 0, slots := 0, locals := 21 } : Room) s m ([.ref (z 0), .int a1, .int a2] : List Value).toArray below meth c H locs 0 0 (MQ below (va_Qi (fun q w => res = (w, q)) (fun w t => wPre D c4 A (mW c4 z w) t) A) ([.ref (z 0), .int a1, .int a2] : List Value).toArray s 0 0 A) (F0 m 141 ls []) := by
    intro v H locs x0 x1 x2 x3 hP hD hS ls hl h
    unfold pX6_follow_141 at h
    refine lv_iload hx hb dX6_follow_141 (lv_at hl 4 rfl) ?_
    refine lv_if_ne (tgt := 148) hx hb dX6_follow_143 (by decide) (fun c_1 => ?_) (fun c_1 => ?_)
    · skip
      rw [if_neg c_1] at h
      refine lv_aload_n hx hb dX6_follow_148 rfl (lv_at hl 0 rfl) ?_
      refine va_get (D := D) (ci := 5) (v := .ref (z 1)) (C := RX6) (T := TX6) (N := 33) hx hb hts (fun w h => wm (zin_X6 w h)) hown hK hP 0 rfl rfl 1 (by decide) (hts _ (wm zw_638)) (fun _ h9 => h9) rfl dX6_follow_149 ?_
      refine lv_bipush (v := (64 : Int32)) hx hb dX6_follow_152 (by decide) ?_
      refine lv_lload hx hb dX6_follow_154 (lv_at hl 1 rfl) ?_
      refine lv_l2i hx hb dX6_follow_156 rfl ?_
      refine lv_imul hx hb dX6_follow_157 ?_
      refine lv_lload hx hb dX6_follow_158 (lv_at hl 2 rfl) ?_
      refine lv_l2i hx hb dX6_follow_160 rfl ?_
      refine lv_iadd hx hb dX6_follow_161 ?_
      obtain ⟨hi_2, h⟩ := zb_if h
      refine va_lald hx hb hK hP 1 0 rfl rfl (inb_in hi_2) dX6_follow_162 ?_
      refine W.eq (g2 := F0 m 163 ls ([.long (Vr v 1 (((64 : Int32) * (x0.toInt32)) + (x1.toInt32)).toNatClampNeg)])) rfl ?_
      obtain ⟨y_3, e_3, h⟩ := zb_bind h
      try dsimp only at h
      refine zt_l (Option.some.inj e_3) ?_
      refine lv_lstore (lv' := [(11, .long y_3), (0, .ref (z 0)), (5, .long x0), (7, .long x1), (9, .int x2), (10, .int x3)]) hx hb dX6_follow_163 hl (by decide) rfl (fun ls hl => ?_)
      refine lv_iload hx hb dX6_follow_165 (lv_at hl 4 rfl) ?_
      refine lv_if_ne (tgt := 212) hx hb dX6_follow_167 (by decide) (fun c_4 => ?_) (fun c_4 => ?_)
      · skip
        rw [if_neg c_4] at h
        refine lv_aload_n hx hb dX6_follow_212 rfl (lv_at hl 1 rfl) ?_
        refine lv_aload_n hx hb dX6_follow_213 rfl (lv_at hl 1 rfl) ?_
        refine va_get (D := D) (ci := 5) (v := .ref (z 1)) (C := RX6) (T := TX6) (N := 33) hx hb hts (fun w h => wm (zin_X6 w h)) hown hK hP 0 rfl rfl 1 (by decide) (hts _ (wm zw_638)) (fun _ h9 => h9) rfl dX6_follow_214 ?_
        refine lv_bipush (v := (64 : Int32)) hx hb dX6_follow_217 (by decide) ?_
        refine lv_lload hx hb dX6_follow_219 (lv_at hl 2 rfl) ?_
        refine lv_l2i hx hb dX6_follow_221 rfl ?_
        refine lv_imul hx hb dX6_follow_222 ?_
        refine lv_lload hx hb dX6_follow_223 (lv_at hl 3 rfl) ?_
        refine lv_l2i hx hb dX6_follow_225 rfl ?_
        refine lv_iadd hx hb dX6_follow_226 ?_
        refine lv_iconst (v := (1 : Int32)) hx hb dX6_follow_227 (by decide) ?_
        refine lv_iadd hx hb dX6_follow_228 ?_
        obtain ⟨hi_5, h⟩ := zb_if h
        refine va_lald hx hb hK hP 1 0 rfl rfl (inb_in hi_5) dX6_follow_229 ?_
        refine W.eq (g2 := F0 m 230 ls ([.long (Vr v 1 ((((64 : Int32) * (x0.toInt32)) + (x1.toInt32)) + (1 : Int32)).toNatClampNeg), .ref (z 0)])) rfl ?_
        obtain ⟨y_6, e_6, h⟩ := zb_bind h
        try dsimp only at h
        refine zt_l (Option.some.inj e_6) ?_
        refine va_put (D := D) (ci := 5) (v := .long y_6) (ty := .long) (C := RX6) (T := TX6) (N := 33) hx hb hts (fun w h => wm (zin_X6 w h)) tyX6 tyX6_ok nmX6 hown hK hP hD hS 0 rfl rfl 11 (by decide) (hts _ (wm zw_648)) (fun _ h9 => h9) rfl (by decide +kernel) rfl rfl (Nat.le_of_ble_eq_true rfl) dX6_follow_230 (fun H locs hP hD hS => ?_)
        have hP : va_P D vwCl (mW c4 z (tL v 11 y_6)) H := hP
        have hD : va_D A (mW c4 z (tL v 11 y_6)) := hD
        refine lv_lload hx hb dX6_follow_233 (lv_at hl 0 rfl) ?_
        refine lv_ldc2 (v := (7 : Int64)) hx hb hown (hts _ (wm zw_796)) dX6_follow_235 ?_
        refine lv_land hx hb dX6_follow_238 ?_
        refine lv_ldc2 (v := (2 : Int64)) hx hb hown (hts _ (wm zw_790)) dX6_follow_239 ?_
        refine W.lcmp hx hb dX6_follow_242 ?_
        refine lv_if_ne (tgt := 256) hx hb dX6_follow_243 (by decide) (fun c_7 => ?_) (fun c_7 => ?_)
        · skip
          have c_7 := mt (lg_cmp_eq _ _).mpr c_7
          rw [if_neg c_7] at h
          refine lv_iconst (v := (2 : Int32)) hx hb dX6_follow_256 (by decide) ?_
          exact W.iret (v := (2 : Int32)) hx hb hr (fun t ht hW => ⟨⟨(2 : Int32), (tL v 11 y_6), rfl, (Option.some.inj h).symm, wPre_go hP hD hK hA hS ht hW.alike⟩, hS.F ht⟩) hS.2.2 dX6_follow_257
        · skip
          have c_7 := (lg_cmp_eq _ _).mp c_7
          rw [if_pos c_7] at h
          refine lv_aload_n hx hb dX6_follow_246 rfl (lv_at hl 1 rfl) ?_
          refine va_get (D := D) (ci := 5) (v := .long y_6) (C := RX6) (T := TX6) (N := 33) hx hb hts (fun w h => wm (zin_X6 w h)) hown hK hP 0 rfl rfl 11 (by decide) (hts _ (wm zw_648)) (fun _ h9 => h9) rfl dX6_follow_247 ?_
          refine vp_callSi (W.runS (As := [.long y_6]) (rest := []) ⟨hx, hb, hml, hown, hts⟩ (ct_X6_isPad l y_6 _ rfl) (va_cwS 1 hts (wz_S zw_793 zw_794 zw_6 zw_795) rfl rfl rfl (by decide +kernel) ⟨Nat.le_of_ble_eq_true rfl, Nat.le_of_ble_eq_true rfl⟩) ⟨fbN, fun U9 hU hW => ⟨rfl, trivial⟩⟩ rfl rfl hl.1 rfl (lv_room (Nat.le_of_ble_eq_true rfl)) dX6_follow_250 ⟨Nat.le_of_ble_eq_true rfl, Nat.le_of_ble_eq_true rfl⟩) (fun r_8 e_8 => ?_)
          subst e_8
          refine lv_if_ne (tgt := 258) hx hb dX6_follow_253 (by decide) (fun c_9 => ?_) (fun c_9 => ?_)
          · skip
            rw [if_neg c_9] at h
            refine lv_lload hx hb dX6_follow_258 (lv_at hl 0 rfl) ?_
            refine lv_bipush (v := (32 : Int32)) hx hb dX6_follow_260 (by decide) ?_
            refine lv_lushr hx hb dX6_follow_262 rfl ?_
            refine lv_ldc2 (v := (3 : Int64)) hx hb hown (hts _ (wm zw_789)) dX6_follow_263 ?_
            refine W.lcmp hx hb dX6_follow_266 ?_
            refine lv_if_le (tgt := 272) hx hb dX6_follow_267 (by decide) (fun c_10 => ?_) (fun c_10 => ?_)
            · skip
              have c_10 := (lg_cmp_le _ _).mp c_10
              rw [if_pos c_10] at h
              refine lv_aload_n hx hb dX6_follow_272 rfl (lv_at hl 1 rfl) ?_
              refine lv_lload hx hb dX6_follow_273 (lv_at hl 0 rfl) ?_
              refine lv_bipush (v := (32 : Int32)) hx hb dX6_follow_275 (by decide) ?_
              refine lv_lushr hx hb dX6_follow_277 rfl ?_
              refine lv_l2i hx hb dX6_follow_278 rfl ?_
              obtain ⟨y_11, e_11, h⟩ := zb_bind h
              try dsimp only at h
              refine zt_i (Option.some.inj e_11) ?_
              refine va_put (D := D) (ci := 5) (v := .int y_11) (ty := .int) (C := RX6) (T := TX6) (N := 33) hx hb hts (fun w h => wm (zin_X6 w h)) tyX6 tyX6_ok nmX6 hown hK hP hD hS 0 rfl rfl 6 (by decide) (hts _ (wm zw_643)) (fun _ h9 => h9) rfl (by decide +kernel) rfl rfl (Nat.le_of_ble_eq_true rfl) dX6_follow_279 (fun H locs hP hD hS => ?_)
              have hP : va_P D vwCl (mW c4 z (tI (tL v 11 y_6) 6 y_11)) H := hP
              have hD : va_D A (mW c4 z (tI (tL v 11 y_6) 6 y_11)) := hD
              refine lv_aload_n hx hb dX6_follow_282 rfl (lv_at hl 1 rfl) ?_
              refine lv_lload hx hb dX6_follow_283 (lv_at hl 0 rfl) ?_
              refine lv_iconst (v := (3 : Int32)) hx hb dX6_follow_285 (by decide) ?_
              refine lv_lushr hx hb dX6_follow_286 rfl ?_
              refine lv_ldc2 (v := (536870911 : Int64)) hx hb hown (hts _ (wm zw_791)) dX6_follow_287 ?_
              refine lv_land hx hb dX6_follow_290 ?_
              refine lv_l2i hx hb dX6_follow_291 rfl ?_
              obtain ⟨y_12, e_12, h⟩ := zb_bind h
              try dsimp only at h
              refine zt_i (Option.some.inj e_12) ?_
              refine va_put (D := D) (ci := 5) (v := .int y_12) (ty := .int) (C := RX6) (T := TX6) (N := 33) hx hb hts (fun w h => wm (zin_X6 w h)) tyX6 tyX6_ok nmX6 hown hK hP hD hS 0 rfl rfl 7 (by decide) (hts _ (wm zw_644)) (fun _ h9 => h9) rfl (by decide +kernel) rfl rfl (Nat.le_of_ble_eq_true rfl) dX6_follow_292 (fun H locs hP hD hS => ?_)
              have hP : va_P D vwCl (mW c4 z (tI (tI (tL v 11 y_6) 6 y_11) 7 y_12)) H := hP
              have hD : va_D A (mW c4 z (tI (tI (tL v 11 y_6) 6 y_11) 7 y_12)) := hD
              refine lv_iconst (v := (0 : Int32)) hx hb dX6_follow_295 (by decide) ?_
              exact W.iret (v := (0 : Int32)) hx hb hr (fun t ht hW => ⟨⟨(0 : Int32), (tI (tI (tL v 11 y_6) 6 y_11) 7 y_12), rfl, (Option.some.inj h).symm, wPre_go hP hD hK hA hS ht hW.alike⟩, hS.F ht⟩) hS.2.2 dX6_follow_296
            · skip
              have c_10 := mt (lg_cmp_le _ _).mpr c_10
              rw [if_neg c_10] at h
              refine lv_iconst (v := (1 : Int32)) hx hb dX6_follow_270 (by decide) ?_
              exact W.iret (v := (1 : Int32)) hx hb hr (fun t ht hW => ⟨⟨(1 : Int32), (tL v 11 y_6), rfl, (Option.some.inj h).symm, wPre_go hP hD hK hA hS ht hW.alike⟩, hS.F ht⟩) hS.2.2 dX6_follow_271
          · skip
            rw [if_pos c_9] at h
            refine lv_iconst (v := (2 : Int32)) hx hb dX6_follow_256 (by decide) ?_
            exact W.iret (v := (2 : Int32)) hx hb hr (fun t ht hW => ⟨⟨(2 : Int32), (tL v 11 y_6), rfl, (Option.some.inj h).symm, wPre_go hP hD hK hA hS ht hW.alike⟩, hS.F ht⟩) hS.2.2 dX6_follow_257
      · skip
        rw [if_pos c_4] at h
        refine lv_aload_n hx hb dX6_follow_170 rfl (lv_at hl 1 rfl) ?_
        refine lv_lload hx hb dX6_follow_171 (lv_at hl 2 rfl) ?_
        refine lv_l2i hx hb dX6_follow_173 rfl ?_
        refine va_put (D := D) (ci := 5) (v := .int (x0.toInt32)) (ty := .int) (C := RX6) (T := TX6) (N := 33) hx hb hts (fun w h => wm (zin_X6 w h)) tyX6 tyX6_ok nmX6 hown hK hP hD hS 0 rfl rfl 6 (by decide) (hts _ (wm zw_643)) (fun _ h9 => h9) rfl (by decide +kernel) rfl rfl (Nat.le_of_ble_eq_true rfl) dX6_follow_174 (fun H locs hP hD hS => ?_)
        have hP : va_P D vwCl (mW c4 z (tI v 6 (x0.toInt32))) H := hP
        have hD : va_D A (mW c4 z (tI v 6 (x0.toInt32))) := hD
        refine lv_aload_n hx hb dX6_follow_177 rfl (lv_at hl 1 rfl) ?_
        refine lv_lload hx hb dX6_follow_178 (lv_at hl 3 rfl) ?_
        refine lv_l2i hx hb dX6_follow_180 rfl ?_
        refine lv_iconst (v := (1 : Int32)) hx hb dX6_follow_181 (by decide) ?_
        refine lv_iadd hx hb dX6_follow_182 ?_
        refine lv_lload hx hb dX6_follow_183 (lv_at hl 0 rfl) ?_
        refine vp_callSi (W.runS (As := [.long y_3]) (rest := [.int ((x1.toInt32) + (1 : Int32)), .ref (z 0)]) ⟨hx, hb, hml, hown, hts⟩ (ct_X6_offset l y_3 _ rfl) (va_cwS 1 hts (wz_S zw_786 zw_787 zw_6 zw_788) rfl rfl rfl (by decide +kernel) ⟨Nat.le_of_ble_eq_true rfl, Nat.le_of_ble_eq_true rfl⟩) ⟨fbN, fun U9 hU hW => ⟨rfl, trivial⟩⟩ rfl rfl hl.1 rfl (lv_room (Nat.le_of_ble_eq_true rfl)) dX6_follow_185 ⟨Nat.le_of_ble_eq_true rfl, Nat.le_of_ble_eq_true rfl⟩) (fun r_13 e_13 => ?_)
        subst e_13
        refine lv_iadd hx hb dX6_follow_188 ?_
        obtain ⟨y_14, e_14, h⟩ := zb_bind h
        try dsimp only at h
        refine zt_i (Option.some.inj e_14) ?_
        refine va_put (D := D) (ci := 5) (v := .int y_14) (ty := .int) (C := RX6) (T := TX6) (N := 33) hx hb hts (fun w h => wm (zin_X6 w h)) tyX6 tyX6_ok nmX6 hown hK hP hD hS 0 rfl rfl 7 (by decide) (hts _ (wm zw_644)) (fun _ h9 => h9) rfl (by decide +kernel) rfl rfl (Nat.le_of_ble_eq_true rfl) dX6_follow_189 (fun H locs hP hD hS => ?_)
        have hP : va_P D vwCl (mW c4 z (tI (tI v 6 (x0.toInt32)) 7 y_14)) H := hP
        have hD : va_D A (mW c4 z (tI (tI v 6 (x0.toInt32)) 7 y_14)) := hD
        refine lv_aload_n hx hb dX6_follow_192 rfl (lv_at hl 1 rfl) ?_
        refine lv_lload hx hb dX6_follow_193 (lv_at hl 0 rfl) ?_
        refine va_put (D := D) (ci := 5) (v := .long y_3) (ty := .long) (C := RX6) (T := TX6) (N := 33) hx hb hts (fun w h => wm (zin_X6 w h)) tyX6 tyX6_ok nmX6 hown hK hP hD hS 0 rfl rfl 11 (by decide) (hts _ (wm zw_648)) (fun _ h9 => h9) rfl (by decide +kernel) rfl rfl (Nat.le_of_ble_eq_true rfl) dX6_follow_195 (fun H locs hP hD hS => ?_)
        have hP : va_P D vwCl (mW c4 z (tL (tI (tI v 6 (x0.toInt32)) 7 y_14) 11 y_3)) H := hP
        have hD : va_D A (mW c4 z (tL (tI (tI v 6 (x0.toInt32)) 7 y_14) 11 y_3)) := hD
        refine lv_lload hx hb dX6_follow_198 (lv_at hl 0 rfl) ?_
        refine vp_callSi (W.runS (As := [.long y_3]) (rest := []) ⟨hx, hb, hml, hown, hts⟩ (ct_X6_isPad l y_3 _ rfl) (va_cwS 1 hts (wz_S zw_793 zw_794 zw_6 zw_795) rfl rfl rfl (by decide +kernel) ⟨Nat.le_of_ble_eq_true rfl, Nat.le_of_ble_eq_true rfl⟩) ⟨fbN, fun U9 hU hW => ⟨rfl, trivial⟩⟩ rfl rfl hl.1 rfl (lv_room (Nat.le_of_ble_eq_true rfl)) dX6_follow_200 ⟨Nat.le_of_ble_eq_true rfl, Nat.le_of_ble_eq_true rfl⟩) (fun r_15 e_15 => ?_)
        subst e_15
        refine lv_if_eq (tgt := 210) hx hb dX6_follow_203 (by decide) (fun c_16 => ?_) (fun c_16 => ?_)
        · skip
          rw [if_pos c_16] at h
          refine lv_iconst (v := (2 : Int32)) hx hb dX6_follow_210 (by decide) ?_
          exact W.iret (v := (2 : Int32)) hx hb hr (fun t ht hW => ⟨⟨(2 : Int32), (tL (tI (tI v 6 (x0.toInt32)) 7 y_14) 11 y_3), rfl, (Option.some.inj h).symm, wPre_go hP hD hK hA hS ht hW.alike⟩, hS.F ht⟩) hS.2.2 dX6_follow_211
        · skip
          rw [if_neg c_16] at h
          refine lv_iconst (v := (0 : Int32)) hx hb dX6_follow_206 (by decide) ?_
          refine lv_goto (tgt := 211) hx hb dX6_follow_207 (by decide) ?_
          exact W.iret (v := (0 : Int32)) hx hb hr (fun t ht hW => ⟨⟨(0 : Int32), (tL (tI (tI v 6 (x0.toInt32)) 7 y_14) 11 y_3), rfl, (Option.some.inj h).symm, wPre_go hP hD hK hA hS ht hW.alike⟩, hS.F ht⟩) hS.2.2 dX6_follow_211
    · skip
      rw [if_pos c_1] at h
      refine lv_iconst (v := (2 : Int32)) hx hb dX6_follow_146 (by decide) ?_
      exact W.iret (v := (2 : Int32)) hx hb hr (fun t ht hW => ⟨⟨(2 : Int32), v, rfl, (Option.some.inj h).symm, wPre_go hP hD hK hA hS ht hW.alike⟩, hS.F ht⟩) hS.2.2 dX6_follow_147
  have k_125 : ∀ (v : MS) (H : Heap) (locs : List Loc) (x0 : Int64) (x1 : Int64) (x2 : Int32) (x3 : Int32) (y0 : Int64) (y1 : Int64), va_P D vwCl (mW c4 z v) H → va_D A (mW c4 z v) → va_S A s.heap H locs → ∀ (ls : Array Slot), lv_has ls 13 [(0, .ref (z 0)), (5, .long x0), (7, .long x1), (9, .int x2), (10, .int x3)] → pX6_follow_125 v x0 x1 x2 x3 y0 y1 = some res → W p l e ({ frames := 1, cells := 0, slots := 0, locals := 21 } : Room) s m ([.ref (z 0), .int a1, .int a2] : List Value).toArray below meth c H locs 0 0 (MQ below (va_Qi (fun q w => res = (w, q)) (fun w t => wPre D c4 A (mW c4 z w) t) A) ([.ref (z 0), .int a1, .int a2] : List Value).toArray s 0 0 A) (F0 m 125 ls [.long y0, .long y1]) := by
    intro v H locs x0 x1 x2 x3 y0 y1 hP hD hS ls hl h
    unfold pX6_follow_125 at h
    refine lv_ladd hx hb dX6_follow_125 ?_
    refine lv_aload_n hx hb dX6_follow_126 rfl (lv_at hl 0 rfl) ?_
    refine va_get (D := D) (ci := 5) (v := .ref (z 2)) (C := RX6) (T := TX6) (N := 33) hx hb hts (fun w h => wm (zin_X6 w h)) hown hK hP 0 rfl rfl 2 (by decide) (hts _ (wm zw_639)) (fun _ h9 => h9) rfl dX6_follow_127 ?_
    refine lv_lload hx hb dX6_follow_130 (lv_at hl 1 rfl) ?_
    refine lv_l2i hx hb dX6_follow_132 rfl ?_
    obtain ⟨hi_17, h⟩ := zb_if h
    refine va_iald hx hb hK hP 2 3 rfl rfl (inb_in hi_17) dX6_follow_133 ?_
    refine W.eq (g2 := F0 m 134 ls ([.int (Va v 2 (x0.toInt32).toNatClampNeg), .long (y1 + y0)])) rfl ?_
    refine lv_i2l hx hb dX6_follow_134 rfl ?_
    refine W.lcmp hx hb dX6_follow_135 ?_
    refine lv_if_lt (tgt := 141) hx hb dX6_follow_136 (by decide) (fun c_18 => ?_) (fun c_18 => ?_)
    · skip
      have c_18 := (lg_cmp_lt _ _).mp c_18
      rw [if_pos c_18] at h
      exact k_141 v _ _ x0 x1 x2 x3 hP hD hS ls (lv_sub hl [0, 1, 2, 3, 4] rfl) h
    · skip
      have c_18 := mt (lg_cmp_lt _ _).mpr c_18
      rw [if_neg c_18] at h
      refine lv_iconst (v := (1 : Int32)) hx hb dX6_follow_139 (by decide) ?_
      exact W.iret (v := (1 : Int32)) hx hb hr (fun t ht hW => ⟨⟨(1 : Int32), v, rfl, (Option.some.inj h).symm, wPre_go hP hD hK hA hS ht hW.alike⟩, hS.F ht⟩) hS.2.2 dX6_follow_140
  have k_97 : ∀ (v : MS) (H : Heap) (locs : List Loc) (x0 : Int64) (x1 : Int64) (x2 : Int32) (y0 : Int32), va_P D vwCl (mW c4 z v) H → va_D A (mW c4 z v) → va_S A s.heap H locs → ∀ (ls : Array Slot), lv_has ls 13 [(0, .ref (z 0)), (5, .long x0), (7, .long x1), (9, .int x2)] → pX6_follow_97 v x0 x1 x2 y0 = some res → W p l e ({ frames := 1, cells := 0, slots := 0, locals := 21 } : Room) s m ([.ref (z 0), .int a1, .int a2] : List Value).toArray below meth c H locs 0 0 (MQ below (va_Qi (fun q w => res = (w, q)) (fun w t => wPre D c4 A (mW c4 z w) t) A) ([.ref (z 0), .int a1, .int a2] : List Value).toArray s 0 0 A) (F0 m 97 ls [.int y0]) := by
    intro v H locs x0 x1 x2 y0 hP hD hS ls hl h
    unfold pX6_follow_97 at h
    refine lv_istore (lv' := [(10, .int y0), (0, .ref (z 0)), (5, .long x0), (7, .long x1), (9, .int x2)]) hx hb dX6_follow_97 hl (by decide) rfl (fun ls hl => ?_)
    refine lv_iload hx hb dX6_follow_99 (lv_at hl 0 rfl) ?_
    refine lv_if_eq (tgt := 141) hx hb dX6_follow_101 (by decide) (fun c_19 => ?_) (fun c_19 => ?_)
    · skip
      rw [if_pos c_19] at h
      exact k_141 v _ _ x0 x1 x2 y0 hP hD hS ls (lv_sub hl [1, 2, 3, 4, 0] rfl) h
    · skip
      rw [if_neg c_19] at h
      refine lv_lload hx hb dX6_follow_104 (lv_at hl 2 rfl) ?_
      refine lv_ldc2 (v := (3 : Int64)) hx hb hown (hts _ (wm zw_789)) dX6_follow_106 ?_
      refine W.lcmp hx hb dX6_follow_109 ?_
      refine lv_if_gt (tgt := 139) hx hb dX6_follow_110 (by decide) (fun c_20 => ?_) (fun c_20 => ?_)
      · skip
        have c_20 := (lg_cmp_gt _ _).mp c_20
        rw [if_pos c_20] at h
        refine lv_iconst (v := (1 : Int32)) hx hb dX6_follow_139 (by decide) ?_
        exact W.iret (v := (1 : Int32)) hx hb hr (fun t ht hW => ⟨⟨(1 : Int32), v, rfl, (Option.some.inj h).symm, wPre_go hP hD hK hA hS ht hW.alike⟩, hS.F ht⟩) hS.2.2 dX6_follow_140
      · skip
        have c_20 := mt (lg_cmp_gt _ _).mpr c_20
        rw [if_neg c_20] at h
        refine lv_lload hx hb dX6_follow_113 (lv_at hl 3 rfl) ?_
        refine lv_iload hx hb dX6_follow_115 (lv_at hl 4 rfl) ?_
        refine lv_if_eq (tgt := 124) hx hb dX6_follow_117 (by decide) (fun c_21 => ?_) (fun c_21 => ?_)
        · skip
          rw [if_pos c_21] at h
          refine lv_lconst (v := (0 : Int64)) hx hb dX6_follow_124 (by decide) ?_
          exact k_125 v _ _ x0 x1 x2 y0 (0 : Int64) x1 hP hD hS ls (lv_sub hl [1, 2, 3, 4, 0] rfl) h
        · skip
          rw [if_neg c_21] at h
          refine lv_lconst (v := (1 : Int64)) hx hb dX6_follow_120 (by decide) ?_
          refine lv_goto (tgt := 125) hx hb dX6_follow_121 (by decide) ?_
          exact k_125 v _ _ x0 x1 x2 y0 (1 : Int64) x1 hP hD hS ls (lv_sub hl [1, 2, 3, 4, 0] rfl) h
  have k_78 : ∀ (v : MS) (H : Heap) (locs : List Loc) (x0 : Int64) (x1 : Int64) (x2 : Int64) (y0 : Int32), va_P D vwCl (mW c4 z v) H → va_D A (mW c4 z v) → va_S A s.heap H locs → ∀ (ls : Array Slot), lv_has ls 13 [(0, .ref (z 0)), (3, .long x0), (5, .long x1), (7, .long x2)] → pX6_follow_78 v x0 x1 x2 y0 = some res → W p l e ({ frames := 1, cells := 0, slots := 0, locals := 21 } : Room) s m ([.ref (z 0), .int a1, .int a2] : List Value).toArray below meth c H locs 0 0 (MQ below (va_Qi (fun q w => res = (w, q)) (fun w t => wPre D c4 A (mW c4 z w) t) A) ([.ref (z 0), .int a1, .int a2] : List Value).toArray s 0 0 A) (F0 m 78 ls [.int y0]) := by
    intro v H locs x0 x1 x2 y0 hP hD hS ls hl h
    unfold pX6_follow_78 at h
    refine lv_istore (lv' := [(9, .int y0), (0, .ref (z 0)), (3, .long x0), (5, .long x1), (7, .long x2)]) hx hb dX6_follow_78 hl (by decide) rfl (fun ls hl => ?_)
    refine lv_lload_n hx hb dX6_follow_80 rfl (lv_at hl 2 rfl) ?_
    refine lv_ldc2 (v := (3 : Int64)) hx hb hown (hts _ (wm zw_789)) dX6_follow_81 ?_
    refine lv_land hx hb dX6_follow_84 ?_
    refine lv_ldc2 (v := (2 : Int64)) hx hb hown (hts _ (wm zw_790)) dX6_follow_85 ?_
    refine W.lcmp hx hb dX6_follow_88 ?_
    refine lv_if_ne (tgt := 96) hx hb dX6_follow_89 (by decide) (fun c_22 => ?_) (fun c_22 => ?_)
    · skip
      have c_22 := mt (lg_cmp_eq _ _).mpr c_22
      rw [if_neg c_22] at h
      refine lv_iconst (v := (0 : Int32)) hx hb dX6_follow_96 (by decide) ?_
      exact k_97 v _ _ x1 x2 y0 (0 : Int32) hP hD hS ls (lv_sub hl [1, 3, 4, 0] rfl) h
    · skip
      have c_22 := (lg_cmp_eq _ _).mp c_22
      rw [if_pos c_22] at h
      refine lv_iconst (v := (1 : Int32)) hx hb dX6_follow_92 (by decide) ?_
      refine lv_goto (tgt := 97) hx hb dX6_follow_93 (by decide) ?_
      exact k_97 v _ _ x1 x2 y0 (1 : Int32) hP hD hS ls (lv_sub hl [1, 3, 4, 0] rfl) h
  unfold pX6_follow at h
  refine lv_aload_n hx hb dX6_follow_0 rfl (lv_at hl 0 rfl) ?_
  refine va_get (D := D) (ci := 5) (v := .ref (z 1)) (C := RX6) (T := TX6) (N := 33) hx hb hts (fun w h => wm (zin_X6 w h)) hown hK hP 0 rfl rfl 1 (by decide) (hts _ (wm zw_638)) (fun _ h9 => h9) rfl dX6_follow_1 ?_
  refine lv_bipush (v := (64 : Int32)) hx hb dX6_follow_4 (by decide) ?_
  refine lv_iload_n hx hb dX6_follow_6 rfl (lv_at hl 1 rfl) ?_
  refine lv_imul hx hb dX6_follow_7 ?_
  refine lv_iload_n hx hb dX6_follow_8 rfl (lv_at hl 2 rfl) ?_
  refine lv_iadd hx hb dX6_follow_9 ?_
  obtain ⟨hi_23, h⟩ := zb_if h
  refine va_lald hx hb hK hP 1 0 rfl rfl (inb_in hi_23) dX6_follow_10 ?_
  refine W.eq (g2 := F0 m 11 ls ([.long (Vr v 1 (((64 : Int32) * a1) + a2).toNatClampNeg)])) rfl ?_
  obtain ⟨y_24, e_24, h⟩ := zb_bind h
  try dsimp only at h
  refine zt_l (Option.some.inj e_24) ?_
  refine lv_lstore_n (lv' := [(3, .long y_24), (0, .ref (z 0)), (1, .int a1), (2, .int a2)]) hx hb dX6_follow_11 rfl hl (by decide) rfl (fun ls hl => ?_)
  refine lv_aload_n hx hb dX6_follow_12 rfl (lv_at hl 1 rfl) ?_
  refine lv_iload_n hx hb dX6_follow_13 rfl (lv_at hl 2 rfl) ?_
  refine va_put (D := D) (ci := 5) (v := .int a1) (ty := .int) (C := RX6) (T := TX6) (N := 33) hx hb hts (fun w h => wm (zin_X6 w h)) tyX6 tyX6_ok nmX6 hown hK hP hD hS 0 rfl rfl 6 (by decide) (hts _ (wm zw_643)) (fun _ h9 => h9) rfl (by decide +kernel) rfl rfl (Nat.le_of_ble_eq_true rfl) dX6_follow_14 (fun H locs hP hD hS => ?_)
  have hP : va_P D vwCl (mW c4 z (tI v 6 a1)) H := hP
  have hD : va_D A (mW c4 z (tI v 6 a1)) := hD
  refine lv_aload_n hx hb dX6_follow_17 rfl (lv_at hl 1 rfl) ?_
  refine lv_iload_n hx hb dX6_follow_18 rfl (lv_at hl 3 rfl) ?_
  refine lv_iconst (v := (1 : Int32)) hx hb dX6_follow_19 (by decide) ?_
  refine lv_iadd hx hb dX6_follow_20 ?_
  refine lv_lload_n hx hb dX6_follow_21 rfl (lv_at hl 0 rfl) ?_
  refine vp_callSi (W.runS (As := [.long y_24]) (rest := [.int (a2 + (1 : Int32)), .ref (z 0)]) ⟨hx, hb, hml, hown, hts⟩ (ct_X6_offset l y_24 _ rfl) (va_cwS 1 hts (wz_S zw_786 zw_787 zw_6 zw_788) rfl rfl rfl (by decide +kernel) ⟨Nat.le_of_ble_eq_true rfl, Nat.le_of_ble_eq_true rfl⟩) ⟨fbN, fun U9 hU hW => ⟨rfl, trivial⟩⟩ rfl rfl hl.1 rfl (lv_room (Nat.le_of_ble_eq_true rfl)) dX6_follow_22 ⟨Nat.le_of_ble_eq_true rfl, Nat.le_of_ble_eq_true rfl⟩) (fun r_25 e_25 => ?_)
  subst e_25
  refine lv_iadd hx hb dX6_follow_25 ?_
  obtain ⟨y_26, e_26, h⟩ := zb_bind h
  try dsimp only at h
  refine zt_i (Option.some.inj e_26) ?_
  refine va_put (D := D) (ci := 5) (v := .int y_26) (ty := .int) (C := RX6) (T := TX6) (N := 33) hx hb hts (fun w h => wm (zin_X6 w h)) tyX6 tyX6_ok nmX6 hown hK hP hD hS 0 rfl rfl 7 (by decide) (hts _ (wm zw_644)) (fun _ h9 => h9) rfl (by decide +kernel) rfl rfl (Nat.le_of_ble_eq_true rfl) dX6_follow_26 (fun H locs hP hD hS => ?_)
  have hP : va_P D vwCl (mW c4 z (tI (tI v 6 a1) 7 y_26)) H := hP
  have hD : va_D A (mW c4 z (tI (tI v 6 a1) 7 y_26)) := hD
  refine lv_aload_n hx hb dX6_follow_29 rfl (lv_at hl 1 rfl) ?_
  refine lv_lload_n hx hb dX6_follow_30 rfl (lv_at hl 0 rfl) ?_
  refine va_put (D := D) (ci := 5) (v := .long y_24) (ty := .long) (C := RX6) (T := TX6) (N := 33) hx hb hts (fun w h => wm (zin_X6 w h)) tyX6 tyX6_ok nmX6 hown hK hP hD hS 0 rfl rfl 11 (by decide) (hts _ (wm zw_648)) (fun _ h9 => h9) rfl (by decide +kernel) rfl rfl (Nat.le_of_ble_eq_true rfl) dX6_follow_31 (fun H locs hP hD hS => ?_)
  have hP : va_P D vwCl (mW c4 z (tL (tI (tI v 6 a1) 7 y_26) 11 y_24)) H := hP
  have hD : va_D A (mW c4 z (tL (tI (tI v 6 a1) 7 y_26) 11 y_24)) := hD
  refine lv_lload_n hx hb dX6_follow_34 rfl (lv_at hl 0 rfl) ?_
  refine lv_ldc2 (v := (3 : Int64)) hx hb hown (hts _ (wm zw_789)) dX6_follow_35 ?_
  refine lv_land hx hb dX6_follow_38 ?_
  refine lv_ldc2 (v := (2 : Int64)) hx hb hown (hts _ (wm zw_790)) dX6_follow_39 ?_
  refine W.lcmp hx hb dX6_follow_42 ?_
  refine lv_if_ge (tgt := 48) hx hb dX6_follow_43 (by decide) (fun c_27 => ?_) (fun c_27 => ?_)
  · skip
    have c_27 := (lg_cmp_ge _ _).mp c_27
    rw [if_pos c_27] at h
    refine lv_lload_n hx hb dX6_follow_48 rfl (lv_at hl 0 rfl) ?_
    refine lv_bipush (v := (32 : Int32)) hx hb dX6_follow_49 (by decide) ?_
    refine lv_lushr hx hb dX6_follow_51 rfl ?_
    obtain ⟨y_28, e_28, h⟩ := zb_bind h
    try dsimp only at h
    refine zt_l (Option.some.inj e_28) ?_
    refine lv_lstore (lv' := [(5, .long y_28), (3, .long y_24), (0, .ref (z 0)), (1, .int a1), (2, .int a2)]) hx hb dX6_follow_52 hl (by decide) rfl (fun ls hl => ?_)
    refine lv_lload_n hx hb dX6_follow_54 rfl (lv_at hl 1 rfl) ?_
    refine lv_iconst (v := (3 : Int32)) hx hb dX6_follow_55 (by decide) ?_
    refine lv_lushr hx hb dX6_follow_56 rfl ?_
    refine lv_ldc2 (v := (536870911 : Int64)) hx hb hown (hts _ (wm zw_791)) dX6_follow_57 ?_
    refine lv_land hx hb dX6_follow_60 ?_
    obtain ⟨y_29, e_29, h⟩ := zb_bind h
    try dsimp only at h
    refine zt_l (Option.some.inj e_29) ?_
    refine lv_lstore (lv' := [(7, .long y_29), (5, .long y_28), (3, .long y_24), (0, .ref (z 0)), (1, .int a1), (2, .int a2)]) hx hb dX6_follow_61 hl (by decide) rfl (fun ls hl => ?_)
    refine lv_lload_n hx hb dX6_follow_63 rfl (lv_at hl 2 rfl) ?_
    refine lv_ldc2 (v := (4 : Int64)) hx hb hown (hts _ (wm zw_792)) dX6_follow_64 ?_
    refine lv_land hx hb dX6_follow_67 ?_
    refine lv_lconst (v := (0 : Int64)) hx hb dX6_follow_68 (by decide) ?_
    refine W.lcmp hx hb dX6_follow_69 ?_
    refine lv_if_eq (tgt := 77) hx hb dX6_follow_70 (by decide) (fun c_30 => ?_) (fun c_30 => ?_)
    · skip
      have c_30 := (lg_cmp_eq _ _).mp c_30
      rw [if_pos c_30] at h
      refine lv_iconst (v := (0 : Int32)) hx hb dX6_follow_77 (by decide) ?_
      exact k_78 (tL (tI (tI v 6 a1) 7 y_26) 11 y_24) _ _ y_24 y_28 y_29 (0 : Int32) hP hD hS ls (lv_sub hl [3, 2, 1, 0] rfl) h
    · skip
      have c_30 := mt (lg_cmp_eq _ _).mpr c_30
      rw [if_neg c_30] at h
      refine lv_iconst (v := (1 : Int32)) hx hb dX6_follow_73 (by decide) ?_
      refine lv_goto (tgt := 78) hx hb dX6_follow_74 (by decide) ?_
      exact k_78 (tL (tI (tI v 6 a1) 7 y_26) 11 y_24) _ _ y_24 y_28 y_29 (1 : Int32) hP hD hS ls (lv_sub hl [3, 2, 1, 0] rfl) h
  · skip
    have c_27 := mt (lg_cmp_ge _ _).mpr c_27
    rw [if_neg c_27] at h
    refine lv_iconst (v := (0 : Int32)) hx hb dX6_follow_46 (by decide) ?_
    exact W.iret (v := (0 : Int32)) hx hb hr (fun t ht hW => ⟨⟨(0 : Int32), (tL (tI (tI v 6 a1) 7 y_26) 11 y_24), rfl, (Option.some.inj h).symm, wPre_go hP hD hK hA hS ht hW.alike⟩, hS.F ht⟩) hS.2.2 dX6_follow_47
