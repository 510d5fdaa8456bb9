def pX6_measure_212 (v : MS) (x0 : Int32) (x1 : Int32) (y0 : Int64) (y1 : Int64) : Option (MS × Int32) := (if (y1 + y0) ≤ (x0.toInt64) then (if x1 = (7 : Int32) then ((pX6_measureTag v).bind fun x_3 => some ((x_3.1), (x_3.2))) else some (v, (0 : Int32))) else some (v, (1 : Int32)))
def pX6_measure_193 (v : MS) (x0 : Int32) (x1 : Int32) (y0 : Int64) : Option (MS × Int32) := (if x1 = (7 : Int32) then pX6_measure_212 (tL v 12 y0) x0 x1 (1 : Int64) (Vl v 11) else pX6_measure_212 (tL v 12 y0) x0 x1 (0 : Int64) (Vl v 11))
def pX6_measure_173 (v : MS) (x0 : Int32) (x1 : Int32) (y0 : Int64) : Option (MS × Int32) := (if x1 = 0 then pX6_measure_193 (tL v 11 y0) x0 x1 (Vl v 8) else pX6_measure_193 (tL v 11 y0) x0 x1 y0)
def pX6_measure (v : MS) (a1 : Int64) : Option (MS × Int32) := (if inb (Vi v 6) 4 = true then ((some ((Va v 2 (Vi v 6).toNatClampNeg) - (Vi v 7))).bind fun y_7 => (if (Vi v 7) < 0 then some (v, (1 : Int32)) else (if 0 ≤ y_7 then (if (a1 &&& (3 : Int64)) = (0 : Int64) then ((some (((a1.toUInt64 >>> ((32 : Int32).toInt64.toUInt64 &&& Int64.toUInt64 63)).toInt64) &&& (65535 : Int64))).bind fun y_16 => ((some (((a1.toUInt64 >>> ((48 : Int32).toInt64.toUInt64 &&& Int64.toUInt64 63)).toInt64).toInt32)).bind fun y_17 => ((some (y_16 + (y_17.toInt64))).bind fun y_18 => (if y_18 ≤ (y_7.toInt64) then some ((tL (tL (tI (tL (tI (tI (tI v 9 (0 : Int32)) 10 (0 : Int32)) 5 (0 : Int32)) 8 y_16) 10 y_17) 11 y_18) 12 y_18), (0 : Int32)) else some ((tL (tL (tI (tL (tI (tI (tI v 9 (0 : Int32)) 10 (0 : Int32)) 5 (0 : Int32)) 8 y_16) 10 y_17) 11 y_18) 12 y_18), (1 : Int32)))))) else ((some ((((a1.toUInt64 >>> ((32 : Int32).toInt64.toUInt64 &&& Int64.toUInt64 63)).toInt64) &&& (7 : Int64)).toInt32)).bind fun y_11 => ((some ((1 : Int32) + y_11)).bind fun y_12 => ((some ((a1.toUInt64 >>> ((35 : Int32).toInt64.toUInt64 &&& Int64.toUInt64 63)).toInt64)).bind fun y_13 => (if (6 : Int32) ≤ y_11 then pX6_measure_173 (tL (tI (tI (tI v 9 (0 : Int32)) 10 (0 : Int32)) 5 y_12) 8 y_13) y_7 y_11 y_13 else pX6_measure_173 (tL (tI (tI (tI v 9 (0 : Int32)) 10 (0 : Int32)) 5 y_12) 8 y_13) y_7 y_11 (((y_13 * ((pX6_bits y_11).toInt64)) + (63 : Int64)) / (64 : Int64))))))) else some (v, (1 : Int32))))) else none)
set_option maxHeartbeats 4000000 in
set_option maxRecDepth 100000 in
theorem ct_X6_measure (l : Launch) (D : va_G) (c4 : Nat → ClassId) (A : Nat → Prop) (z : Nat → Nat) (v : MS) (a1 : Int64) (res : MS × Int32) (h : pX6_measure v a1 = some res) : Met l yX6_measure (wz yX6_measure cX6_measure 5 (some .int)) ({ frames := 1, cells := 0, slots := 0, locals := 22 } : Room) (va_Pc [.ref (z 0), .long a1] (fun U => mPre D c4 A z v U)) (va_Qi (fun q w => res = (w, q)) (fun w t => wPre D c4 A (mW c4 z w) t) A) 0 0 A := by
  refine Met.ofW (cc := cX6_measure) (maxL := 5) (ret := (some .int)) (by decide) rfl ?_
  intro p e s m args below meth c s₁ B hml hv
  obtain ⟨rfl, hP, hD, hK, hA⟩ := hv
  have hx := B.exec
  have hb := B.bytes
  have hr := B.returns
  have hts := atoms_spec (ws := (wz yX6_measure cX6_measure 5 (some .int))) B.pre
  have hown : s.vm.findClass RX6 = some m.cls := findClass_of_methodNamed B.named
  have hlocks := B.notSynchronized
  have hS : va_S A s.heap s.heap [] := va_S.rf
  have hl := lv_entry ([.ref (z 0), .long a1]) (n := 5) (Nat.le_of_ble_eq_true rfl)
  rw [lg_entry_eq]
  generalize (lg_sl ([.ref (z 0), .long a1]) ++ List.replicate (5 - (lg_sl ([.ref (z 0), .long a1])).length) Slot.unset).toArray = ls at hl ⊢
  have hl : lv_has ls 5 [(0, .ref (z 0)), (1, .long a1)] := hl
  have k_212 : ∀ (v : MS) (H : Heap) (locs : List Loc) (x0 : Int32) (x1 : Int32) (y0 : Int64) (y1 : Int64), va_P D vwCl (mW c4 z v) H → va_D A (mW c4 z v) → va_S A s.heap H locs → ∀ (ls : Array Slot), lv_has ls 5 [(0, .ref (z 0)), (3, .int x0), (4, .int x1)] → pX6_measure_212 v x0 x1 y0 y1 = some res → W p l e ({ frames := 1, cells := 0, slots := 0, locals := 22 } : Room) s m ([.ref (z 0), .long a1] : List Value).toArray below meth c H locs 0 0 (MQ below (va_Qi (fun q w => res = (w, q)) (fun w t => wPre D c4 A (mW c4 z w) t) A) ([.ref (z 0), .long a1] : List Value).toArray s 0 0 A) (F0 m 212 ls [.long y0, .long y1]) := by
    intro v H locs x0 x1 y0 y1 hP hD hS ls hl h
    unfold pX6_measure_212 at h
    refine lv_ladd hx hb dX6_measure_212 ?_
    refine lv_iload_n hx hb dX6_measure_213 rfl (lv_at hl 1 rfl) ?_
    refine lv_i2l hx hb dX6_measure_214 rfl ?_
    refine W.lcmp hx hb dX6_measure_215 ?_
    refine lv_if_le (tgt := 221) hx hb dX6_measure_216 (by decide) (fun c_1 => ?_) (fun c_1 => ?_)
    · skip
      have c_1 := (lg_cmp_le _ _).mp c_1
      rw [if_pos c_1] at h
      refine lv_iload hx hb dX6_measure_221 (lv_at hl 2 rfl) ?_
      refine lv_bipush (v := (7 : Int32)) hx hb dX6_measure_223 (by decide) ?_
      refine lv_icmp_ne (tgt := 235) hx hb dX6_measure_225 (by decide) (fun c_2 => ?_) (fun c_2 => ?_)
      · skip
        rw [if_neg c_2] at h
        refine lv_iconst (v := (0 : Int32)) hx hb dX6_measure_235 (by decide) ?_
        exact W.iret (v := (0 : Int32)) hx hb hr (fun t ht hW => ⟨⟨(0 : Int32), v, rfl, (Option.some.inj h).symm, wPre_go hP hD hK hA hS ht hW.alike⟩, hS.F ht⟩) hS.2.2 dX6_measure_236
      · skip
        rw [if_pos c_2] at h
        refine lv_aload_n hx hb dX6_measure_228 rfl (lv_at hl 0 rfl) ?_
        obtain ⟨x_3, hc_3, h⟩ := zb_bind h
        try dsimp only at h
        refine va_calli (va_runV (As := []) (rest := []) ⟨hx, hb, hml, hown, hts⟩ (ct_X6_measureTag l D c4 A z v _ hc_3) (cwV 0 hts (wz_V zw_807 zw_809 zs_22 zw_6 zw_810) rfl rfl rfl (by decide +kernel) ⟨Nat.le_of_ble_eq_true rfl, Nat.le_of_ble_eq_true rfl⟩) ⟨fbM, va_recv hK hP (ci := 5) (q0 := 0) rfl rfl, fun U9 hU hW => ⟨rfl, wPre_go hP hD hK hA hS hU hW.alike⟩⟩ rfl rfl hl.1 rfl (lv_room (Nat.le_of_ble_eq_true rfl)) dX6_measure_229 ⟨Nat.le_of_ble_eq_true rfl, Nat.le_of_ble_eq_true rfl⟩) hS (fun q _ h => h) (fun q h => h) (fun r_3 u_3 t H1 locs ht hvm e_3 hB hz1 hk1 hS => ?_)
        subst e_3
        try dsimp only at h
        obtain ⟨hP, hD, -, -⟩ := hB
        rw [ht] at hP
        generalize H1 = H at hP hS ⊢
        refine lv_goto (tgt := 236) hx hb dX6_measure_232 (by decide) ?_
        exact W.iret (v := r_3) hx hb hr (fun t ht hW => ⟨⟨r_3, u_3, rfl, (Option.some.inj h).symm, wPre_go hP hD hK hA hS ht hW.alike⟩, hS.F ht⟩) hS.2.2 dX6_measure_236
    · skip
      have c_1 := mt (lg_cmp_le _ _).mpr c_1
      rw [if_neg c_1] at h
      refine lv_iconst (v := (1 : Int32)) hx hb dX6_measure_219 (by decide) ?_
      exact W.iret (v := (1 : Int32)) hx hb hr (fun t ht hW => ⟨⟨(1 : Int32), v, rfl, (Option.some.inj h).symm, wPre_go hP hD hK hA hS ht hW.alike⟩, hS.F ht⟩) hS.2.2 dX6_measure_220
  have k_193 : ∀ (v : MS) (H : Heap) (locs : List Loc) (x0 : Int32) (x1 : Int32) (y0 : Int64), va_P D vwCl (mW c4 z v) H → va_D A (mW c4 z v) → va_S A s.heap H locs → ∀ (ls : Array Slot), lv_has ls 5 [(0, .ref (z 0)), (3, .int x0), (4, .int x1)] → pX6_measure_193 v x0 x1 y0 = some res → W p l e ({ frames := 1, cells := 0, slots := 0, locals := 22 } : Room) s m ([.ref (z 0), .long a1] : List Value).toArray below meth c H locs 0 0 (MQ below (va_Qi (fun q w => res = (w, q)) (fun w t => wPre D c4 A (mW c4 z w) t) A) ([.ref (z 0), .long a1] : List Value).toArray s 0 0 A) (F0 m 193 ls [.long y0, .ref (z 0)]) := by
    intro v H locs x0 x1 y0 hP hD hS ls hl h
    unfold pX6_measure_193 at h
    refine va_put (D := D) (ci := 5) (v := .long y0) (ty := .long) (C := RX6) (T := TX6) (N := 33) hx hb hts (fun w h => wm (zin_X6 w h)) tyX6 tyX6_ok nmX6 hown hK hP hD hS 0 rfl rfl 12 (by decide) (hts _ (wm zw_649)) (fun _ h9 => h9) rfl (by decide +kernel) rfl rfl (Nat.le_of_ble_eq_true rfl) dX6_measure_193 (fun H locs hP hD hS => ?_)
    have hP : va_P D vwCl (mW c4 z (tL v 12 y0)) H := hP
    have hD : va_D A (mW c4 z (tL v 12 y0)) := hD
    refine lv_aload_n hx hb dX6_measure_196 rfl (lv_at hl 0 rfl) ?_
    refine va_get (D := D) (ci := 5) (v := .long (Vl v 11)) (C := RX6) (T := TX6) (N := 33) hx hb hts (fun w h => wm (zin_X6 w h)) hown hK hP 0 rfl rfl 11 (by decide) (hts _ (wm zw_648)) (fun _ h9 => h9) rfl dX6_measure_197 ?_
    refine lv_iload hx hb dX6_measure_200 (lv_at hl 2 rfl) ?_
    refine lv_bipush (v := (7 : Int32)) hx hb dX6_measure_202 (by decide) ?_
    refine lv_icmp_ne (tgt := 211) hx hb dX6_measure_204 (by decide) (fun c_4 => ?_) (fun c_4 => ?_)
    · skip
      rw [if_neg c_4] at h
      refine lv_lconst (v := (0 : Int64)) hx hb dX6_measure_211 (by decide) ?_
      exact k_212 (tL v 12 y0) _ _ x0 x1 (0 : Int64) (Vl v 11) hP hD hS ls (lv_sub hl [0, 1, 2] rfl) h
    · skip
      rw [if_pos c_4] at h
      refine lv_lconst (v := (1 : Int64)) hx hb dX6_measure_207 (by decide) ?_
      refine lv_goto (tgt := 212) hx hb dX6_measure_208 (by decide) ?_
      exact k_212 (tL v 12 y0) _ _ x0 x1 (1 : Int64) (Vl v 11) hP hD hS ls (lv_sub hl [0, 1, 2] rfl) h
  have k_173 : ∀ (v : MS) (H : Heap) (locs : List Loc) (x0 : Int32) (x1 : Int32) (y0 : Int64), va_P D vwCl (mW c4 z v) H → va_D A (mW c4 z v) → va_S A s.heap H locs → ∀ (ls : Array Slot), lv_has ls 5 [(0, .ref (z 0)), (3, .int x0), (4, .int x1)] → pX6_measure_173 v x0 x1 y0 = some res → W p l e ({ frames := 1, cells := 0, slots := 0, locals := 22 } : Room) s m ([.ref (z 0), .long a1] : List Value).toArray below meth c H locs 0 0 (MQ below (va_Qi (fun q w => res = (w, q)) (fun w t => wPre D c4 A (mW c4 z w) t) A) ([.ref (z 0), .long a1] : List Value).toArray s 0 0 A) (F0 m 173 ls [.long y0, .ref (z 0)]) := by
    intro v H locs x0 x1 y0 hP hD hS ls hl h
    unfold pX6_measure_173 at h
    refine va_put (D := D) (ci := 5) (v := .long y0) (ty := .long) (C := RX6) (T := TX6) (N := 33) hx hb hts (fun w h => wm (zin_X6 w h)) tyX6 tyX6_ok nmX6 hown hK hP hD hS 0 rfl rfl 11 (by decide) (hts _ (wm zw_648)) (fun _ h9 => h9) rfl (by decide +kernel) rfl rfl (Nat.le_of_ble_eq_true rfl) dX6_measure_173 (fun H locs hP hD hS => ?_)
    have hP : va_P D vwCl (mW c4 z (tL v 11 y0)) H := hP
    have hD : va_D A (mW c4 z (tL v 11 y0)) := hD
    refine lv_aload_n hx hb dX6_measure_176 rfl (lv_at hl 0 rfl) ?_
    refine lv_iload hx hb dX6_measure_177 (lv_at hl 2 rfl) ?_
    refine lv_if_ne (tgt := 189) hx hb dX6_measure_179 (by decide) (fun c_5 => ?_) (fun c_5 => ?_)
    · skip
      rw [if_neg c_5] at h
      refine lv_aload_n hx hb dX6_measure_189 rfl (lv_at hl 0 rfl) ?_
      refine va_get (D := D) (ci := 5) (v := .long y0) (C := RX6) (T := TX6) (N := 33) hx hb hts (fun w h => wm (zin_X6 w h)) hown hK hP 0 rfl rfl 11 (by decide) (hts _ (wm zw_648)) (fun _ h9 => h9) rfl dX6_measure_190 ?_
      exact k_193 (tL v 11 y0) _ _ x0 x1 y0 hP hD hS ls (lv_sub hl [0, 1, 2] rfl) h
    · skip
      rw [if_pos c_5] at h
      refine lv_aload_n hx hb dX6_measure_182 rfl (lv_at hl 0 rfl) ?_
      refine va_get (D := D) (ci := 5) (v := .long (Vl v 8)) (C := RX6) (T := TX6) (N := 33) hx hb hts (fun w h => wm (zin_X6 w h)) hown hK hP 0 rfl rfl 8 (by decide) (hts _ (wm zw_645)) (fun _ h9 => h9) rfl dX6_measure_183 ?_
      refine lv_goto (tgt := 193) hx hb dX6_measure_186 (by decide) ?_
      exact k_193 (tL v 11 y0) _ _ x0 x1 (Vl v 8) hP hD hS ls (lv_sub hl [0, 1, 2] rfl) h
  unfold pX6_measure at h
  refine lv_aload_n hx hb dX6_measure_0 rfl (lv_at hl 0 rfl) ?_
  refine va_get (D := D) (ci := 5) (v := .ref (z 2)) (C := RX6) (T := TX6) (N := 33) hx hb hts (fun w h => wm (zin_X6 w h)) hown hK hP 0 rfl rfl 2 (by decide) (hts _ (wm zw_639)) (fun _ h9 => h9) rfl dX6_measure_1 ?_
  refine lv_aload_n hx hb dX6_measure_4 rfl (lv_at hl 0 rfl) ?_
  refine va_get (D := D) (ci := 5) (v := .int (Vi v 6)) (C := RX6) (T := TX6) (N := 33) hx hb hts (fun w h => wm (zin_X6 w h)) hown hK hP 0 rfl rfl 6 (by decide) (hts _ (wm zw_643)) (fun _ h9 => h9) rfl dX6_measure_5 ?_
  obtain ⟨hi_6, h⟩ := zb_if h
  refine va_iald hx hb hK hP 2 3 rfl rfl (inb_in hi_6) dX6_measure_8 ?_
  refine W.eq (g2 := F0 m 9 ls ([.int (Va v 2 (Vi v 6).toNatClampNeg)])) rfl ?_
  refine lv_aload_n hx hb dX6_measure_9 rfl (lv_at hl 0 rfl) ?_
  refine va_get (D := D) (ci := 5) (v := .int (Vi v 7)) (C := RX6) (T := TX6) (N := 33) hx hb hts (fun w h => wm (zin_X6 w h)) hown hK hP 0 rfl rfl 7 (by decide) (hts _ (wm zw_644)) (fun _ h9 => h9) rfl dX6_measure_10 ?_
  refine lv_isub hx hb dX6_measure_13 ?_
  obtain ⟨y_7, e_7, h⟩ := zb_bind h
  try dsimp only at h
  refine zt_i (Option.some.inj e_7) ?_
  refine lv_istore_n (lv' := [(3, .int y_7), (0, .ref (z 0)), (1, .long a1)]) hx hb dX6_measure_14 rfl hl (by decide) rfl (fun ls hl => ?_)
  refine lv_aload_n hx hb dX6_measure_15 rfl (lv_at hl 1 rfl) ?_
  refine va_get (D := D) (ci := 5) (v := .int (Vi v 7)) (C := RX6) (T := TX6) (N := 33) hx hb hts (fun w h => wm (zin_X6 w h)) hown hK hP 0 rfl rfl 7 (by decide) (hts _ (wm zw_644)) (fun _ h9 => h9) rfl dX6_measure_16 ?_
  refine lv_if_lt (tgt := 26) hx hb dX6_measure_19 (by decide) (fun c_8 => ?_) (fun c_8 => ?_)
  · skip
    rw [if_pos c_8] at h
    refine lv_iconst (v := (1 : Int32)) hx hb dX6_measure_26 (by decide) ?_
    exact W.iret (v := (1 : Int32)) hx hb hr (fun t ht hW => ⟨⟨(1 : Int32), v, rfl, (Option.some.inj h).symm, wPre_go hP hD hK hA hS ht hW.alike⟩, hS.F ht⟩) hS.2.2 dX6_measure_27
  · skip
    rw [if_neg c_8] at h
    refine lv_iload_n hx hb dX6_measure_22 rfl (lv_at hl 0 rfl) ?_
    refine lv_if_ge (tgt := 28) hx hb dX6_measure_23 (by decide) (fun c_9 => ?_) (fun c_9 => ?_)
    · skip
      rw [if_pos c_9] at h
      refine lv_aload_n hx hb dX6_measure_28 rfl (lv_at hl 1 rfl) ?_
      refine lv_iconst (v := (0 : Int32)) hx hb dX6_measure_29 (by decide) ?_
      refine va_put (D := D) (ci := 5) (v := .int (0 : Int32)) (ty := .int) (C := RX6) (T := TX6) (N := 33) hx hb hts (fun w h => wm (zin_X6 w h)) tyX6 tyX6_ok nmX6 hown hK hP hD hS 0 rfl rfl 9 (by decide) (hts _ (wm zw_646)) (fun _ h9 => h9) rfl (by decide +kernel) rfl rfl (Nat.le_of_ble_eq_true rfl) dX6_measure_30 (fun H locs hP hD hS => ?_)
      have hP : va_P D vwCl (mW c4 z (tI v 9 (0 : Int32))) H := hP
      have hD : va_D A (mW c4 z (tI v 9 (0 : Int32))) := hD
      refine lv_aload_n hx hb dX6_measure_33 rfl (lv_at hl 1 rfl) ?_
      refine lv_iconst (v := (0 : Int32)) hx hb dX6_measure_34 (by decide) ?_
      refine va_put (D := D) (ci := 5) (v := .int (0 : Int32)) (ty := .int) (C := RX6) (T := TX6) (N := 33) hx hb hts (fun w h => wm (zin_X6 w h)) tyX6 tyX6_ok nmX6 hown hK hP hD hS 0 rfl rfl 10 (by decide) (hts _ (wm zw_647)) (fun _ h9 => h9) rfl (by decide +kernel) rfl rfl (Nat.le_of_ble_eq_true rfl) dX6_measure_35 (fun H locs hP hD hS => ?_)
      have hP : va_P D vwCl (mW c4 z (tI (tI v 9 (0 : Int32)) 10 (0 : Int32))) H := hP
      have hD : va_D A (mW c4 z (tI (tI v 9 (0 : Int32)) 10 (0 : Int32))) := hD
      refine lv_lload_n hx hb dX6_measure_38 rfl (lv_at hl 2 rfl) ?_
      refine lv_ldc2 (v := (3 : Int64)) hx hb hown (hts _ (wm zw_789)) dX6_measure_39 ?_
      refine lv_land hx hb dX6_measure_42 ?_
      refine lv_lconst (v := (0 : Int64)) hx hb dX6_measure_43 (by decide) ?_
      refine W.lcmp hx hb dX6_measure_44 ?_
      refine lv_if_ne (tgt := 112) hx hb dX6_measure_45 (by decide) (fun c_10 => ?_) (fun c_10 => ?_)
      · skip
        have c_10 := mt (lg_cmp_eq _ _).mpr c_10
        rw [if_neg c_10] at h
        refine lv_lload_n hx hb dX6_measure_112 rfl (lv_at hl 2 rfl) ?_
        refine lv_bipush (v := (32 : Int32)) hx hb dX6_measure_113 (by decide) ?_
        refine lv_lushr hx hb dX6_measure_115 rfl ?_
        refine lv_ldc2 (v := (7 : Int64)) hx hb hown (hts _ (wm zw_796)) dX6_measure_116 ?_
        refine lv_land hx hb dX6_measure_119 ?_
        refine lv_l2i hx hb dX6_measure_120 rfl ?_
        obtain ⟨y_11, e_11, h⟩ := zb_bind h
        try dsimp only at h
        refine zt_i (Option.some.inj e_11) ?_
        refine lv_istore (lv' := [(4, .int y_11), (3, .int y_7), (0, .ref (z 0)), (1, .long a1)]) hx hb dX6_measure_121 hl (by decide) rfl (fun ls hl => ?_)
        refine lv_aload_n hx hb dX6_measure_123 rfl (lv_at hl 2 rfl) ?_
        refine lv_iconst (v := (1 : Int32)) hx hb dX6_measure_124 (by decide) ?_
        refine lv_iload hx hb dX6_measure_125 (lv_at hl 0 rfl) ?_
        refine lv_iadd hx hb dX6_measure_127 ?_
        obtain ⟨y_12, e_12, h⟩ := zb_bind h
        try dsimp only at h
        refine zt_i (Option.some.inj e_12) ?_
        refine va_put (D := D) (ci := 5) (v := .int y_12) (ty := .int) (C := RX6) (T := TX6) (N := 33) hx hb hts (fun w h => wm (zin_X6 w h)) tyX6 tyX6_ok nmX6 hown hK hP hD hS 0 rfl rfl 5 (by decide) (hts _ (wm zw_642)) (fun _ h9 => h9) rfl (by decide +kernel) rfl rfl (Nat.le_of_ble_eq_true rfl) dX6_measure_128 (fun H locs hP hD hS => ?_)
        have hP : va_P D vwCl (mW c4 z (tI (tI (tI v 9 (0 : Int32)) 10 (0 : Int32)) 5 y_12)) H := hP
        have hD : va_D A (mW c4 z (tI (tI (tI v 9 (0 : Int32)) 10 (0 : Int32)) 5 y_12)) := hD
        refine lv_aload_n hx hb dX6_measure_131 rfl (lv_at hl 2 rfl) ?_
        refine lv_lload_n hx hb dX6_measure_132 rfl (lv_at hl 3 rfl) ?_
        refine lv_bipush (v := (35 : Int32)) hx hb dX6_measure_133 (by decide) ?_
        refine lv_lushr hx hb dX6_measure_135 rfl ?_
        obtain ⟨y_13, e_13, h⟩ := zb_bind h
        try dsimp only at h
        refine zt_l (Option.some.inj e_13) ?_
        refine va_put (D := D) (ci := 5) (v := .long y_13) (ty := .long) (C := RX6) (T := TX6) (N := 33) hx hb hts (fun w h => wm (zin_X6 w h)) tyX6 tyX6_ok nmX6 hown hK hP hD hS 0 rfl rfl 8 (by decide) (hts _ (wm zw_645)) (fun _ h9 => h9) rfl (by decide +kernel) rfl rfl (Nat.le_of_ble_eq_true rfl) dX6_measure_136 (fun H locs hP hD hS => ?_)
        have hP : va_P D vwCl (mW c4 z (tL (tI (tI (tI v 9 (0 : Int32)) 10 (0 : Int32)) 5 y_12) 8 y_13)) H := hP
        have hD : va_D A (mW c4 z (tL (tI (tI (tI v 9 (0 : Int32)) 10 (0 : Int32)) 5 y_12) 8 y_13)) := hD
        refine lv_aload_n hx hb dX6_measure_139 rfl (lv_at hl 2 rfl) ?_
        refine lv_iload hx hb dX6_measure_140 (lv_at hl 0 rfl) ?_
        refine lv_bipush (v := (6 : Int32)) hx hb dX6_measure_142 (by decide) ?_
        refine lv_icmp_ge (tgt := 169) hx hb dX6_measure_144 (by decide) (fun c_14 => ?_) (fun c_14 => ?_)
        · skip
          rw [if_pos c_14] at h
          refine lv_aload_n hx hb dX6_measure_169 rfl (lv_at hl 2 rfl) ?_
          refine va_get (D := D) (ci := 5) (v := .long y_13) (C := RX6) (T := TX6) (N := 33) hx hb hts (fun w h => wm (zin_X6 w h)) hown hK hP 0 rfl rfl 8 (by decide) (hts _ (wm zw_645)) (fun _ h9 => h9) rfl dX6_measure_170 ?_
          exact k_173 (tL (tI (tI (tI v 9 (0 : Int32)) 10 (0 : Int32)) 5 y_12) 8 y_13) _ _ y_7 y_11 y_13 hP hD hS ls (lv_sub hl [2, 1, 0] rfl) h
        · skip
          rw [if_neg c_14] at h
          refine lv_aload_n hx hb dX6_measure_147 rfl (lv_at hl 2 rfl) ?_
          refine va_get (D := D) (ci := 5) (v := .long y_13) (C := RX6) (T := TX6) (N := 33) hx hb hts (fun w h => wm (zin_X6 w h)) hown hK hP 0 rfl rfl 8 (by decide) (hts _ (wm zw_645)) (fun _ h9 => h9) rfl dX6_measure_148 ?_
          refine lv_iload hx hb dX6_measure_151 (lv_at hl 0 rfl) ?_
          refine vp_callSi (W.runS (As := [.int y_11]) (rest := [.long y_13, .ref (z 0)]) ⟨hx, hb, hml, hown, hts⟩ (ct_X6_bits l y_11 _ rfl) (va_cwS 1 hts (wz_S zw_802 zw_803 zw_6 zw_804) rfl rfl rfl (by decide +kernel) ⟨Nat.le_of_ble_eq_true rfl, Nat.le_of_ble_eq_true rfl⟩) ⟨fbN, fun U9 hU hW => ⟨rfl, trivial⟩⟩ rfl rfl hl.1 rfl (lv_room (Nat.le_of_ble_eq_true rfl)) dX6_measure_153 ⟨Nat.le_of_ble_eq_true rfl, Nat.le_of_ble_eq_true rfl⟩) (fun r_15 e_15 => ?_)
          subst e_15
          refine lv_i2l hx hb dX6_measure_156 rfl ?_
          refine lv_lmul hx hb dX6_measure_157 ?_
          refine lv_ldc2 (v := (63 : Int64)) hx hb hown (hts _ (wm zw_805)) dX6_measure_158 ?_
          refine lv_ladd hx hb dX6_measure_161 ?_
          refine lv_ldc2 (v := (64 : Int64)) hx hb hown (hts _ (wm zw_806)) dX6_measure_162 ?_
          refine lv_ldiv hx hb dX6_measure_165 (by decide) ?_
          refine lv_goto (tgt := 173) hx hb dX6_measure_166 (by decide) ?_
          exact k_173 (tL (tI (tI (tI v 9 (0 : Int32)) 10 (0 : Int32)) 5 y_12) 8 y_13) _ _ y_7 y_11 (((y_13 * ((pX6_bits y_11).toInt64)) + (63 : Int64)) / (64 : Int64)) hP hD hS ls (lv_sub hl [2, 1, 0] rfl) h
      · skip
        have c_10 := (lg_cmp_eq _ _).mp c_10
        rw [if_pos c_10] at h
        refine lv_aload_n hx hb dX6_measure_48 rfl (lv_at hl 1 rfl) ?_
        refine lv_iconst (v := (0 : Int32)) hx hb dX6_measure_49 (by decide) ?_
        refine va_put (D := D) (ci := 5) (v := .int (0 : Int32)) (ty := .int) (C := RX6) (T := TX6) (N := 33) hx hb hts (fun w h => wm (zin_X6 w h)) tyX6 tyX6_ok nmX6 hown hK hP hD hS 0 rfl rfl 5 (by decide) (hts _ (wm zw_642)) (fun _ h9 => h9) rfl (by decide +kernel) rfl rfl (Nat.le_of_ble_eq_true rfl) dX6_measure_50 (fun H locs hP hD hS => ?_)
        have hP : va_P D vwCl (mW c4 z (tI (tI (tI v 9 (0 : Int32)) 10 (0 : Int32)) 5 (0 : Int32))) H := hP
        have hD : va_D A (mW c4 z (tI (tI (tI v 9 (0 : Int32)) 10 (0 : Int32)) 5 (0 : Int32))) := hD
        refine lv_aload_n hx hb dX6_measure_53 rfl (lv_at hl 1 rfl) ?_
        refine lv_lload_n hx hb dX6_measure_54 rfl (lv_at hl 2 rfl) ?_
        refine lv_bipush (v := (32 : Int32)) hx hb dX6_measure_55 (by decide) ?_
        refine lv_lushr hx hb dX6_measure_57 rfl ?_
        refine lv_ldc2 (v := (65535 : Int64)) hx hb hown (hts _ (wm zw_801)) dX6_measure_58 ?_
        refine lv_land hx hb dX6_measure_61 ?_
        obtain ⟨y_16, e_16, h⟩ := zb_bind h
        try dsimp only at h
        refine zt_l (Option.some.inj e_16) ?_
        refine va_put (D := D) (ci := 5) (v := .long y_16) (ty := .long) (C := RX6) (T := TX6) (N := 33) hx hb hts (fun w h => wm (zin_X6 w h)) tyX6 tyX6_ok nmX6 hown hK hP hD hS 0 rfl rfl 8 (by decide) (hts _ (wm zw_645)) (fun _ h9 => h9) rfl (by decide +kernel) rfl rfl (Nat.le_of_ble_eq_true rfl) dX6_measure_62 (fun H locs hP hD hS => ?_)
        have hP : va_P D vwCl (mW c4 z (tL (tI (tI (tI v 9 (0 : Int32)) 10 (0 : Int32)) 5 (0 : Int32)) 8 y_16)) H := hP
        have hD : va_D A (mW c4 z (tL (tI (tI (tI v 9 (0 : Int32)) 10 (0 : Int32)) 5 (0 : Int32)) 8 y_16)) := hD
        refine lv_aload_n hx hb dX6_measure_65 rfl (lv_at hl 1 rfl) ?_
        refine lv_lload_n hx hb dX6_measure_66 rfl (lv_at hl 2 rfl) ?_
        refine lv_bipush (v := (48 : Int32)) hx hb dX6_measure_67 (by decide) ?_
        refine lv_lushr hx hb dX6_measure_69 rfl ?_
        refine lv_l2i hx hb dX6_measure_70 rfl ?_
        obtain ⟨y_17, e_17, h⟩ := zb_bind h
        try dsimp only at h
        refine zt_i (Option.some.inj e_17) ?_
        refine va_put (D := D) (ci := 5) (v := .int y_17) (ty := .int) (C := RX6) (T := TX6) (N := 33) hx hb hts (fun w h => wm (zin_X6 w h)) tyX6 tyX6_ok nmX6 hown hK hP hD hS 0 rfl rfl 10 (by decide) (hts _ (wm zw_647)) (fun _ h9 => h9) rfl (by decide +kernel) rfl rfl (Nat.le_of_ble_eq_true rfl) dX6_measure_71 (fun H locs hP hD hS => ?_)
        have hP : va_P D vwCl (mW c4 z (tI (tL (tI (tI (tI v 9 (0 : Int32)) 10 (0 : Int32)) 5 (0 : Int32)) 8 y_16) 10 y_17)) H := hP
        have hD : va_D A (mW c4 z (tI (tL (tI (tI (tI v 9 (0 : Int32)) 10 (0 : Int32)) 5 (0 : Int32)) 8 y_16) 10 y_17)) := hD
        refine lv_aload_n hx hb dX6_measure_74 rfl (lv_at hl 1 rfl) ?_
        refine lv_aload_n hx hb dX6_measure_75 rfl (lv_at hl 1 rfl) ?_
        refine va_get (D := D) (ci := 5) (v := .long y_16) (C := RX6) (T := TX6) (N := 33) hx hb hts (fun w h => wm (zin_X6 w h)) hown hK hP 0 rfl rfl 8 (by decide) (hts _ (wm zw_645)) (fun _ h9 => h9) rfl dX6_measure_76 ?_
        refine lv_aload_n hx hb dX6_measure_79 rfl (lv_at hl 1 rfl) ?_
        refine va_get (D := D) (ci := 5) (v := .int y_17) (C := RX6) (T := TX6) (N := 33) hx hb hts (fun w h => wm (zin_X6 w h)) hown hK hP 0 rfl rfl 10 (by decide) (hts _ (wm zw_647)) (fun _ h9 => h9) rfl dX6_measure_80 ?_
        refine lv_i2l hx hb dX6_measure_83 rfl ?_
        refine lv_ladd hx hb dX6_measure_84 ?_
        obtain ⟨y_18, e_18, h⟩ := zb_bind h
        try dsimp only at h
        refine zt_l (Option.some.inj e_18) ?_
        refine va_put (D := D) (ci := 5) (v := .long y_18) (ty := .long) (C := RX6) (T := TX6) (N := 33) hx hb hts (fun w h => wm (zin_X6 w h)) tyX6 tyX6_ok nmX6 hown hK hP hD hS 0 rfl rfl 11 (by decide) (hts _ (wm zw_648)) (fun _ h9 => h9) rfl (by decide +kernel) rfl rfl (Nat.le_of_ble_eq_true rfl) dX6_measure_85 (fun H locs hP hD hS => ?_)
        have hP : va_P D vwCl (mW c4 z (tL (tI (tL (tI (tI (tI v 9 (0 : Int32)) 10 (0 : Int32)) 5 (0 : Int32)) 8 y_16) 10 y_17) 11 y_18)) H := hP
        have hD : va_D A (mW c4 z (tL (tI (tL (tI (tI (tI v 9 (0 : Int32)) 10 (0 : Int32)) 5 (0 : Int32)) 8 y_16) 10 y_17) 11 y_18)) := hD
        refine lv_aload_n hx hb dX6_measure_88 rfl (lv_at hl 1 rfl) ?_
        refine lv_aload_n hx hb dX6_measure_89 rfl (lv_at hl 1 rfl) ?_
        refine va_get (D := D) (ci := 5) (v := .long y_18) (C := RX6) (T := TX6) (N := 33) hx hb hts (fun w h => wm (zin_X6 w h)) hown hK hP 0 rfl rfl 11 (by decide) (hts _ (wm zw_648)) (fun _ h9 => h9) rfl dX6_measure_90 ?_
        refine va_put (D := D) (ci := 5) (v := .long y_18) (ty := .long) (C := RX6) (T := TX6) (N := 33) hx hb hts (fun w h => wm (zin_X6 w h)) tyX6 tyX6_ok nmX6 hown hK hP hD hS 0 rfl rfl 12 (by decide) (hts _ (wm zw_649)) (fun _ h9 => h9) rfl (by decide +kernel) rfl rfl (Nat.le_of_ble_eq_true rfl) dX6_measure_93 (fun H locs hP hD hS => ?_)
        have hP : va_P D vwCl (mW c4 z (tL (tL (tI (tL (tI (tI (tI v 9 (0 : Int32)) 10 (0 : Int32)) 5 (0 : Int32)) 8 y_16) 10 y_17) 11 y_18) 12 y_18)) H := hP
        have hD : va_D A (mW c4 z (tL (tL (tI (tL (tI (tI (tI v 9 (0 : Int32)) 10 (0 : Int32)) 5 (0 : Int32)) 8 y_16) 10 y_17) 11 y_18) 12 y_18)) := hD
        refine lv_aload_n hx hb dX6_measure_96 rfl (lv_at hl 1 rfl) ?_
        refine va_get (D := D) (ci := 5) (v := .long y_18) (C := RX6) (T := TX6) (N := 33) hx hb hts (fun w h => wm (zin_X6 w h)) hown hK hP 0 rfl rfl 11 (by decide) (hts _ (wm zw_648)) (fun _ h9 => h9) rfl dX6_measure_97 ?_
        refine lv_iload_n hx hb dX6_measure_100 rfl (lv_at hl 0 rfl) ?_
        refine lv_i2l hx hb dX6_measure_101 rfl ?_
        refine W.lcmp hx hb dX6_measure_102 ?_
        refine lv_if_le (tgt := 110) hx hb dX6_measure_103 (by decide) (fun c_19 => ?_) (fun c_19 => ?_)
        · skip
          have c_19 := (lg_cmp_le _ _).mp c_19
          rw [if_pos c_19] at h
          refine lv_iconst (v := (0 : Int32)) hx hb dX6_measure_110 (by decide) ?_
          exact W.iret (v := (0 : Int32)) hx hb hr (fun t ht hW => ⟨⟨(0 : Int32), (tL (tL (tI (tL (tI (tI (tI v 9 (0 : Int32)) 10 (0 : Int32)) 5 (0 : Int32)) 8 y_16) 10 y_17) 11 y_18) 12 y_18), rfl, (Option.some.inj h).symm, wPre_go hP hD hK hA hS ht hW.alike⟩, hS.F ht⟩) hS.2.2 dX6_measure_111
        · skip
          have c_19 := mt (lg_cmp_le _ _).mpr c_19
          rw [if_neg c_19] at h
          refine lv_iconst (v := (1 : Int32)) hx hb dX6_measure_106 (by decide) ?_
          refine lv_goto (tgt := 111) hx hb dX6_measure_107 (by decide) ?_
          exact W.iret (v := (1 : Int32)) hx hb hr (fun t ht hW => ⟨⟨(1 : Int32), (tL (tL (tI (tL (tI (tI (tI v 9 (0 : Int32)) 10 (0 : Int32)) 5 (0 : Int32)) 8 y_16) 10 y_17) 11 y_18) 12 y_18), rfl, (Option.some.inj h).symm, wPre_go hP hD hK hA hS ht hW.alike⟩, hS.F ht⟩) hS.2.2 dX6_measure_111
    · skip
      rw [if_neg c_9] at h
      refine lv_iconst (v := (1 : Int32)) hx hb dX6_measure_26 (by decide) ?_
      exact W.iret (v := (1 : Int32)) hx hb hr (fun t ht hW => ⟨⟨(1 : Int32), v, rfl, (Option.some.inj h).symm, wPre_go hP hD hK hA hS ht hW.alike⟩, hS.F ht⟩) hS.2.2 dX6_measure_27
def pX6_locate (v : MS) (a1 : Int32) (a2 : Int32) : Option (MS × Int32) := ((pX6_follow v a1 a2).bind fun x_1 => (if (x_1.2) = 0 then ((pX6_measure (x_1.1) (Vl (x_1.1) 11)).bind fun x_5 => (if (1 : Int64) ≤ (Vl (x_5.1) 12) then ((some (Vl (x_5.1) 12)).bind fun y_7 => some ((tL (x_5.1) 12 y_7), (x_5.2))) else some ((tL (x_5.1) 12 (1 : Int64)), (x_5.2)))) else (if (1 : Int64) ≤ (Vl (x_1.1) 12) then ((some (Vl (x_1.1) 12)).bind fun y_4 => some ((tL (x_1.1) 12 y_4), (x_1.2))) else some ((tL (x_1.1) 12 (1 : Int64)), (x_1.2)))))
set_option maxHeartbeats 4000000 in
set_option maxRecDepth 100000 in
theorem ct_X6_locate (l : Launch) (D : va_G) (c4 : Nat → ClassId) (A : Nat → Prop) (z : Nat → Nat) (v : MS) (a1 : Int32) (a2 : Int32) (res : MS × Int32) (h : pX6_locate v a1 a2 = some res) : Met l yX6_locate (wz yX6_locate cX6_locate 4 (some .int)) ({ frames := 2, cells := 0, slots := 0, locals := 53 } : Room) (va_Pc [.ref (z 0), .int a1, .int a2] (fun U => mPre D c4 A z v U)) (va_Qi (fun q w => res = (w, q)) (fun w t => wPre D c4 A (mW c4 z w) t) A) 0 0 A := by
  refine Met.ofW (cc := cX6_locate) (maxL := 4) (ret := (some .int)) (by decide) rfl ?_
  intro p e s m args below meth c s₁ B hml hv
  obtain ⟨rfl, hP, hD, hK, hA⟩ := hv
  have hx := B.exec
  have hb := B.bytes
  have hr := B.returns
  have hts := atoms_spec (ws := (wz yX6_locate cX6_locate 4 (some .int))) B.pre
  have hown : s.vm.findClass RX6 = some m.cls := findClass_of_methodNamed B.named
  have hlocks := B.notSynchronized
  have hS : va_S A s.heap s.heap [] := va_S.rf
  have hl := lv_entry ([.ref (z 0), .int a1, .int a2]) (n := 4) (Nat.le_of_ble_eq_true rfl)
  rw [lg_entry_eq]
  generalize (lg_sl ([.ref (z 0), .int a1, .int a2]) ++ List.replicate (4 - (lg_sl ([.ref (z 0), .int a1, .int a2])).length) Slot.unset).toArray = ls at hl ⊢
  have hl : lv_has ls 4 [(0, .ref (z 0)), (1, .int a1), (2, .int a2)] := hl
  unfold pX6_locate at h
  refine lv_aload_n hx hb dX6_locate_0 rfl (lv_at hl 0 rfl) ?_
  refine lv_iload_n hx hb dX6_locate_1 rfl (lv_at hl 1 rfl) ?_
  refine lv_iload_n hx hb dX6_locate_2 rfl (lv_at hl 2 rfl) ?_
  obtain ⟨x_1, hc_1, h⟩ := zb_bind h
  try dsimp only at h
  refine va_calli (va_runV (As := [.int a1, .int a2]) (rest := []) ⟨hx, hb, hml, hown, hts⟩ (ct_X6_follow l D c4 A z v a1 a2 _ hc_1) (cwV 2 hts (wz_V zw_782 zw_784 zs_20 zw_6 zw_785) rfl rfl rfl (by decide +kernel) ⟨Nat.le_of_ble_eq_true rfl, Nat.le_of_ble_eq_true rfl⟩) ⟨fbM, va_recv hK hP (ci := 5) (q0 := 0) rfl rfl, fun U9 hU hW => ⟨rfl, wPre_go hP hD hK hA hS hU hW.alike⟩⟩ rfl rfl hl.1 rfl (lv_room (Nat.le_of_ble_eq_true rfl)) dX6_locate_3 ⟨Nat.le_of_ble_eq_true rfl, Nat.le_of_ble_eq_true rfl⟩) hS (fun q _ h => h) (fun q h => h) (fun r_1 u_1 t H1 locs ht hvm e_1 hB hz1 hk1 hS => ?_)
  subst e_1
  try dsimp only at h
  obtain ⟨hP, hD, -, -⟩ := hB
  rw [ht] at hP
  generalize H1 = H at hP hS ⊢
  refine lv_istore_n (lv' := [(3, .int r_1), (0, .ref (z 0)), (1, .int a1), (2, .int a2)]) hx hb dX6_locate_6 rfl hl (by decide) rfl (fun ls hl => ?_)
  refine lv_iload_n hx hb dX6_locate_7 rfl (lv_at hl 0 rfl) ?_
  refine lv_if_ne (tgt := 22) hx hb dX6_locate_8 (by decide) (fun c_2 => ?_) (fun c_2 => ?_)
  · skip
    rw [if_neg c_2] at h
    refine lv_iload_n hx hb dX6_locate_22 rfl (lv_at hl 0 rfl) ?_
    refine lv_istore_n (lv' := [(3, .int r_1), (0, .ref (z 0)), (1, .int a1), (2, .int a2)]) hx hb dX6_locate_23 rfl hl (by decide) rfl (fun ls hl => ?_)
    refine lv_aload_n hx hb dX6_locate_24 rfl (lv_at hl 1 rfl) ?_
    refine lv_aload_n hx hb dX6_locate_25 rfl (lv_at hl 1 rfl) ?_
    refine va_get (D := D) (ci := 5) (v := .long (Vl u_1 12)) (C := RX6) (T := TX6) (N := 33) hx hb hts (fun w h => wm (zin_X6 w h)) hown hK hP 0 rfl rfl 12 (by decide) (hts _ (wm zw_649)) (fun _ h9 => h9) rfl dX6_locate_26 ?_
    refine lv_lconst (v := (1 : Int64)) hx hb dX6_locate_29 (by decide) ?_
    refine W.lcmp hx hb dX6_locate_30 ?_
    refine lv_if_ge (tgt := 38) hx hb dX6_locate_31 (by decide) (fun c_3 => ?_) (fun c_3 => ?_)
    · skip
      have c_3 := (lg_cmp_ge _ _).mp c_3
      rw [if_pos c_3] at h
      refine lv_aload_n hx hb dX6_locate_38 rfl (lv_at hl 1 rfl) ?_
      refine va_get (D := D) (ci := 5) (v := .long (Vl u_1 12)) (C := RX6) (T := TX6) (N := 33) hx hb hts (fun w h => wm (zin_X6 w h)) hown hK hP 0 rfl rfl 12 (by decide) (hts _ (wm zw_649)) (fun _ h9 => h9) rfl dX6_locate_39 ?_
      obtain ⟨y_4, e_4, h⟩ := zb_bind h
      try dsimp only at h
      refine zt_l (Option.some.inj e_4) ?_
      refine va_put (D := D) (ci := 5) (v := .long y_4) (ty := .long) (C := RX6) (T := TX6) (N := 33) hx hb hts (fun w h => wm (zin_X6 w h)) tyX6 tyX6_ok nmX6 hown hK hP hD hS 0 rfl rfl 12 (by decide) (hts _ (wm zw_649)) (fun _ h9 => h9) rfl (by decide +kernel) rfl rfl (Nat.le_of_ble_eq_true rfl) dX6_locate_42 (fun H locs hP hD hS => ?_)
      have hP : va_P D vwCl (mW c4 z (tL u_1 12 y_4)) H := hP
      have hD : va_D A (mW c4 z (tL u_1 12 y_4)) := hD
      refine lv_iload_n hx hb dX6_locate_45 rfl (lv_at hl 0 rfl) ?_
      exact W.iret (v := r_1) hx hb hr (fun t ht hW => ⟨⟨r_1, (tL u_1 12 y_4), rfl, (Option.some.inj h).symm, wPre_go hP hD hK hA hS ht hW.alike⟩, hS.F ht⟩) hS.2.2 dX6_locate_46
    · skip
      have c_3 := mt (lg_cmp_ge _ _).mpr c_3
      rw [if_neg c_3] at h
      refine lv_lconst (v := (1 : Int64)) hx hb dX6_locate_34 (by decide) ?_
      refine lv_goto (tgt := 42) hx hb dX6_locate_35 (by decide) ?_
      refine va_put (D := D) (ci := 5) (v := .long (1 : Int64)) (ty := .long) (C := RX6) (T := TX6) (N := 33) hx hb hts (fun w h => wm (zin_X6 w h)) tyX6 tyX6_ok nmX6 hown hK hP hD hS 0 rfl rfl 12 (by decide) (hts _ (wm zw_649)) (fun _ h9 => h9) rfl (by decide +kernel) rfl rfl (Nat.le_of_ble_eq_true rfl) dX6_locate_42 (fun H locs hP hD hS => ?_)
      have hP : va_P D vwCl (mW c4 z (tL u_1 12 (1 : Int64))) H := hP
      have hD : va_D A (mW c4 z (tL u_1 12 (1 : Int64))) := hD
      refine lv_iload_n hx hb dX6_locate_45 rfl (lv_at hl 0 rfl) ?_
      exact W.iret (v := r_1) hx hb hr (fun t ht hW => ⟨⟨r_1, (tL u_1 12 (1 : Int64)), rfl, (Option.some.inj h).symm, wPre_go hP hD hK hA hS ht hW.alike⟩, hS.F ht⟩) hS.2.2 dX6_locate_46
  · skip
    rw [if_pos c_2] at h
    refine lv_aload_n hx hb dX6_locate_11 rfl (lv_at hl 1 rfl) ?_
    refine lv_aload_n hx hb dX6_locate_12 rfl (lv_at hl 1 rfl) ?_
    refine va_get (D := D) (ci := 5) (v := .long (Vl u_1 11)) (C := RX6) (T := TX6) (N := 33) hx hb hts (fun w h => wm (zin_X6 w h)) hown hK hP 0 rfl rfl 11 (by decide) (hts _ (wm zw_648)) (fun _ h9 => h9) rfl dX6_locate_13 ?_
    obtain ⟨x_5, hc_5, h⟩ := zb_bind h
    try dsimp only at h
    refine va_calli (va_runV (As := [.long (Vl u_1 11)]) (rest := []) ⟨hx, hb, hml, hown, hts⟩ (ct_X6_measure l D c4 A z u_1 (Vl u_1 11) _ hc_5) (cwV 1 hts (wz_V zw_797 zw_799 zs_21 zw_6 zw_800) rfl rfl rfl (by decide +kernel) ⟨Nat.le_of_ble_eq_true rfl, Nat.le_of_ble_eq_true rfl⟩) ⟨fbM, va_recv hK hP (ci := 5) (q0 := 0) rfl rfl, fun U9 hU hW => ⟨rfl, wPre_go hP hD hK hA hS hU hW.alike⟩⟩ rfl rfl hl.1 rfl (lv_room (Nat.le_of_ble_eq_true rfl)) dX6_locate_16 ⟨Nat.le_of_ble_eq_true rfl, Nat.le_of_ble_eq_true rfl⟩) hS (fun q _ h => h) (fun q h => h) (fun r_5 u_5 t H1 locs ht hvm e_5 hB hz1 hk1 hS => ?_)
    subst e_5
    try dsimp only at h
    obtain ⟨hP, hD, -, -⟩ := hB
    rw [ht] at hP
    generalize H1 = H at hP hS ⊢
    refine lv_goto (tgt := 23) hx hb dX6_locate_19 (by decide) ?_
    refine lv_istore_n (lv' := [(3, .int r_5), (0, .ref (z 0)), (1, .int a1), (2, .int a2)]) hx hb dX6_locate_23 rfl hl (by decide) rfl (fun ls hl => ?_)
    refine lv_aload_n hx hb dX6_locate_24 rfl (lv_at hl 1 rfl) ?_
    refine lv_aload_n hx hb dX6_locate_25 rfl (lv_at hl 1 rfl) ?_
    refine va_get (D := D) (ci := 5) (v := .long (Vl u_5 12)) (C := RX6) (T := TX6) (N := 33) hx hb hts (fun w h => wm (zin_X6 w h)) hown hK hP 0 rfl rfl 12 (by decide) (hts _ (wm zw_649)) (fun _ h9 => h9) rfl dX6_locate_26 ?_
    refine lv_lconst (v := (1 : Int64)) hx hb dX6_locate_29 (by decide) ?_
    refine W.lcmp hx hb dX6_locate_30 ?_
    refine lv_if_ge (tgt := 38) hx hb dX6_locate_31 (by decide) (fun c_6 => ?_) (fun c_6 => ?_)
    · skip
      have c_6 := (lg_cmp_ge _ _).mp c_6
      rw [if_pos c_6] at h
      refine lv_aload_n hx hb dX6_locate_38 rfl (lv_at hl 1 rfl) ?_
      refine va_get (D := D) (ci := 5) (v := .long (Vl u_5 12)) (C := RX6) (T := TX6) (N := 33) hx hb hts (fun w h => wm (zin_X6 w h)) hown hK hP 0 rfl rfl 12 (by decide) (hts _ (wm zw_649)) (fun _ h9 => h9) rfl dX6_locate_39 ?_
      obtain ⟨y_7, e_7, h⟩ := zb_bind h
      try dsimp only at h
      refine zt_l (Option.some.inj e_7) ?_
      refine va_put (D := D) (ci := 5) (v := .long y_7) (ty := .long) (C := RX6) (T := TX6) (N := 33) hx hb hts (fun w h => wm (zin_X6 w h)) tyX6 tyX6_ok nmX6 hown hK hP hD hS 0 rfl rfl 12 (by decide) (hts _ (wm zw_649)) (fun _ h9 => h9) rfl (by decide +kernel) rfl rfl (Nat.le_of_ble_eq_true rfl) dX6_locate_42 (fun H locs hP hD hS => ?_)
      have hP : va_P D vwCl (mW c4 z (tL u_5 12 y_7)) H := hP
      have hD : va_D A (mW c4 z (tL u_5 12 y_7)) := hD
      refine lv_iload_n hx hb dX6_locate_45 rfl (lv_at hl 0 rfl) ?_
      exact W.iret (v := r_5) hx hb hr (fun t ht hW => ⟨⟨r_5, (tL u_5 12 y_7), rfl, (Option.some.inj h).symm, wPre_go hP hD hK hA hS ht hW.alike⟩, hS.F ht⟩) hS.2.2 dX6_locate_46
    · skip
      have c_6 := mt (lg_cmp_ge _ _).mpr c_6
      rw [if_neg c_6] at h
      refine lv_lconst (v := (1 : Int64)) hx hb dX6_locate_34 (by decide) ?_
      refine lv_goto (tgt := 42) hx hb dX6_locate_35 (by decide) ?_
      refine va_put (D := D) (ci := 5) (v := .long (1 : Int64)) (ty := .long) (C := RX6) (T := TX6) (N := 33) hx hb hts (fun w h => wm (zin_X6 w h)) tyX6 tyX6_ok nmX6 hown hK hP hD hS 0 rfl rfl 12 (by decide) (hts _ (wm zw_649)) (fun _ h9 => h9) rfl (by decide +kernel) rfl rfl (Nat.le_of_ble_eq_true rfl) dX6_locate_42 (fun H locs hP hD hS => ?_)
      have hP : va_P D vwCl (mW c4 z (tL u_5 12 (1 : Int64))) H := hP
      have hD : va_D A (mW c4 z (tL u_5 12 (1 : Int64))) := hD
      refine lv_iload_n hx hb dX6_locate_45 rfl (lv_at hl 0 rfl) ?_
      exact W.iret (v := r_5) hx hb hr (fun t ht hW => ⟨⟨r_5, (tL u_5 12 (1 : Int64)), rfl, (Option.some.inj h).symm, wPre_go hP hD hK hA hS ht hW.alike⟩, hS.F ht⟩) hS.2.2 dX6_locate_46
def pX6_find (v : MS) (a1 : Int32) (a2 : Int32) (a3 : Int32) (a4 : Int32) : Option (MS × Int32) := ((pX6_locate v a1 a2).bind fun x_1 => (if (x_1.2) = 0 then (if (8 : Int32) < a3 then some ((x_1.1), (3 : Int32)) else (if (Vl (x_1.1) 12) ≤ (a4.toInt64) then some ((x_1.1), (0 : Int32)) else some ((x_1.1), (3 : Int32)))) else some ((x_1.1), (x_1.2))))
set_option maxHeartbeats 4000000 in
set_option maxRecDepth 100000 in
theorem ct_X6_find (l : Launch) (D : va_G) (c4 : Nat → ClassId) (A : Nat → Prop) (z : Nat → Nat) (v : MS) (a1 : Int32) (a2 : Int32) (a3 : Int32) (a4 : Int32) (res : MS × Int32) (h : pX6_find v a1 a2 a3 a4 = some res) : Met l yX6_find (wz yX6_find cX6_find 6 (some .int)) ({ frames := 3, cells := 0, slots := 0, locals := 76 } : Room) (va_Pc [.ref (z 0), .int a1, .int a2, .int a3, .int a4] (fun U => mPre D c4 A z v U)) (va_Qi (fun q w => res = (w, q)) (fun w t => wPre D c4 A (mW c4 z w) t) A) 0 0 A := by
  refine Met.ofW (cc := cX6_find) (maxL := 6) (ret := (some .int)) (by decide) rfl ?_
  intro p e s m args below meth c s₁ B hml hv
  obtain ⟨rfl, hP, hD, hK, hA⟩ := hv
  have hx := B.exec
  have hb := B.bytes
  have hr := B.returns
  have hts := atoms_spec (ws := (wz yX6_find cX6_find 6 (some .int))) B.pre
  have hown : s.vm.findClass RX6 = some m.cls := findClass_of_methodNamed B.named
  have hlocks := B.notSynchronized
  have hS : va_S A s.heap s.heap [] := va_S.rf
  have hl := lv_entry ([.ref (z 0), .int a1, .int a2, .int a3, .int a4]) (n := 6) (Nat.le_of_ble_eq_true rfl)
  rw [lg_entry_eq]
  generalize (lg_sl ([.ref (z 0), .int a1, .int a2, .int a3, .int a4]) ++ List.replicate (6 - (lg_sl ([.ref (z 0), .int a1, .int a2, .int a3, .int a4])).length) Slot.unset).toArray = ls at hl ⊢
  have hl : lv_has ls 6 [(0, .ref (z 0)), (1, .int a1), (2, .int a2), (3, .int a3), (4, .int a4)] := hl
  unfold pX6_find at h
  refine lv_aload_n hx hb dX6_find_0 rfl (lv_at hl 0 rfl) ?_
  refine lv_iload_n hx hb dX6_find_1 rfl (lv_at hl 1 rfl) ?_
  refine lv_iload_n hx hb dX6_find_2 rfl (lv_at hl 2 rfl) ?_
  obtain ⟨x_1, hc_1, h⟩ := zb_bind h
  try dsimp only at h
  refine va_calli (va_runV (As := [.int a1, .int a2]) (rest := []) ⟨hx, hb, hml, hown, hts⟩ (ct_X6_locate l D c4 A z v a1 a2 _ hc_1) (cwV 2 hts (wz_V zw_778 zw_780 zs_19 zw_6 zw_781) rfl rfl rfl (by decide +kernel) ⟨Nat.le_of_ble_eq_true rfl, Nat.le_of_ble_eq_true rfl⟩) ⟨fbM, va_recv hK hP (ci := 5) (q0 := 0) rfl rfl, fun U9 hU hW => ⟨rfl, wPre_go hP hD hK hA hS hU hW.alike⟩⟩ rfl rfl hl.1 rfl (lv_room (Nat.le_of_ble_eq_true rfl)) dX6_find_3 ⟨Nat.le_of_ble_eq_true rfl, Nat.le_of_ble_eq_true rfl⟩) hS (fun q _ h => h) (fun q h => h) (fun r_1 u_1 t H1 locs ht hvm e_1 hB hz1 hk1 hS => ?_)
  subst e_1
  try dsimp only at h
  obtain ⟨hP, hD, -, -⟩ := hB
  rw [ht] at hP
  generalize H1 = H at hP hS ⊢
  refine lv_istore (lv' := [(5, .int r_1), (0, .ref (z 0)), (1, .int a1), (2, .int a2), (3, .int a3), (4, .int a4)]) hx hb dX6_find_6 hl (by decide) rfl (fun ls hl => ?_)
  refine lv_iload hx hb dX6_find_8 (lv_at hl 0 rfl) ?_
  refine lv_if_eq (tgt := 18) hx hb dX6_find_10 (by decide) (fun c_2 => ?_) (fun c_2 => ?_)
  · skip
    rw [if_pos c_2] at h
    refine lv_iload_n hx hb dX6_find_18 rfl (lv_at hl 4 rfl) ?_
    refine lv_bipush (v := (8 : Int32)) hx hb dX6_find_19 (by decide) ?_
    refine lv_icmp_gt (tgt := 35) hx hb dX6_find_21 (by decide) (fun c_3 => ?_) (fun c_3 => ?_)
    · skip
      rw [if_pos c_3] at h
      refine lv_iconst (v := (3 : Int32)) hx hb dX6_find_35 (by decide) ?_
      refine lv_goto (tgt := 40) hx hb dX6_find_36 (by decide) ?_
      exact W.iret (v := (3 : Int32)) hx hb hr (fun t ht hW => ⟨⟨(3 : Int32), u_1, rfl, (Option.some.inj h).symm, wPre_go hP hD hK hA hS ht hW.alike⟩, hS.F ht⟩) hS.2.2 dX6_find_40
    · skip
      rw [if_neg c_3] at h
      refine lv_aload_n hx hb dX6_find_24 rfl (lv_at hl 1 rfl) ?_
      refine va_get (D := D) (ci := 5) (v := .long (Vl u_1 12)) (C := RX6) (T := TX6) (N := 33) hx hb hts (fun w h => wm (zin_X6 w h)) hown hK hP 0 rfl rfl 12 (by decide) (hts _ (wm zw_649)) (fun _ h9 => h9) rfl dX6_find_25 ?_
      refine lv_iload hx hb dX6_find_28 (lv_at hl 5 rfl) ?_
      refine lv_i2l hx hb dX6_find_30 rfl ?_
      refine W.lcmp hx hb dX6_find_31 ?_
      refine lv_if_le (tgt := 39) hx hb dX6_find_32 (by decide) (fun c_4 => ?_) (fun c_4 => ?_)
      · skip
        have c_4 := (lg_cmp_le _ _).mp c_4
        rw [if_pos c_4] at h
        refine lv_iconst (v := (0 : Int32)) hx hb dX6_find_39 (by decide) ?_
        exact W.iret (v := (0 : Int32)) hx hb hr (fun t ht hW => ⟨⟨(0 : Int32), u_1, rfl, (Option.some.inj h).symm, wPre_go hP hD hK hA hS ht hW.alike⟩, hS.F ht⟩) hS.2.2 dX6_find_40
      · skip
        have c_4 := mt (lg_cmp_le _ _).mpr c_4
        rw [if_neg c_4] at h
        refine lv_iconst (v := (3 : Int32)) hx hb dX6_find_35 (by decide) ?_
        refine lv_goto (tgt := 40) hx hb dX6_find_36 (by decide) ?_
        exact W.iret (v := (3 : Int32)) hx hb hr (fun t ht hW => ⟨⟨(3 : Int32), u_1, rfl, (Option.some.inj h).symm, wPre_go hP hD hK hA hS ht hW.alike⟩, hS.F ht⟩) hS.2.2 dX6_find_40
  · skip
    rw [if_neg c_2] at h
    refine lv_iload hx hb dX6_find_13 (lv_at hl 0 rfl) ?_
    refine lv_goto (tgt := 40) hx hb dX6_find_15 (by decide) ?_
    exact W.iret (v := r_1) hx hb hr (fun t ht hW => ⟨⟨r_1, u_1, rfl, (Option.some.inj h).symm, wPre_go hP hD hK hA hS ht hW.alike⟩, hS.F ht⟩) hS.2.2 dX6_find_40
def pX6_findRoot (v : MS) : Option (MS × Int32) := (if inb (0 : Int32) 4 = true then (if (Va v 2 (0 : Int32).toNatClampNeg) = 0 then some (v, (1 : Int32)) else (if inb (0 : Int32) 256 = true then (if (Vr v 1 (0 : Int32).toNatClampNeg) = (0 : Int64) then some (v, (2 : Int32)) else ((pX6_locate v (0 : Int32) (0 : Int32)).bind fun x_5 => (if (x_5.2) = (1 : Int32) then some ((x_5.1), (1 : Int32)) else (if (x_5.2) = (2 : Int32) then some ((x_5.1), (3 : Int32)) else (if (Vi (x_5.1) 5) = 0 then (if (Vl (x_5.1) 12) ≤ ((Vi (x_5.1) 3).toInt64) then some ((x_5.1), (0 : Int32)) else some ((x_5.1), (4 : Int32))) else some ((x_5.1), (3 : Int32))))))) else none)) else none)
set_option maxHeartbeats 4000000 in
set_option maxRecDepth 100000 in
theorem ct_X6_findRoot (l : Launch) (D : va_G) (c4 : Nat → ClassId) (A : Nat → Prop) (z : Nat → Nat) (v : MS) (res : MS × Int32) (h : pX6_findRoot v = some res) : Met l yX6_findRoot (wz yX6_findRoot cX6_findRoot 2 (some .int)) ({ frames := 3, cells := 0, slots := 0, locals := 76 } : Room) (va_Pc [.ref (z 0)] (fun U => mPre D c4 A z v U)) (va_Qi (fun q w => res = (w, q)) (fun w t => wPre D c4 A (mW c4 z w) t) A) 0 0 A := by
  refine Met.ofW (cc := cX6_findRoot) (maxL := 2) (ret := (some .int)) (by decide) rfl ?_
  intro p e s m args below meth c s₁ B hml hv
  obtain ⟨rfl, hP, hD, hK, hA⟩ := hv
  have hx := B.exec
  have hb := B.bytes
  have hr := B.returns
  have hts := atoms_spec (ws := (wz yX6_findRoot cX6_findRoot 2 (some .int))) B.pre
  have hown : s.vm.findClass RX6 = some m.cls := findClass_of_methodNamed B.named
  have hlocks := B.notSynchronized
  have hS : va_S A s.heap s.heap [] := va_S.rf
  have hl := lv_entry ([.ref (z 0)]) (n := 2) (Nat.le_of_ble_eq_true rfl)
  rw [lg_entry_eq]
  generalize (lg_sl ([.ref (z 0)]) ++ List.replicate (2 - (lg_sl ([.ref (z 0)])).length) Slot.unset).toArray = ls at hl ⊢
  have hl : lv_has ls 2 [(0, .ref (z 0))] := hl
  unfold pX6_findRoot at h
  refine lv_aload_n hx hb dX6_findRoot_0 rfl (lv_at hl 0 rfl) ?_
  refine va_get (D := D) (ci := 5) (v := .ref (z 2)) (C := RX6) (T := TX6) (N := 33) hx hb hts (fun w h => wm (zin_X6 w h)) hown hK hP 0 rfl rfl 2 (by decide) (hts _ (wm zw_639)) (fun _ h9 => h9) rfl dX6_findRoot_1 ?_
  refine lv_iconst (v := (0 : Int32)) hx hb dX6_findRoot_4 (by decide) ?_
  obtain ⟨hi_1, h⟩ := zb_if h
  refine va_iald hx hb hK hP 2 3 rfl rfl (inb_in hi_1) dX6_findRoot_5 ?_
  refine W.eq (g2 := F0 m 6 ls ([.int (Va v 2 (0 : Int32).toNatClampNeg)])) rfl ?_
  refine lv_if_ne (tgt := 11) hx hb dX6_findRoot_6 (by decide) (fun c_2 => ?_) (fun c_2 => ?_)
  · skip
    rw [if_neg c_2] at h
    refine lv_aload_n hx hb dX6_findRoot_11 rfl (lv_at hl 0 rfl) ?_
    refine va_get (D := D) (ci := 5) (v := .ref (z 1)) (C := RX6) (T := TX6) (N := 33) hx hb hts (fun w h => wm (zin_X6 w h)) hown hK hP 0 rfl rfl 1 (by decide) (hts _ (wm zw_638)) (fun _ h9 => h9) rfl dX6_findRoot_12 ?_
    refine lv_iconst (v := (0 : Int32)) hx hb dX6_findRoot_15 (by decide) ?_
    obtain ⟨hi_3, h⟩ := zb_if h
    refine va_lald hx hb hK hP 1 0 rfl rfl (inb_in hi_3) dX6_findRoot_16 ?_
    refine W.eq (g2 := F0 m 17 ls ([.long (Vr v 1 (0 : Int32).toNatClampNeg)])) rfl ?_
    refine lv_lconst (v := (0 : Int64)) hx hb dX6_findRoot_17 (by decide) ?_
    refine W.lcmp hx hb dX6_findRoot_18 ?_
    refine lv_if_ne (tgt := 24) hx hb dX6_findRoot_19 (by decide) (fun c_4 => ?_) (fun c_4 => ?_)
    · skip
      have c_4 := mt (lg_cmp_eq _ _).mpr c_4
      rw [if_neg c_4] at h
      refine lv_aload_n hx hb dX6_findRoot_24 rfl (lv_at hl 0 rfl) ?_
      refine lv_iconst (v := (0 : Int32)) hx hb dX6_findRoot_25 (by decide) ?_
      refine lv_iconst (v := (0 : Int32)) hx hb dX6_findRoot_26 (by decide) ?_
      obtain ⟨x_5, hc_5, h⟩ := zb_bind h
      try dsimp only at h
      refine va_calli (va_runV (As := [.int (0 : Int32), .int (0 : Int32)]) (rest := []) ⟨hx, hb, hml, hown, hts⟩ (ct_X6_locate l D c4 A z v (0 : Int32) (0 : Int32) _ hc_5) (cwV 2 hts (wz_V zw_778 zw_780 zs_19 zw_6 zw_781) rfl rfl rfl (by decide +kernel) ⟨Nat.le_of_ble_eq_true rfl, Nat.le_of_ble_eq_true rfl⟩) ⟨fbM, va_recv hK hP (ci := 5) (q0 := 0) rfl rfl, fun U9 hU hW => ⟨rfl, wPre_go hP hD hK hA hS hU hW.alike⟩⟩ rfl rfl hl.1 rfl (lv_room (Nat.le_of_ble_eq_true rfl)) dX6_findRoot_27 ⟨Nat.le_of_ble_eq_true rfl, Nat.le_of_ble_eq_true rfl⟩) hS (fun q _ h => h) (fun q h => h) (fun r_5 u_5 t H1 locs ht hvm e_5 hB hz1 hk1 hS => ?_)
      subst e_5
      try dsimp only at h
      obtain ⟨hP, hD, -, -⟩ := hB
      rw [ht] at hP
      generalize H1 = H at hP hS ⊢
      refine lv_istore_n (lv' := [(1, .int r_5), (0, .ref (z 0))]) hx hb dX6_findRoot_30 rfl hl (by decide) rfl (fun ls hl => ?_)
      refine lv_iload_n hx hb dX6_findRoot_31 rfl (lv_at hl 0 rfl) ?_
      refine lv_iconst (v := (1 : Int32)) hx hb dX6_findRoot_32 (by decide) ?_
      refine lv_icmp_ne (tgt := 40) hx hb dX6_findRoot_33 (by decide) (fun c_6 => ?_) (fun c_6 => ?_)
      · skip
        rw [if_neg c_6] at h
        refine lv_iload_n hx hb dX6_findRoot_40 rfl (lv_at hl 0 rfl) ?_
        refine lv_iconst (v := (2 : Int32)) hx hb dX6_findRoot_41 (by decide) ?_
        refine lv_icmp_eq (tgt := 52) hx hb dX6_findRoot_42 (by decide) (fun c_7 => ?_) (fun c_7 => ?_)
        · skip
          rw [if_pos c_7] at h
          refine lv_iconst (v := (3 : Int32)) hx hb dX6_findRoot_52 (by decide) ?_
          refine lv_goto (tgt := 74) hx hb dX6_findRoot_53 (by decide) ?_
          exact W.iret (v := (3 : Int32)) hx hb hr (fun t ht hW => ⟨⟨(3 : Int32), u_5, rfl, (Option.some.inj h).symm, wPre_go hP hD hK hA hS ht hW.alike⟩, hS.F ht⟩) hS.2.2 dX6_findRoot_74
        · skip
          rw [if_neg c_7] at h
          refine lv_aload_n hx hb dX6_findRoot_45 rfl (lv_at hl 1 rfl) ?_
          refine va_get (D := D) (ci := 5) (v := .int (Vi u_5 5)) (C := RX6) (T := TX6) (N := 33) hx hb hts (fun w h => wm (zin_X6 w h)) hown hK hP 0 rfl rfl 5 (by decide) (hts _ (wm zw_642)) (fun _ h9 => h9) rfl dX6_findRoot_46 ?_
          refine lv_if_eq (tgt := 56) hx hb dX6_findRoot_49 (by decide) (fun c_8 => ?_) (fun c_8 => ?_)
          · skip
            rw [if_pos c_8] at h
            refine lv_aload_n hx hb dX6_findRoot_56 rfl (lv_at hl 1 rfl) ?_
            refine va_get (D := D) (ci := 5) (v := .long (Vl u_5 12)) (C := RX6) (T := TX6) (N := 33) hx hb hts (fun w h => wm (zin_X6 w h)) hown hK hP 0 rfl rfl 12 (by decide) (hts _ (wm zw_649)) (fun _ h9 => h9) rfl dX6_findRoot_57 ?_
            refine lv_aload_n hx hb dX6_findRoot_60 rfl (lv_at hl 1 rfl) ?_
            refine va_get (D := D) (ci := 5) (v := .int (Vi u_5 3)) (C := RX6) (T := TX6) (N := 33) hx hb hts (fun w h => wm (zin_X6 w h)) hown hK hP 0 rfl rfl 3 (by decide) (hts _ (wm zw_640)) (fun _ h9 => h9) rfl dX6_findRoot_61 ?_
            refine lv_i2l hx hb dX6_findRoot_64 rfl ?_
            refine W.lcmp hx hb dX6_findRoot_65 ?_
            refine lv_if_le (tgt := 73) hx hb dX6_findRoot_66 (by decide) (fun c_9 => ?_) (fun c_9 => ?_)
            · skip
              have c_9 := (lg_cmp_le _ _).mp c_9
              rw [if_pos c_9] at h
              refine lv_iconst (v := (0 : Int32)) hx hb dX6_findRoot_73 (by decide) ?_
              exact W.iret (v := (0 : Int32)) hx hb hr (fun t ht hW => ⟨⟨(0 : Int32), u_5, rfl, (Option.some.inj h).symm, wPre_go hP hD hK hA hS ht hW.alike⟩, hS.F ht⟩) hS.2.2 dX6_findRoot_74
            · skip
              have c_9 := mt (lg_cmp_le _ _).mpr c_9
              rw [if_neg c_9] at h
              refine lv_iconst (v := (4 : Int32)) hx hb dX6_findRoot_69 (by decide) ?_
              refine lv_goto (tgt := 74) hx hb dX6_findRoot_70 (by decide) ?_
              exact W.iret (v := (4 : Int32)) hx hb hr (fun t ht hW => ⟨⟨(4 : Int32), u_5, rfl, (Option.some.inj h).symm, wPre_go hP hD hK hA hS ht hW.alike⟩, hS.F ht⟩) hS.2.2 dX6_findRoot_74
          · skip
            rw [if_neg c_8] at h
            refine lv_iconst (v := (3 : Int32)) hx hb dX6_findRoot_52 (by decide) ?_
            refine lv_goto (tgt := 74) hx hb dX6_findRoot_53 (by decide) ?_
            exact W.iret (v := (3 : Int32)) hx hb hr (fun t ht hW => ⟨⟨(3 : Int32), u_5, rfl, (Option.some.inj h).symm, wPre_go hP hD hK hA hS ht hW.alike⟩, hS.F ht⟩) hS.2.2 dX6_findRoot_74
      · skip
        rw [if_pos c_6] at h
        refine lv_iconst (v := (1 : Int32)) hx hb dX6_findRoot_36 (by decide) ?_
        refine lv_goto (tgt := 74) hx hb dX6_findRoot_37 (by decide) ?_
        exact W.iret (v := (1 : Int32)) hx hb hr (fun t ht hW => ⟨⟨(1 : Int32), u_5, rfl, (Option.some.inj h).symm, wPre_go hP hD hK hA hS ht hW.alike⟩, hS.F ht⟩) hS.2.2 dX6_findRoot_74
    · skip
      have c_4 := (lg_cmp_eq _ _).mp c_4
      rw [if_pos c_4] at h
      refine lv_iconst (v := (2 : Int32)) hx hb dX6_findRoot_22 (by decide) ?_
      exact W.iret (v := (2 : Int32)) hx hb hr (fun t ht hW => ⟨⟨(2 : Int32), v, rfl, (Option.some.inj h).symm, wPre_go hP hD hK hA hS ht hW.alike⟩, hS.F ht⟩) hS.2.2 dX6_findRoot_23
  · skip
    rw [if_pos c_2] at h
    refine lv_iconst (v := (1 : Int32)) hx hb dX6_findRoot_9 (by decide) ?_
    exact W.iret (v := (1 : Int32)) hx hb hr (fun t ht hW => ⟨⟨(1 : Int32), v, rfl, (Option.some.inj h).symm, wPre_go hP hD hK hA hS ht hW.alike⟩, hS.F ht⟩) hS.2.2 dX6_findRoot_10
def pX6_hold (v : MS) (a1 : Int32) : Option (MS × Int32) := ((some (Vi v 5)).bind fun y_1 => (if inb (Vi v 13) 16 = true then ((some (Vi v 6)).bind fun y_3 => (if inb (Vi v 13) 16 = true then ((some (Vi v 7)).bind fun y_5 => (if inb (Vi v 13) 16 = true then ((some ((Vl v 8).toInt32)).bind fun y_7 => (if inb (Vi v 13) 16 = true then ((some (Vi v 9)).bind fun y_9 => (if inb (Vi v 13) 16 = true then ((some (Vi v 10)).bind fun y_11 => (if inb (Vi v 13) 16 = true then (if inb (Vi v 13) 16 = true then ((some ((Vi v 13) + (1 : Int32))).bind fun y_14 => some ((tI (tA (tA (tA (tA (tA (tA (tA v 14 (Vi v 13).toNatClampNeg y_1) 15 (Vi v 13).toNatClampNeg y_3) 16 (Vi v 13).toNatClampNeg y_5) 17 (Vi v 13).toNatClampNeg y_7) 18 (Vi v 13).toNatClampNeg y_9) 19 (Vi v 13).toNatClampNeg y_11) 20 (Vi v 13).toNatClampNeg a1) 13 y_14), (y_14 - (1 : Int32)))) else none) else none)) else none)) else none)) else none)) else none)) else none))
set_option maxHeartbeats 4000000 in
set_option maxRecDepth 100000 in
theorem ct_X6_hold (l : Launch) (D : va_G) (c4 : Nat → ClassId) (A : Nat → Prop) (z : Nat → Nat) (v : MS) (a1 : Int32) (res : MS × Int32) (h : pX6_hold v a1 = some res) : Met l yX6_hold (wz yX6_hold cX6_hold 2 (some .int)) ({ frames := 0, cells := 0, slots := 0, locals := 0 } : Room) (va_Pc [.ref (z 0), .int a1] (fun U => mPre D c4 A z v U)) (va_Qi (fun q w => res = (w, q)) (fun w t => wPre D c4 A (mW c4 z w) t) A) 0 0 A := by
  refine Met.ofW (cc := cX6_hold) (maxL := 2) (ret := (some .int)) (by decide) rfl ?_
  intro p e s m args below meth c s₁ B hml hv
  obtain ⟨rfl, hP, hD, hK, hA⟩ := hv
  have hx := B.exec
  have hb := B.bytes
  have hr := B.returns
  have hts := atoms_spec (ws := (wz yX6_hold cX6_hold 2 (some .int))) B.pre
  have hown : s.vm.findClass RX6 = some m.cls := findClass_of_methodNamed B.named
  have hlocks := B.notSynchronized
  have hS : va_S A s.heap s.heap [] := va_S.rf
  have hl := lv_entry ([.ref (z 0), .int a1]) (n := 2) (Nat.le_of_ble_eq_true rfl)
  rw [lg_entry_eq]
  generalize (lg_sl ([.ref (z 0), .int a1]) ++ List.replicate (2 - (lg_sl ([.ref (z 0), .int a1])).length) Slot.unset).toArray = ls at hl ⊢
  have hl : lv_has ls 2 [(0, .ref (z 0)), (1, .int a1)] := hl
  unfold pX6_hold at h
  refine lv_aload_n hx hb dX6_hold_0 rfl (lv_at hl 0 rfl) ?_
  refine va_get (D := D) (ci := 5) (v := .ref (z 14)) (C := RX6) (T := TX6) (N := 33) hx hb hts (fun w h => wm (zin_X6 w h)) hown hK hP 0 rfl rfl 14 (by decide) (hts _ (wm zw_651)) (fun _ h9 => h9) rfl dX6_hold_1 ?_
  refine lv_aload_n hx hb dX6_hold_4 rfl (lv_at hl 0 rfl) ?_
  refine va_get (D := D) (ci := 5) (v := .int (Vi v 13)) (C := RX6) (T := TX6) (N := 33) hx hb hts (fun w h => wm (zin_X6 w h)) hown hK hP 0 rfl rfl 13 (by decide) (hts _ (wm zw_650)) (fun _ h9 => h9) rfl dX6_hold_5 ?_
  refine lv_aload_n hx hb dX6_hold_8 rfl (lv_at hl 0 rfl) ?_
  refine va_get (D := D) (ci := 5) (v := .int (Vi v 5)) (C := RX6) (T := TX6) (N := 33) hx hb hts (fun w h => wm (zin_X6 w h)) hown hK hP 0 rfl rfl 5 (by decide) (hts _ (wm zw_642)) (fun _ h9 => h9) rfl dX6_hold_9 ?_
  obtain ⟨y_1, e_1, h⟩ := zb_bind h
  try dsimp only at h
  refine zt_i (Option.some.inj e_1) ?_
  obtain ⟨hi_2, h⟩ := zb_if h
  refine va_iast hx hb hK hP hD hS 3 3 rfl rfl (inb_in hi_2) dX6_hold_12 (fun H locs hP hD hS => ?_)
  have hP : va_P D vwCl (mW c4 z (tA v 14 (Vi v 13).toNatClampNeg y_1)) H := hP
  have hD : va_D A (mW c4 z (tA v 14 (Vi v 13).toNatClampNeg y_1)) := hD
  refine lv_aload_n hx hb dX6_hold_13 rfl (lv_at hl 0 rfl) ?_
  refine va_get (D := D) (ci := 5) (v := .ref (z 15)) (C := RX6) (T := TX6) (N := 33) hx hb hts (fun w h => wm (zin_X6 w h)) hown hK hP 0 rfl rfl 15 (by decide) (hts _ (wm zw_652)) (fun _ h9 => h9) rfl dX6_hold_14 ?_
  refine lv_aload_n hx hb dX6_hold_17 rfl (lv_at hl 0 rfl) ?_
  refine va_get (D := D) (ci := 5) (v := .int (Vi v 13)) (C := RX6) (T := TX6) (N := 33) hx hb hts (fun w h => wm (zin_X6 w h)) hown hK hP 0 rfl rfl 13 (by decide) (hts _ (wm zw_650)) (fun _ h9 => h9) rfl dX6_hold_18 ?_
  refine lv_aload_n hx hb dX6_hold_21 rfl (lv_at hl 0 rfl) ?_
  refine va_get (D := D) (ci := 5) (v := .int (Vi v 6)) (C := RX6) (T := TX6) (N := 33) hx hb hts (fun w h => wm (zin_X6 w h)) hown hK hP 0 rfl rfl 6 (by decide) (hts _ (wm zw_643)) (fun _ h9 => h9) rfl dX6_hold_22 ?_
  obtain ⟨y_3, e_3, h⟩ := zb_bind h
  try dsimp only at h
  refine zt_i (Option.some.inj e_3) ?_
  obtain ⟨hi_4, h⟩ := zb_if h
  refine va_iast hx hb hK hP hD hS 4 3 rfl rfl (inb_in hi_4) dX6_hold_25 (fun H locs hP hD hS => ?_)
  have hP : va_P D vwCl (mW c4 z (tA (tA v 14 (Vi v 13).toNatClampNeg y_1) 15 (Vi v 13).toNatClampNeg y_3)) H := hP
  have hD : va_D A (mW c4 z (tA (tA v 14 (Vi v 13).toNatClampNeg y_1) 15 (Vi v 13).toNatClampNeg y_3)) := hD
  refine lv_aload_n hx hb dX6_hold_26 rfl (lv_at hl 0 rfl) ?_
  refine va_get (D := D) (ci := 5) (v := .ref (z 16)) (C := RX6) (T := TX6) (N := 33) hx hb hts (fun w h => wm (zin_X6 w h)) hown hK hP 0 rfl rfl 16 (by decide) (hts _ (wm zw_653)) (fun _ h9 => h9) rfl dX6_hold_27 ?_
  refine lv_aload_n hx hb dX6_hold_30 rfl (lv_at hl 0 rfl) ?_
  refine va_get (D := D) (ci := 5) (v := .int (Vi v 13)) (C := RX6) (T := TX6) (N := 33) hx hb hts (fun w h => wm (zin_X6 w h)) hown hK hP 0 rfl rfl 13 (by decide) (hts _ (wm zw_650)) (fun _ h9 => h9) rfl dX6_hold_31 ?_
  refine lv_aload_n hx hb dX6_hold_34 rfl (lv_at hl 0 rfl) ?_
  refine va_get (D := D) (ci := 5) (v := .int (Vi v 7)) (C := RX6) (T := TX6) (N := 33) hx hb hts (fun w h => wm (zin_X6 w h)) hown hK hP 0 rfl rfl 7 (by decide) (hts _ (wm zw_644)) (fun _ h9 => h9) rfl dX6_hold_35 ?_
  obtain ⟨y_5, e_5, h⟩ := zb_bind h
  try dsimp only at h
  refine zt_i (Option.some.inj e_5) ?_
  obtain ⟨hi_6, h⟩ := zb_if h
  refine va_iast hx hb hK hP hD hS 5 3 rfl rfl (inb_in hi_6) dX6_hold_38 (fun H locs hP hD hS => ?_)
  have hP : va_P D vwCl (mW c4 z (tA (tA (tA v 14 (Vi v 13).toNatClampNeg y_1) 15 (Vi v 13).toNatClampNeg y_3) 16 (Vi v 13).toNatClampNeg y_5)) H := hP
  have hD : va_D A (mW c4 z (tA (tA (tA v 14 (Vi v 13).toNatClampNeg y_1) 15 (Vi v 13).toNatClampNeg y_3) 16 (Vi v 13).toNatClampNeg y_5)) := hD
  refine lv_aload_n hx hb dX6_hold_39 rfl (lv_at hl 0 rfl) ?_
  refine va_get (D := D) (ci := 5) (v := .ref (z 17)) (C := RX6) (T := TX6) (N := 33) hx hb hts (fun w h => wm (zin_X6 w h)) hown hK hP 0 rfl rfl 17 (by decide) (hts _ (wm zw_654)) (fun _ h9 => h9) rfl dX6_hold_40 ?_
  refine lv_aload_n hx hb dX6_hold_43 rfl (lv_at hl 0 rfl) ?_
  refine va_get (D := D) (ci := 5) (v := .int (Vi v 13)) (C := RX6) (T := TX6) (N := 33) hx hb hts (fun w h => wm (zin_X6 w h)) hown hK hP 0 rfl rfl 13 (by decide) (hts _ (wm zw_650)) (fun _ h9 => h9) rfl dX6_hold_44 ?_
  refine lv_aload_n hx hb dX6_hold_47 rfl (lv_at hl 0 rfl) ?_
  refine va_get (D := D) (ci := 5) (v := .long (Vl v 8)) (C := RX6) (T := TX6) (N := 33) hx hb hts (fun w h => wm (zin_X6 w h)) hown hK hP 0 rfl rfl 8 (by decide) (hts _ (wm zw_645)) (fun _ h9 => h9) rfl dX6_hold_48 ?_
  refine lv_l2i hx hb dX6_hold_51 rfl ?_
  obtain ⟨y_7, e_7, h⟩ := zb_bind h
  try dsimp only at h
  refine zt_i (Option.some.inj e_7) ?_
  obtain ⟨hi_8, h⟩ := zb_if h
  refine va_iast hx hb hK hP hD hS 6 3 rfl rfl (inb_in hi_8) dX6_hold_52 (fun H locs hP hD hS => ?_)
  have hP : va_P D vwCl (mW c4 z (tA (tA (tA (tA v 14 (Vi v 13).toNatClampNeg y_1) 15 (Vi v 13).toNatClampNeg y_3) 16 (Vi v 13).toNatClampNeg y_5) 17 (Vi v 13).toNatClampNeg y_7)) H := hP
  have hD : va_D A (mW c4 z (tA (tA (tA (tA v 14 (Vi v 13).toNatClampNeg y_1) 15 (Vi v 13).toNatClampNeg y_3) 16 (Vi v 13).toNatClampNeg y_5) 17 (Vi v 13).toNatClampNeg y_7)) := hD
  refine lv_aload_n hx hb dX6_hold_53 rfl (lv_at hl 0 rfl) ?_
  refine va_get (D := D) (ci := 5) (v := .ref (z 18)) (C := RX6) (T := TX6) (N := 33) hx hb hts (fun w h => wm (zin_X6 w h)) hown hK hP 0 rfl rfl 18 (by decide) (hts _ (wm zw_655)) (fun _ h9 => h9) rfl dX6_hold_54 ?_
  refine lv_aload_n hx hb dX6_hold_57 rfl (lv_at hl 0 rfl) ?_
  refine va_get (D := D) (ci := 5) (v := .int (Vi v 13)) (C := RX6) (T := TX6) (N := 33) hx hb hts (fun w h => wm (zin_X6 w h)) hown hK hP 0 rfl rfl 13 (by decide) (hts _ (wm zw_650)) (fun _ h9 => h9) rfl dX6_hold_58 ?_
  refine lv_aload_n hx hb dX6_hold_61 rfl (lv_at hl 0 rfl) ?_
  refine va_get (D := D) (ci := 5) (v := .int (Vi v 9)) (C := RX6) (T := TX6) (N := 33) hx hb hts (fun w h => wm (zin_X6 w h)) hown hK hP 0 rfl rfl 9 (by decide) (hts _ (wm zw_646)) (fun _ h9 => h9) rfl dX6_hold_62 ?_
  obtain ⟨y_9, e_9, h⟩ := zb_bind h
  try dsimp only at h
  refine zt_i (Option.some.inj e_9) ?_
  obtain ⟨hi_10, h⟩ := zb_if h
  refine va_iast hx hb hK hP hD hS 7 3 rfl rfl (inb_in hi_10) dX6_hold_65 (fun H locs hP hD hS => ?_)
  have hP : va_P D vwCl (mW c4 z (tA (tA (tA (tA (tA v 14 (Vi v 13).toNatClampNeg y_1) 15 (Vi v 13).toNatClampNeg y_3) 16 (Vi v 13).toNatClampNeg y_5) 17 (Vi v 13).toNatClampNeg y_7) 18 (Vi v 13).toNatClampNeg y_9)) H := hP
  have hD : va_D A (mW c4 z (tA (tA (tA (tA (tA v 14 (Vi v 13).toNatClampNeg y_1) 15 (Vi v 13).toNatClampNeg y_3) 16 (Vi v 13).toNatClampNeg y_5) 17 (Vi v 13).toNatClampNeg y_7) 18 (Vi v 13).toNatClampNeg y_9)) := hD
  refine lv_aload_n hx hb dX6_hold_66 rfl (lv_at hl 0 rfl) ?_
  refine va_get (D := D) (ci := 5) (v := .ref (z 19)) (C := RX6) (T := TX6) (N := 33) hx hb hts (fun w h => wm (zin_X6 w h)) hown hK hP 0 rfl rfl 19 (by decide) (hts _ (wm zw_656)) (fun _ h9 => h9) rfl dX6_hold_67 ?_
  refine lv_aload_n hx hb dX6_hold_70 rfl (lv_at hl 0 rfl) ?_
  refine va_get (D := D) (ci := 5) (v := .int (Vi v 13)) (C := RX6) (T := TX6) (N := 33) hx hb hts (fun w h => wm (zin_X6 w h)) hown hK hP 0 rfl rfl 13 (by decide) (hts _ (wm zw_650)) (fun _ h9 => h9) rfl dX6_hold_71 ?_
  refine lv_aload_n hx hb dX6_hold_74 rfl (lv_at hl 0 rfl) ?_
  refine va_get (D := D) (ci := 5) (v := .int (Vi v 10)) (C := RX6) (T := TX6) (N := 33) hx hb hts (fun w h => wm (zin_X6 w h)) hown hK hP 0 rfl rfl 10 (by decide) (hts _ (wm zw_647)) (fun _ h9 => h9) rfl dX6_hold_75 ?_
  obtain ⟨y_11, e_11, h⟩ := zb_bind h
  try dsimp only at h
  refine zt_i (Option.some.inj e_11) ?_
  obtain ⟨hi_12, h⟩ := zb_if h
  refine va_iast hx hb hK hP hD hS 8 3 rfl rfl (inb_in hi_12) dX6_hold_78 (fun H locs hP hD hS => ?_)
  have hP : va_P D vwCl (mW c4 z (tA (tA (tA (tA (tA (tA v 14 (Vi v 13).toNatClampNeg y_1) 15 (Vi v 13).toNatClampNeg y_3) 16 (Vi v 13).toNatClampNeg y_5) 17 (Vi v 13).toNatClampNeg y_7) 18 (Vi v 13).toNatClampNeg y_9) 19 (Vi v 13).toNatClampNeg y_11)) H := hP
  have hD : va_D A (mW c4 z (tA (tA (tA (tA (tA (tA v 14 (Vi v 13).toNatClampNeg y_1) 15 (Vi v 13).toNatClampNeg y_3) 16 (Vi v 13).toNatClampNeg y_5) 17 (Vi v 13).toNatClampNeg y_7) 18 (Vi v 13).toNatClampNeg y_9) 19 (Vi v 13).toNatClampNeg y_11)) := hD
  refine lv_aload_n hx hb dX6_hold_79 rfl (lv_at hl 0 rfl) ?_
  refine va_get (D := D) (ci := 5) (v := .ref (z 20)) (C := RX6) (T := TX6) (N := 33) hx hb hts (fun w h => wm (zin_X6 w h)) hown hK hP 0 rfl rfl 20 (by decide) (hts _ (wm zw_657)) (fun _ h9 => h9) rfl dX6_hold_80 ?_
  refine lv_aload_n hx hb dX6_hold_83 rfl (lv_at hl 0 rfl) ?_
  refine va_get (D := D) (ci := 5) (v := .int (Vi v 13)) (C := RX6) (T := TX6) (N := 33) hx hb hts (fun w h => wm (zin_X6 w h)) hown hK hP 0 rfl rfl 13 (by decide) (hts _ (wm zw_650)) (fun _ h9 => h9) rfl dX6_hold_84 ?_
  refine lv_iload_n hx hb dX6_hold_87 rfl (lv_at hl 1 rfl) ?_
  obtain ⟨hi_13, h⟩ := zb_if h
  refine va_iast hx hb hK hP hD hS 9 3 rfl rfl (inb_in hi_13) dX6_hold_88 (fun H locs hP hD hS => ?_)
  have hP : va_P D vwCl (mW c4 z (tA (tA (tA (tA (tA (tA (tA v 14 (Vi v 13).toNatClampNeg y_1) 15 (Vi v 13).toNatClampNeg y_3) 16 (Vi v 13).toNatClampNeg y_5) 17 (Vi v 13).toNatClampNeg y_7) 18 (Vi v 13).toNatClampNeg y_9) 19 (Vi v 13).toNatClampNeg y_11) 20 (Vi v 13).toNatClampNeg a1)) H := hP
  have hD : va_D A (mW c4 z (tA (tA (tA (tA (tA (tA (tA v 14 (Vi v 13).toNatClampNeg y_1) 15 (Vi v 13).toNatClampNeg y_3) 16 (Vi v 13).toNatClampNeg y_5) 17 (Vi v 13).toNatClampNeg y_7) 18 (Vi v 13).toNatClampNeg y_9) 19 (Vi v 13).toNatClampNeg y_11) 20 (Vi v 13).toNatClampNeg a1)) := hD
  refine lv_aload_n hx hb dX6_hold_89 rfl (lv_at hl 0 rfl) ?_
  refine lv_dup hx hb dX6_hold_90 rfl ?_
  refine va_get (D := D) (ci := 5) (v := .int (Vi v 13)) (C := RX6) (T := TX6) (N := 33) hx hb hts (fun w h => wm (zin_X6 w h)) hown hK hP 0 rfl rfl 13 (by decide) (hts _ (wm zw_650)) (fun _ h9 => h9) rfl dX6_hold_91 ?_
  refine lv_iconst (v := (1 : Int32)) hx hb dX6_hold_94 (by decide) ?_
  refine lv_iadd hx hb dX6_hold_95 ?_
  obtain ⟨y_14, e_14, h⟩ := zb_bind h
  try dsimp only at h
  refine zt_i (Option.some.inj e_14) ?_
  refine va_put (D := D) (ci := 5) (v := .int y_14) (ty := .int) (C := RX6) (T := TX6) (N := 33) hx hb hts (fun w h => wm (zin_X6 w h)) tyX6 tyX6_ok nmX6 hown hK hP hD hS 0 rfl rfl 13 (by decide) (hts _ (wm zw_650)) (fun _ h9 => h9) rfl (by decide +kernel) rfl rfl (Nat.le_of_ble_eq_true rfl) dX6_hold_96 (fun H locs hP hD hS => ?_)
  have hP : va_P D vwCl (mW c4 z (tI (tA (tA (tA (tA (tA (tA (tA v 14 (Vi v 13).toNatClampNeg y_1) 15 (Vi v 13).toNatClampNeg y_3) 16 (Vi v 13).toNatClampNeg y_5) 17 (Vi v 13).toNatClampNeg y_7) 18 (Vi v 13).toNatClampNeg y_9) 19 (Vi v 13).toNatClampNeg y_11) 20 (Vi v 13).toNatClampNeg a1) 13 y_14)) H := hP
  have hD : va_D A (mW c4 z (tI (tA (tA (tA (tA (tA (tA (tA v 14 (Vi v 13).toNatClampNeg y_1) 15 (Vi v 13).toNatClampNeg y_3) 16 (Vi v 13).toNatClampNeg y_5) 17 (Vi v 13).toNatClampNeg y_7) 18 (Vi v 13).toNatClampNeg y_9) 19 (Vi v 13).toNatClampNeg y_11) 20 (Vi v 13).toNatClampNeg a1) 13 y_14)) := hD
  refine lv_aload_n hx hb dX6_hold_99 rfl (lv_at hl 0 rfl) ?_
  refine va_get (D := D) (ci := 5) (v := .int y_14) (C := RX6) (T := TX6) (N := 33) hx hb hts (fun w h => wm (zin_X6 w h)) hown hK hP 0 rfl rfl 13 (by decide) (hts _ (wm zw_650)) (fun _ h9 => h9) rfl dX6_hold_100 ?_
  refine lv_iconst (v := (1 : Int32)) hx hb dX6_hold_103 (by decide) ?_
  refine lv_isub hx hb dX6_hold_104 ?_
  exact W.iret (v := (y_14 - (1 : Int32))) hx hb hr (fun t ht hW => ⟨⟨(y_14 - (1 : Int32)), (tI (tA (tA (tA (tA (tA (tA (tA v 14 (Vi v 13).toNatClampNeg y_1) 15 (Vi v 13).toNatClampNeg y_3) 16 (Vi v 13).toNatClampNeg y_5) 17 (Vi v 13).toNatClampNeg y_7) 18 (Vi v 13).toNatClampNeg y_9) 19 (Vi v 13).toNatClampNeg y_11) 20 (Vi v 13).toNatClampNeg a1) 13 y_14), rfl, (Option.some.inj h).symm, wPre_go hP hD hK hA hS ht hW.alike⟩, hS.F ht⟩) hS.2.2 dX6_hold_105
def pX6_open (v : MS) : Option (MS × Int32) := ((pX6_findRoot v).bind fun x_1 => (if (x_1.2) = 0 then ((some ((Vi (x_1.1) 3) - ((Vl (x_1.1) 12).toInt32))).bind fun y_3 => ((pX6_hold (tI (tI (tI (x_1.1) 0 (x_1.2)) 13 (0 : Int32)) 4 y_3) (1 : Int32)).bind fun x_4 => some ((x_4.1), ((x_4.2) + ((Vl (x_4.1) 11).toInt32))))) else some ((tI (x_1.1) 0 (x_1.2)), (0 : Int32))))
set_option maxHeartbeats 4000000 in
set_option maxRecDepth 100000 in
theorem ct_X6_open (l : Launch) (D : va_G) (c4 : Nat → ClassId) (A : Nat → Prop) (z : Nat → Nat) (v : MS) (res : MS × Int32) (h : pX6_open v = some res) : Met l yX6_open (wz yX6_open cX6_open 2 (some .int)) ({ frames := 4, cells := 0, slots := 0, locals := 97 } : Room) (va_Pc [.ref (z 0)] (fun U => mPre D c4 A z v U)) (va_Qi (fun q w => res = (w, q)) (fun w t => wPre D c4 A (mW c4 z w) t) A) 0 0 A := by
  refine Met.ofW (cc := cX6_open) (maxL := 2) (ret := (some .int)) (by decide) rfl ?_
  intro p e s m args below meth c s₁ B hml hv
  obtain ⟨rfl, hP, hD, hK, hA⟩ := hv
  have hx := B.exec
  have hb := B.bytes
  have hr := B.returns
  have hts := atoms_spec (ws := (wz yX6_open cX6_open 2 (some .int))) B.pre
  have hown : s.vm.findClass RX6 = some m.cls := findClass_of_methodNamed B.named
  have hlocks := B.notSynchronized
  have hS : va_S A s.heap s.heap [] := va_S.rf
  have hl := lv_entry ([.ref (z 0)]) (n := 2) (Nat.le_of_ble_eq_true rfl)
  rw [lg_entry_eq]
  generalize (lg_sl ([.ref (z 0)]) ++ List.replicate (2 - (lg_sl ([.ref (z 0)])).length) Slot.unset).toArray = ls at hl ⊢
  have hl : lv_has ls 2 [(0, .ref (z 0))] := hl
  unfold pX6_open at h
  refine lv_aload_n hx hb dX6_open_0 rfl (lv_at hl 0 rfl) ?_
  refine lv_aload_n hx hb dX6_open_1 rfl (lv_at hl 0 rfl) ?_
  obtain ⟨x_1, hc_1, h⟩ := zb_bind h
  try dsimp only at h
  refine va_calli (va_runV (As := []) (rest := [.ref (z 0)]) ⟨hx, hb, hml, hown, hts⟩ (ct_X6_findRoot l D c4 A z v _ hc_1) (cwV 0 hts (wz_V zw_774 zw_776 zs_18 zw_6 zw_777) rfl rfl rfl (by decide +kernel) ⟨Nat.le_of_ble_eq_true rfl, Nat.le_of_ble_eq_true rfl⟩) ⟨fbM, va_recv hK hP (ci := 5) (q0 := 0) rfl rfl, fun U9 hU hW => ⟨rfl, wPre_go hP hD hK hA hS hU hW.alike⟩⟩ rfl rfl hl.1 rfl (lv_room (Nat.le_of_ble_eq_true rfl)) dX6_open_2 ⟨Nat.le_of_ble_eq_true rfl, Nat.le_of_ble_eq_true rfl⟩) hS (fun q _ h => h) (fun q h => h) (fun r_1 u_1 t H1 locs ht hvm e_1 hB hz1 hk1 hS => ?_)
  subst e_1
  try dsimp only at h
  obtain ⟨hP, hD, -, -⟩ := hB
  rw [ht] at hP
  generalize H1 = H at hP hS ⊢
  refine va_put (D := D) (ci := 5) (v := .int r_1) (ty := .int) (C := RX6) (T := TX6) (N := 33) hx hb hts (fun w h => wm (zin_X6 w h)) tyX6 tyX6_ok nmX6 hown hK hP hD hS 0 rfl rfl 0 (by decide) (hts _ (wm zw_637)) (fun _ h9 => h9) rfl (by decide +kernel) rfl rfl (Nat.le_of_ble_eq_true rfl) dX6_open_5 (fun H locs hP hD hS => ?_)
  have hP : va_P D vwCl (mW c4 z (tI u_1 0 r_1)) H := hP
  have hD : va_D A (mW c4 z (tI u_1 0 r_1)) := hD
  refine lv_aload_n hx hb dX6_open_8 rfl (lv_at hl 0 rfl) ?_
  refine va_get (D := D) (ci := 5) (v := .int r_1) (C := RX6) (T := TX6) (N := 33) hx hb hts (fun w h => wm (zin_X6 w h)) hown hK hP 0 rfl rfl 0 (by decide) (hts _ (wm zw_637)) (fun _ h9 => h9) rfl dX6_open_9 ?_
  refine lv_if_eq (tgt := 17) hx hb dX6_open_12 (by decide) (fun c_2 => ?_) (fun c_2 => ?_)
  · skip
    rw [if_pos c_2] at h
    refine lv_aload_n hx hb dX6_open_17 rfl (lv_at hl 0 rfl) ?_
    refine lv_iconst (v := (0 : Int32)) hx hb dX6_open_18 (by decide) ?_
    refine va_put (D := D) (ci := 5) (v := .int (0 : Int32)) (ty := .int) (C := RX6) (T := TX6) (N := 33) hx hb hts (fun w h => wm (zin_X6 w h)) tyX6 tyX6_ok nmX6 hown hK hP hD hS 0 rfl rfl 13 (by decide) (hts _ (wm zw_650)) (fun _ h9 => h9) rfl (by decide +kernel) rfl rfl (Nat.le_of_ble_eq_true rfl) dX6_open_19 (fun H locs hP hD hS => ?_)
    have hP : va_P D vwCl (mW c4 z (tI (tI u_1 0 r_1) 13 (0 : Int32))) H := hP
    have hD : va_D A (mW c4 z (tI (tI u_1 0 r_1) 13 (0 : Int32))) := hD
    refine lv_aload_n hx hb dX6_open_22 rfl (lv_at hl 0 rfl) ?_
    refine lv_aload_n hx hb dX6_open_23 rfl (lv_at hl 0 rfl) ?_
    refine va_get (D := D) (ci := 5) (v := .int (Vi u_1 3)) (C := RX6) (T := TX6) (N := 33) hx hb hts (fun w h => wm (zin_X6 w h)) hown hK hP 0 rfl rfl 3 (by decide) (hts _ (wm zw_640)) (fun _ h9 => h9) rfl dX6_open_24 ?_
    refine lv_aload_n hx hb dX6_open_27 rfl (lv_at hl 0 rfl) ?_
    refine va_get (D := D) (ci := 5) (v := .long (Vl u_1 12)) (C := RX6) (T := TX6) (N := 33) hx hb hts (fun w h => wm (zin_X6 w h)) hown hK hP 0 rfl rfl 12 (by decide) (hts _ (wm zw_649)) (fun _ h9 => h9) rfl dX6_open_28 ?_
    refine lv_l2i hx hb dX6_open_31 rfl ?_
    refine lv_isub hx hb dX6_open_32 ?_
    obtain ⟨y_3, e_3, h⟩ := zb_bind h
    try dsimp only at h
    refine zt_i (Option.some.inj e_3) ?_
    refine va_put (D := D) (ci := 5) (v := .int y_3) (ty := .int) (C := RX6) (T := TX6) (N := 33) hx hb hts (fun w h => wm (zin_X6 w h)) tyX6 tyX6_ok nmX6 hown hK hP hD hS 0 rfl rfl 4 (by decide) (hts _ (wm zw_641)) (fun _ h9 => h9) rfl (by decide +kernel) rfl rfl (Nat.le_of_ble_eq_true rfl) dX6_open_33 (fun H locs hP hD hS => ?_)
    have hP : va_P D vwCl (mW c4 z (tI (tI (tI u_1 0 r_1) 13 (0 : Int32)) 4 y_3)) H := hP
    have hD : va_D A (mW c4 z (tI (tI (tI u_1 0 r_1) 13 (0 : Int32)) 4 y_3)) := hD
    refine lv_aload_n hx hb dX6_open_36 rfl (lv_at hl 0 rfl) ?_
    refine lv_iconst (v := (1 : Int32)) hx hb dX6_open_37 (by decide) ?_
    obtain ⟨x_4, hc_4, h⟩ := zb_bind h
    try dsimp only at h
    refine va_calli (va_runV (As := [.int (1 : Int32)]) (rest := []) ⟨hx, hb, hml, hown, hts⟩ (ct_X6_hold l D c4 A z (tI (tI (tI u_1 0 r_1) 13 (0 : Int32)) 4 y_3) (1 : Int32) _ hc_4) (cwV 1 hts (wz_V zw_812 zw_814 zs_23 zw_6 zw_815) rfl rfl rfl (by decide +kernel) ⟨Nat.le_of_ble_eq_true rfl, Nat.le_of_ble_eq_true rfl⟩) ⟨fbM, va_recv hK hP (ci := 5) (q0 := 0) rfl rfl, fun U9 hU hW => ⟨rfl, wPre_go hP hD hK hA hS hU hW.alike⟩⟩ rfl rfl hl.1 rfl (lv_room (Nat.le_of_ble_eq_true rfl)) dX6_open_38 ⟨Nat.le_of_ble_eq_true rfl, Nat.le_of_ble_eq_true rfl⟩) hS (fun q _ h => h) (fun q h => h) (fun r_4 u_4 t H1 locs ht hvm e_4 hB hz1 hk1 hS => ?_)
    subst e_4
    try dsimp only at h
    obtain ⟨hP, hD, -, -⟩ := hB
    rw [ht] at hP
    generalize H1 = H at hP hS ⊢
    refine lv_istore_n (lv' := [(1, .int r_4), (0, .ref (z 0))]) hx hb dX6_open_41 rfl hl (by decide) rfl (fun ls hl => ?_)
    refine lv_iload_n hx hb dX6_open_42 rfl (lv_at hl 0 rfl) ?_
    refine lv_aload_n hx hb dX6_open_43 rfl (lv_at hl 1 rfl) ?_
    refine va_get (D := D) (ci := 5) (v := .long (Vl u_4 11)) (C := RX6) (T := TX6) (N := 33) hx hb hts (fun w h => wm (zin_X6 w h)) hown hK hP 0 rfl rfl 11 (by decide) (hts _ (wm zw_648)) (fun _ h9 => h9) rfl dX6_open_44 ?_
    refine lv_l2i hx hb dX6_open_47 rfl ?_
    refine lv_iadd hx hb dX6_open_48 ?_
    exact W.iret (v := (r_4 + ((Vl u_4 11).toInt32))) hx hb hr (fun t ht hW => ⟨⟨(r_4 + ((Vl u_4 11).toInt32)), u_4, rfl, (Option.some.inj h).symm, wPre_go hP hD hK hA hS ht hW.alike⟩, hS.F ht⟩) hS.2.2 dX6_open_49
  · skip
    rw [if_neg c_2] at h
    refine lv_iconst (v := (0 : Int32)) hx hb dX6_open_15 (by decide) ?_
    exact W.iret (v := (0 : Int32)) hx hb hr (fun t ht hW => ⟨⟨(0 : Int32), (tI u_1 0 r_1), rfl, (Option.some.inj h).symm, wPre_go hP hD hK hA hS ht hW.alike⟩, hS.F ht⟩) hS.2.2 dX6_open_16
def pX6_left (v : MS) : Option (MS × Int32) := (if (Vi v 13) = 0 then some ((tI v 0 (0 : Int32)), (0 : Int32)) else some ((tI v 0 (0 : Int32)), (Vi v 4)))
set_option maxHeartbeats 4000000 in
set_option maxRecDepth 100000 in
theorem ct_X6_left (l : Launch) (D : va_G) (c4 : Nat → ClassId) (A : Nat → Prop) (z : Nat → Nat) (v : MS) (res : MS × Int32) (h : pX6_left v = some res) : Met l yX6_left (wz yX6_left cX6_left 1 (some .int)) ({ frames := 0, cells := 0, slots := 0, locals := 0 } : Room) (va_Pc [.ref (z 0)] (fun U => mPre D c4 A z v U)) (va_Qi (fun q w => res = (w, q)) (fun w t => wPre D c4 A (mW c4 z w) t) A) 0 0 A := by
  refine Met.ofW (cc := cX6_left) (maxL := 1) (ret := (some .int)) (by decide) rfl ?_
  intro p e s m args below meth c s₁ B hml hv
  obtain ⟨rfl, hP, hD, hK, hA⟩ := hv
  have hx := B.exec
  have hb := B.bytes
  have hr := B.returns
  have hts := atoms_spec (ws := (wz yX6_left cX6_left 1 (some .int))) B.pre
  have hown : s.vm.findClass RX6 = some m.cls := findClass_of_methodNamed B.named
  have hlocks := B.notSynchronized
  have hS : va_S A s.heap s.heap [] := va_S.rf
  have hl := lv_entry ([.ref (z 0)]) (n := 1) (Nat.le_of_ble_eq_true rfl)
  rw [lg_entry_eq]
  generalize (lg_sl ([.ref (z 0)]) ++ List.replicate (1 - (lg_sl ([.ref (z 0)])).length) Slot.unset).toArray = ls at hl ⊢
  have hl : lv_has ls 1 [(0, .ref (z 0))] := hl
  unfold pX6_left at h
  refine lv_aload_n hx hb dX6_left_0 rfl (lv_at hl 0 rfl) ?_
  refine lv_iconst (v := (0 : Int32)) hx hb dX6_left_1 (by decide) ?_
  refine va_put (D := D) (ci := 5) (v := .int (0 : Int32)) (ty := .int) (C := RX6) (T := TX6) (N := 33) hx hb hts (fun w h => wm (zin_X6 w h)) tyX6 tyX6_ok nmX6 hown hK hP hD hS 0 rfl rfl 0 (by decide) (hts _ (wm zw_637)) (fun _ h9 => h9) rfl (by decide +kernel) rfl rfl (Nat.le_of_ble_eq_true rfl) dX6_left_2 (fun H locs hP hD hS => ?_)
  have hP : va_P D vwCl (mW c4 z (tI v 0 (0 : Int32))) H := hP
  have hD : va_D A (mW c4 z (tI v 0 (0 : Int32))) := hD
  refine lv_aload_n hx hb dX6_left_5 rfl (lv_at hl 0 rfl) ?_
  refine va_get (D := D) (ci := 5) (v := .int (Vi v 13)) (C := RX6) (T := TX6) (N := 33) hx hb hts (fun w h => wm (zin_X6 w h)) hown hK hP 0 rfl rfl 13 (by decide) (hts _ (wm zw_650)) (fun _ h9 => h9) rfl dX6_left_6 ?_
  refine lv_if_ne (tgt := 16) hx hb dX6_left_9 (by decide) (fun c_1 => ?_) (fun c_1 => ?_)
  · skip
    rw [if_neg c_1] at h
    refine lv_aload_n hx hb dX6_left_16 rfl (lv_at hl 0 rfl) ?_
    refine va_get (D := D) (ci := 5) (v := .int (Vi v 4)) (C := RX6) (T := TX6) (N := 33) hx hb hts (fun w h => wm (zin_X6 w h)) hown hK hP 0 rfl rfl 4 (by decide) (hts _ (wm zw_641)) (fun _ h9 => h9) rfl dX6_left_17 ?_
    exact W.iret (v := (Vi v 4)) hx hb hr (fun t ht hW => ⟨⟨(Vi v 4), (tI v 0 (0 : Int32)), rfl, (Option.some.inj h).symm, wPre_go hP hD hK hA hS ht hW.alike⟩, hS.F ht⟩) hS.2.2 dX6_left_20
  · skip
    rw [if_pos c_1] at h
    refine lv_iconst (v := (0 : Int32)) hx hb dX6_left_12 (by decide) ?_
    refine lv_goto (tgt := 20) hx hb dX6_left_13 (by decide) ?_
    exact W.iret (v := (0 : Int32)) hx hb hr (fun t ht hW => ⟨⟨(0 : Int32), (tI v 0 (0 : Int32)), rfl, (Option.some.inj h).symm, wPre_go hP hD hK hA hS ht hW.alike⟩, hS.F ht⟩) hS.2.2 dX6_left_20
