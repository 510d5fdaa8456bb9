def pX6_go_122 (v : MS) (x0 : Int32) (x1 : Int32) (y0 : Int32) (y1 : Int32) : Option (MS × Int32) := ((some ((y1 + y0) + x1)).bind fun y_1 => (if inb x0 16 = true then (if inb (((64 : Int32) * (Va v 15 x0.toNatClampNeg)) + y_1) 256 = true then (if (Vr v 1 (((64 : Int32) * (Va v 15 x0.toNatClampNeg)) + y_1).toNatClampNeg) = (0 : Int64) then some (v, (-1 : Int32)) else (if (Vi v 13) = (16 : Int32) then ((pX6_fail v (4 : Int32)).bind fun x_18 => some ((x_18.1), (x_18.2))) else (if inb x0 16 = true then (if inb x0 16 = true then ((pX6_find v (Va v 15 x0.toNatClampNeg) y_1 ((Va v 20 x0.toNatClampNeg) + (1 : Int32)) (Vi v 4)).bind fun x_8 => (if (x_8.2) = 0 then ((some ((Vi (x_8.1) 4) - ((Vl (x_8.1) 12).toInt32))).bind fun y_10 => (if inb x0 16 = true then ((pX6_hold (tI (x_8.1) 4 y_10) ((Va (x_8.1) 20 x0.toNatClampNeg) + (1 : Int32))).bind fun x_12 => some ((x_12.1), (x_12.2))) else none)) else (if (x_8.2) = (1 : Int32) then ((pX6_fail (x_8.1) (3 : Int32)).bind fun x_17 => some ((x_17.1), (x_17.2))) else (if (x_8.2) = (2 : Int32) then ((pX6_fail (x_8.1) (5 : Int32)).bind fun x_16 => some ((x_16.1), (x_16.2))) else ((pX6_fail (x_8.1) (4 : Int32)).bind fun x_15 => some ((x_15.1), (x_15.2))))))) else none) else none))) else none) else none))
def pX6_go_97 (v : MS) (x0 : Int32) (x1 : Int32) : Option (MS × Int32) := (if inb x0 16 = true then (if inb x0 16 = true then (if (Va v 14 x0.toNatClampNeg) = 0 then (if inb x0 16 = true then pX6_go_122 v x0 x1 (Va v 17 x0.toNatClampNeg) (Va v 16 x0.toNatClampNeg) else none) else pX6_go_122 v x0 x1 (0 : Int32) (Va v 16 x0.toNatClampNeg)) else none) else none)
def pX6_go_76 (v : MS) (x0 : Int32) (x1 : Int32) : Option (MS × Int32) := (if inb x0 16 = true then (if (Va v 14 x0.toNatClampNeg) = 0 then (if inb x0 16 = true then (if x1 < (Va v 19 x0.toNatClampNeg) then pX6_go_97 v x0 x1 else some (v, (-1 : Int32))) else none) else pX6_go_97 v x0 x1) else none)
def pX6_go_45 (v : MS) (x0 : Int32) (x1 : Int32) : Option (MS × Int32) := (if x1 < 0 then ((pX6_fail v (3 : Int32)).bind fun x_28 => some ((x_28.1), (x_28.2))) else (if inb x0 16 = true then (if (Va v 14 x0.toNatClampNeg) = (7 : Int32) then (if inb x0 16 = true then (if x1 < (Va v 17 x0.toNatClampNeg) then pX6_go_76 v x0 x1 else ((pX6_fail v (3 : Int32)).bind fun x_33 => some ((x_33.1), (x_33.2)))) else none) else pX6_go_76 v x0 x1) else none))
def pX6_go (v : MS) (a1 : Int32) (a2 : Int32) : Option (MS × Int32) := (if (pX6_isHandle (tI v 0 (0 : Int32)) a1) = 0 then ((pX6_fail (tI v 0 (0 : Int32)) (1 : Int32)).bind fun x_41 => some ((x_41.1), (x_41.2))) else (if inb a1 16 = true then (if (Va v 14 a1.toNatClampNeg) = 0 then pX6_go_45 (tI v 0 (0 : Int32)) a1 a2 else (if inb a1 16 = true then (if (Va v 14 a1.toNatClampNeg) = (7 : Int32) then pX6_go_45 (tI v 0 (0 : Int32)) a1 a2 else ((pX6_fail (tI v 0 (0 : Int32)) (2 : Int32)).bind fun x_40 => some ((x_40.1), (x_40.2)))) else none)) else none))
set_option maxHeartbeats 4000000 in
set_option maxRecDepth 100000 in
theorem ct_X6_go (l : Launch) (D : va_G) (c4 : Nat → ClassId) (A : Nat → Prop) (z : Nat → Nat) (v : MS) (a1 : Int32) (a2 : Int32) (res : MS × Int32) (h : pX6_go v a1 a2 = some res) : Met l yX6_go (wz yX6_go cX6_go 5 (some .int)) ({ frames := 4, cells := 0, slots := 0, locals := 101 } : Room) (va_Pc [.ref (z 0), .int a1, .int a2] (fun U => mPre D c4 A z v U)) (va_Qi (fun q w => res = (w, q)) (fun w t => wPre D c4 A (mW c4 z w) t) A) 0 0 A := by
  refine Met.ofW (cc := cX6_go) (maxL := 5) (ret := (some .int)) (by decide) rfl ?_
  intro p e s m args below meth c s₁ B hml hv
  obtain ⟨rfl, hP, hD, hK, hA⟩ := hv
  have hx := B.exec
  have hb := B.bytes
  have hr := B.returns
  have hts := atoms_spec (ws := (wz yX6_go cX6_go 5 (some .int))) B.pre
  have hown : s.vm.findClass RX6 = some m.cls := findClass_of_methodNamed B.named
  have hlocks := B.notSynchronized
  have hS : va_S A s.heap s.heap [] := va_S.rf
  have hl := lv_entry ([.ref (z 0), .int a1, .int a2]) (n := 5) (Nat.le_of_ble_eq_true rfl)
  rw [lg_entry_eq]
  generalize (lg_sl ([.ref (z 0), .int a1, .int a2]) ++ List.replicate (5 - (lg_sl ([.ref (z 0), .int a1, .int a2])).length) Slot.unset).toArray = ls at hl ⊢
  have hl : lv_has ls 5 [(0, .ref (z 0)), (1, .int a1), (2, .int a2)] := hl
  have k_122 : ∀ (v : MS) (H : Heap) (locs : List Loc) (x0 : Int32) (x1 : Int32) (y0 : Int32) (y1 : Int32), va_P D vwCl (mW c4 z v) H → va_D A (mW c4 z v) → va_S A s.heap H locs → ∀ (ls : Array Slot), lv_has ls 5 [(0, .ref (z 0)), (1, .int x0), (2, .int x1)] → pX6_go_122 v x0 x1 y0 y1 = some res → W p l e ({ frames := 4, cells := 0, slots := 0, locals := 101 } : Room) s m ([.ref (z 0), .int a1, .int a2] : List Value).toArray below meth c H locs 0 0 (MQ below (va_Qi (fun q w => res = (w, q)) (fun w t => wPre D c4 A (mW c4 z w) t) A) ([.ref (z 0), .int a1, .int a2] : List Value).toArray s 0 0 A) (F0 m 122 ls [.int y0, .int y1]) := by
    intro v H locs x0 x1 y0 y1 hP hD hS ls hl h
    unfold pX6_go_122 at h
    refine lv_iadd hx hb dX6_go_122 ?_
    refine lv_iload_n hx hb dX6_go_123 rfl (lv_at hl 2 rfl) ?_
    refine lv_iadd hx hb dX6_go_124 ?_
    obtain ⟨y_1, e_1, h⟩ := zb_bind h
    try dsimp only at h
    refine zt_i (Option.some.inj e_1) ?_
    refine lv_istore_n (lv' := [(3, .int y_1), (0, .ref (z 0)), (1, .int x0), (2, .int x1)]) hx hb dX6_go_125 rfl hl (by decide) rfl (fun ls hl => ?_)
    refine lv_aload_n hx hb dX6_go_126 rfl (lv_at hl 1 rfl) ?_
    refine va_get (D := D) (ci := 5) (v := .ref (z 1)) (C := RX6) (T := TX6) (N := 33) hx hb hts (fun w h => wm (zin_X6 w h)) hown hK hP 0 rfl rfl 1 (by decide) (hts _ (wm zw_638)) (fun _ h9 => h9) rfl dX6_go_127 ?_
    refine lv_bipush (v := (64 : Int32)) hx hb dX6_go_130 (by decide) ?_
    refine lv_aload_n hx hb dX6_go_132 rfl (lv_at hl 1 rfl) ?_
    refine va_get (D := D) (ci := 5) (v := .ref (z 15)) (C := RX6) (T := TX6) (N := 33) hx hb hts (fun w h => wm (zin_X6 w h)) hown hK hP 0 rfl rfl 15 (by decide) (hts _ (wm zw_652)) (fun _ h9 => h9) rfl dX6_go_133 ?_
    refine lv_iload_n hx hb dX6_go_136 rfl (lv_at hl 2 rfl) ?_
    obtain ⟨hi_2, h⟩ := zb_if h
    refine va_iald hx hb hK hP 4 3 rfl rfl (inb_in hi_2) dX6_go_137 ?_
    refine W.eq (g2 := F0 m 138 ls ([.int (Va v 15 x0.toNatClampNeg), .int (64 : Int32), .ref (z 1)])) rfl ?_
    refine lv_imul hx hb dX6_go_138 ?_
    refine lv_iload_n hx hb dX6_go_139 rfl (lv_at hl 0 rfl) ?_
    refine lv_iadd hx hb dX6_go_140 ?_
    obtain ⟨hi_3, h⟩ := zb_if h
    refine va_lald hx hb hK hP 1 0 rfl rfl (inb_in hi_3) dX6_go_141 ?_
    refine W.eq (g2 := F0 m 142 ls ([.long (Vr v 1 (((64 : Int32) * (Va v 15 x0.toNatClampNeg)) + y_1).toNatClampNeg)])) rfl ?_
    refine lv_lconst (v := (0 : Int64)) hx hb dX6_go_142 (by decide) ?_
    refine W.lcmp hx hb dX6_go_143 ?_
    refine lv_if_ne (tgt := 149) hx hb dX6_go_144 (by decide) (fun c_4 => ?_) (fun c_4 => ?_)
    · skip
      have c_4 := mt (lg_cmp_eq _ _).mpr c_4
      rw [if_neg c_4] at h
      refine lv_aload_n hx hb dX6_go_149 rfl (lv_at hl 1 rfl) ?_
      refine va_get (D := D) (ci := 5) (v := .int (Vi v 13)) (C := RX6) (T := TX6) (N := 33) hx hb hts (fun w h => wm (zin_X6 w h)) hown hK hP 0 rfl rfl 13 (by decide) (hts _ (wm zw_650)) (fun _ h9 => h9) rfl dX6_go_150 ?_
      refine lv_bipush (v := (16 : Int32)) hx hb dX6_go_153 (by decide) ?_
      refine lv_icmp_ne (tgt := 164) hx hb dX6_go_155 (by decide) (fun c_5 => ?_) (fun c_5 => ?_)
      · skip
        rw [if_neg c_5] at h
        refine lv_aload_n hx hb dX6_go_164 rfl (lv_at hl 1 rfl) ?_
        refine lv_aload_n hx hb dX6_go_165 rfl (lv_at hl 1 rfl) ?_
        refine va_get (D := D) (ci := 5) (v := .ref (z 15)) (C := RX6) (T := TX6) (N := 33) hx hb hts (fun w h => wm (zin_X6 w h)) hown hK hP 0 rfl rfl 15 (by decide) (hts _ (wm zw_652)) (fun _ h9 => h9) rfl dX6_go_166 ?_
        refine lv_iload_n hx hb dX6_go_169 rfl (lv_at hl 2 rfl) ?_
        obtain ⟨hi_6, h⟩ := zb_if h
        refine va_iald hx hb hK hP 4 3 rfl rfl (inb_in hi_6) dX6_go_170 ?_
        refine W.eq (g2 := F0 m 171 ls ([.int (Va v 15 x0.toNatClampNeg), .ref (z 0)])) rfl ?_
        refine lv_iload_n hx hb dX6_go_171 rfl (lv_at hl 0 rfl) ?_
        refine lv_aload_n hx hb dX6_go_172 rfl (lv_at hl 1 rfl) ?_
        refine va_get (D := D) (ci := 5) (v := .ref (z 20)) (C := RX6) (T := TX6) (N := 33) hx hb hts (fun w h => wm (zin_X6 w h)) hown hK hP 0 rfl rfl 20 (by decide) (hts _ (wm zw_657)) (fun _ h9 => h9) rfl dX6_go_173 ?_
        refine lv_iload_n hx hb dX6_go_176 rfl (lv_at hl 2 rfl) ?_
        obtain ⟨hi_7, h⟩ := zb_if h
        refine va_iald hx hb hK hP 9 3 rfl rfl (inb_in hi_7) dX6_go_177 ?_
        refine W.eq (g2 := F0 m 178 ls ([.int (Va v 20 x0.toNatClampNeg), .int y_1, .int (Va v 15 x0.toNatClampNeg), .ref (z 0)])) rfl ?_
        refine lv_iconst (v := (1 : Int32)) hx hb dX6_go_178 (by decide) ?_
        refine lv_iadd hx hb dX6_go_179 ?_
        refine lv_aload_n hx hb dX6_go_180 rfl (lv_at hl 1 rfl) ?_
        refine va_get (D := D) (ci := 5) (v := .int (Vi v 4)) (C := RX6) (T := TX6) (N := 33) hx hb hts (fun w h => wm (zin_X6 w h)) hown hK hP 0 rfl rfl 4 (by decide) (hts _ (wm zw_641)) (fun _ h9 => h9) rfl dX6_go_181 ?_
        obtain ⟨x_8, hc_8, h⟩ := zb_bind h
        try dsimp only at h
        refine va_calli (va_runV (As := [.int (Va v 15 x0.toNatClampNeg), .int y_1, .int ((Va v 20 x0.toNatClampNeg) + (1 : Int32)), .int (Vi v 4)]) (rest := []) ⟨hx, hb, hml, hown, hts⟩ (ct_X6_find l D c4 A z v (Va v 15 x0.toNatClampNeg) y_1 ((Va v 20 x0.toNatClampNeg) + (1 : Int32)) (Vi v 4) _ hc_8) (cwV 4 hts (wz_V zw_832 zw_834 zs_26 zw_6 zw_835) rfl rfl rfl (by decide +kernel) ⟨Nat.le_of_ble_eq_true rfl, Nat.le_of_ble_eq_true rfl⟩) ⟨fbM, va_recv hK hP (ci := 5) (q0 := 0) rfl rfl, fun U9 hU hW => ⟨rfl, wPre_go hP hD hK hA hS hU hW.alike⟩⟩ rfl rfl hl.1 rfl (lv_room (Nat.le_of_ble_eq_true rfl)) dX6_go_184 ⟨Nat.le_of_ble_eq_true rfl, Nat.le_of_ble_eq_true rfl⟩) hS (fun q _ h => h) (fun q h => h) (fun r_8 u_8 t H1 locs ht hvm e_8 hB hz1 hk1 hS => ?_)
        subst e_8
        try dsimp only at h
        obtain ⟨hP, hD, -, -⟩ := hB
        rw [ht] at hP
        generalize H1 = H at hP hS ⊢
        refine lv_istore (lv' := [(4, .int r_8), (3, .int y_1), (0, .ref (z 0)), (1, .int x0), (2, .int x1)]) hx hb dX6_go_187 hl (by decide) rfl (fun ls hl => ?_)
        refine lv_iload hx hb dX6_go_189 (lv_at hl 0 rfl) ?_
        refine lv_if_eq (tgt := 220) hx hb dX6_go_191 (by decide) (fun c_9 => ?_) (fun c_9 => ?_)
        · skip
          rw [if_pos c_9] at h
          refine lv_aload_n hx hb dX6_go_220 rfl (lv_at hl 2 rfl) ?_
          refine lv_aload_n hx hb dX6_go_221 rfl (lv_at hl 2 rfl) ?_
          refine va_get (D := D) (ci := 5) (v := .int (Vi u_8 4)) (C := RX6) (T := TX6) (N := 33) hx hb hts (fun w h => wm (zin_X6 w h)) hown hK hP 0 rfl rfl 4 (by decide) (hts _ (wm zw_641)) (fun _ h9 => h9) rfl dX6_go_222 ?_
          refine lv_aload_n hx hb dX6_go_225 rfl (lv_at hl 2 rfl) ?_
          refine va_get (D := D) (ci := 5) (v := .long (Vl u_8 12)) (C := RX6) (T := TX6) (N := 33) hx hb hts (fun w h => wm (zin_X6 w h)) hown hK hP 0 rfl rfl 12 (by decide) (hts _ (wm zw_649)) (fun _ h9 => h9) rfl dX6_go_226 ?_
          refine lv_l2i hx hb dX6_go_229 rfl ?_
          refine lv_isub hx hb dX6_go_230 ?_
          obtain ⟨y_10, e_10, h⟩ := zb_bind h
          try dsimp only at h
          refine zt_i (Option.some.inj e_10) ?_
          refine va_put (D := D) (ci := 5) (v := .int y_10) (ty := .int) (C := RX6) (T := TX6) (N := 33) hx hb hts (fun w h => wm (zin_X6 w h)) tyX6 tyX6_ok nmX6 hown hK hP hD hS 0 rfl rfl 4 (by decide) (hts _ (wm zw_641)) (fun _ h9 => h9) rfl (by decide +kernel) rfl rfl (Nat.le_of_ble_eq_true rfl) dX6_go_231 (fun H locs hP hD hS => ?_)
          have hP : va_P D vwCl (mW c4 z (tI u_8 4 y_10)) H := hP
          have hD : va_D A (mW c4 z (tI u_8 4 y_10)) := hD
          refine lv_aload_n hx hb dX6_go_234 rfl (lv_at hl 2 rfl) ?_
          refine lv_aload_n hx hb dX6_go_235 rfl (lv_at hl 2 rfl) ?_
          refine va_get (D := D) (ci := 5) (v := .ref (z 20)) (C := RX6) (T := TX6) (N := 33) hx hb hts (fun w h => wm (zin_X6 w h)) hown hK hP 0 rfl rfl 20 (by decide) (hts _ (wm zw_657)) (fun _ h9 => h9) rfl dX6_go_236 ?_
          refine lv_iload_n hx hb dX6_go_239 rfl (lv_at hl 3 rfl) ?_
          obtain ⟨hi_11, h⟩ := zb_if h
          refine va_iald hx hb hK hP 9 3 rfl rfl (inb_in hi_11) dX6_go_240 ?_
          refine W.eq (g2 := F0 m 241 ls ([.int (Va u_8 20 x0.toNatClampNeg), .ref (z 0)])) rfl ?_
          refine lv_iconst (v := (1 : Int32)) hx hb dX6_go_241 (by decide) ?_
          refine lv_iadd hx hb dX6_go_242 ?_
          obtain ⟨x_12, hc_12, h⟩ := zb_bind h
          try dsimp only at h
          refine va_calli (va_runV (As := [.int ((Va u_8 20 x0.toNatClampNeg) + (1 : Int32))]) (rest := []) ⟨hx, hb, hml, hown, hts⟩ (ct_X6_hold l D c4 A z (tI u_8 4 y_10) ((Va u_8 20 x0.toNatClampNeg) + (1 : Int32)) _ hc_12) (cwV 1 hts (wz_V zw_812 zw_814 zs_23 zw_6 zw_815) rfl rfl rfl (by decide +kernel) ⟨Nat.le_of_ble_eq_true rfl, Nat.le_of_ble_eq_true rfl⟩) ⟨fbM, va_recv hK hP (ci := 5) (q0 := 0) rfl rfl, fun U9 hU hW => ⟨rfl, wPre_go hP hD hK hA hS hU hW.alike⟩⟩ rfl rfl hl.1 rfl (lv_room (Nat.le_of_ble_eq_true rfl)) dX6_go_243 ⟨Nat.le_of_ble_eq_true rfl, Nat.le_of_ble_eq_true rfl⟩) hS (fun q _ h => h) (fun q h => h) (fun r_12 u_12 t H1 locs ht hvm e_12 hB hz1 hk1 hS => ?_)
          subst e_12
          try dsimp only at h
          obtain ⟨hP, hD, -, -⟩ := hB
          rw [ht] at hP
          generalize H1 = H at hP hS ⊢
          exact W.iret (v := r_12) hx hb hr (fun t ht hW => ⟨⟨r_12, u_12, rfl, (Option.some.inj h).symm, wPre_go hP hD hK hA hS ht hW.alike⟩, hS.F ht⟩) hS.2.2 dX6_go_246
        · skip
          rw [if_neg c_9] at h
          refine lv_aload_n hx hb dX6_go_194 rfl (lv_at hl 2 rfl) ?_
          refine lv_iload hx hb dX6_go_195 (lv_at hl 0 rfl) ?_
          refine lv_iconst (v := (1 : Int32)) hx hb dX6_go_197 (by decide) ?_
          refine lv_icmp_ne (tgt := 205) hx hb dX6_go_198 (by decide) (fun c_13 => ?_) (fun c_13 => ?_)
          · skip
            rw [if_neg c_13] at h
            refine lv_iload hx hb dX6_go_205 (lv_at hl 0 rfl) ?_
            refine lv_iconst (v := (2 : Int32)) hx hb dX6_go_207 (by decide) ?_
            refine lv_icmp_ne (tgt := 215) hx hb dX6_go_208 (by decide) (fun c_14 => ?_) (fun c_14 => ?_)
            · skip
              rw [if_neg c_14] at h
              refine lv_iconst (v := (4 : Int32)) hx hb dX6_go_215 (by decide) ?_
              obtain ⟨x_15, hc_15, h⟩ := zb_bind h
              try dsimp only at h
              refine va_calli (va_runV (As := [.int (4 : Int32)]) (rest := []) ⟨hx, hb, hml, hown, hts⟩ (ct_X6_fail l D c4 A z u_8 (4 : Int32) _ hc_15) (cwV 1 hts (wz_V zw_828 zw_830 zs_25 zw_6 zw_831) rfl rfl rfl (by decide +kernel) ⟨Nat.le_of_ble_eq_true rfl, Nat.le_of_ble_eq_true rfl⟩) ⟨fbM, va_recv hK hP (ci := 5) (q0 := 0) rfl rfl, fun U9 hU hW => ⟨rfl, wPre_go hP hD hK hA hS hU hW.alike⟩⟩ rfl rfl hl.1 rfl (lv_room (Nat.le_of_ble_eq_true rfl)) dX6_go_216 ⟨Nat.le_of_ble_eq_true rfl, Nat.le_of_ble_eq_true rfl⟩) hS (fun q _ h => h) (fun q h => h) (fun r_15 u_15 t H1 locs ht hvm e_15 hB hz1 hk1 hS => ?_)
              subst e_15
              try dsimp only at h
              obtain ⟨hP, hD, -, -⟩ := hB
              rw [ht] at hP
              generalize H1 = H at hP hS ⊢
              exact W.iret (v := r_15) hx hb hr (fun t ht hW => ⟨⟨r_15, u_15, rfl, (Option.some.inj h).symm, wPre_go hP hD hK hA hS ht hW.alike⟩, hS.F ht⟩) hS.2.2 dX6_go_219
            · skip
              rw [if_pos c_14] at h
              refine lv_iconst (v := (5 : Int32)) hx hb dX6_go_211 (by decide) ?_
              refine lv_goto (tgt := 216) hx hb dX6_go_212 (by decide) ?_
              obtain ⟨x_16, hc_16, h⟩ := zb_bind h
              try dsimp only at h
              refine va_calli (va_runV (As := [.int (5 : Int32)]) (rest := []) ⟨hx, hb, hml, hown, hts⟩ (ct_X6_fail l D c4 A z u_8 (5 : Int32) _ hc_16) (cwV 1 hts (wz_V zw_828 zw_830 zs_25 zw_6 zw_831) rfl rfl rfl (by decide +kernel) ⟨Nat.le_of_ble_eq_true rfl, Nat.le_of_ble_eq_true rfl⟩) ⟨fbM, va_recv hK hP (ci := 5) (q0 := 0) rfl rfl, fun U9 hU hW => ⟨rfl, wPre_go hP hD hK hA hS hU hW.alike⟩⟩ rfl rfl hl.1 rfl (lv_room (Nat.le_of_ble_eq_true rfl)) dX6_go_216 ⟨Nat.le_of_ble_eq_true rfl, Nat.le_of_ble_eq_true rfl⟩) hS (fun q _ h => h) (fun q h => h) (fun r_16 u_16 t H1 locs ht hvm e_16 hB hz1 hk1 hS => ?_)
              subst e_16
              try dsimp only at h
              obtain ⟨hP, hD, -, -⟩ := hB
              rw [ht] at hP
              generalize H1 = H at hP hS ⊢
              exact W.iret (v := r_16) hx hb hr (fun t ht hW => ⟨⟨r_16, u_16, rfl, (Option.some.inj h).symm, wPre_go hP hD hK hA hS ht hW.alike⟩, hS.F ht⟩) hS.2.2 dX6_go_219
          · skip
            rw [if_pos c_13] at h
            refine lv_iconst (v := (3 : Int32)) hx hb dX6_go_201 (by decide) ?_
            refine lv_goto (tgt := 216) hx hb dX6_go_202 (by decide) ?_
            obtain ⟨x_17, hc_17, h⟩ := zb_bind h
            try dsimp only at h
            refine va_calli (va_runV (As := [.int (3 : Int32)]) (rest := []) ⟨hx, hb, hml, hown, hts⟩ (ct_X6_fail l D c4 A z u_8 (3 : Int32) _ hc_17) (cwV 1 hts (wz_V zw_828 zw_830 zs_25 zw_6 zw_831) rfl rfl rfl (by decide +kernel) ⟨Nat.le_of_ble_eq_true rfl, Nat.le_of_ble_eq_true rfl⟩) ⟨fbM, va_recv hK hP (ci := 5) (q0 := 0) rfl rfl, fun U9 hU hW => ⟨rfl, wPre_go hP hD hK hA hS hU hW.alike⟩⟩ rfl rfl hl.1 rfl (lv_room (Nat.le_of_ble_eq_true rfl)) dX6_go_216 ⟨Nat.le_of_ble_eq_true rfl, Nat.le_of_ble_eq_true rfl⟩) hS (fun q _ h => h) (fun q h => h) (fun r_17 u_17 t H1 locs ht hvm e_17 hB hz1 hk1 hS => ?_)
            subst e_17
            try dsimp only at h
            obtain ⟨hP, hD, -, -⟩ := hB
            rw [ht] at hP
            generalize H1 = H at hP hS ⊢
            exact W.iret (v := r_17) hx hb hr (fun t ht hW => ⟨⟨r_17, u_17, rfl, (Option.some.inj h).symm, wPre_go hP hD hK hA hS ht hW.alike⟩, hS.F ht⟩) hS.2.2 dX6_go_219
      · skip
        rw [if_pos c_5] at h
        refine lv_aload_n hx hb dX6_go_158 rfl (lv_at hl 1 rfl) ?_
        refine lv_iconst (v := (4 : Int32)) hx hb dX6_go_159 (by decide) ?_
        obtain ⟨x_18, hc_18, h⟩ := zb_bind h
        try dsimp only at h
        refine va_calli (va_runV (As := [.int (4 : Int32)]) (rest := []) ⟨hx, hb, hml, hown, hts⟩ (ct_X6_fail l D c4 A z v (4 : Int32) _ hc_18) (cwV 1 hts (wz_V zw_828 zw_830 zs_25 zw_6 zw_831) rfl rfl rfl (by decide +kernel) ⟨Nat.le_of_ble_eq_true rfl, Nat.le_of_ble_eq_true rfl⟩) ⟨fbM, va_recv hK hP (ci := 5) (q0 := 0) rfl rfl, fun U9 hU hW => ⟨rfl, wPre_go hP hD hK hA hS hU hW.alike⟩⟩ rfl rfl hl.1 rfl (lv_room (Nat.le_of_ble_eq_true rfl)) dX6_go_160 ⟨Nat.le_of_ble_eq_true rfl, Nat.le_of_ble_eq_true rfl⟩) hS (fun q _ h => h) (fun q h => h) (fun r_18 u_18 t H1 locs ht hvm e_18 hB hz1 hk1 hS => ?_)
        subst e_18
        try dsimp only at h
        obtain ⟨hP, hD, -, -⟩ := hB
        rw [ht] at hP
        generalize H1 = H at hP hS ⊢
        exact W.iret (v := r_18) hx hb hr (fun t ht hW => ⟨⟨r_18, u_18, rfl, (Option.some.inj h).symm, wPre_go hP hD hK hA hS ht hW.alike⟩, hS.F ht⟩) hS.2.2 dX6_go_163
    · skip
      have c_4 := (lg_cmp_eq _ _).mp c_4
      rw [if_pos c_4] at h
      refine lv_iconst (v := (-1 : Int32)) hx hb dX6_go_147 (by decide) ?_
      exact W.iret (v := (-1 : Int32)) hx hb hr (fun t ht hW => ⟨⟨(-1 : Int32), v, rfl, (Option.some.inj h).symm, wPre_go hP hD hK hA hS ht hW.alike⟩, hS.F ht⟩) hS.2.2 dX6_go_148
  have k_97 : ∀ (v : MS) (H : Heap) (locs : List Loc) (x0 : Int32) (x1 : Int32), va_P D vwCl (mW c4 z v) H → va_D A (mW c4 z v) → va_S A s.heap H locs → ∀ (ls : Array Slot), lv_has ls 5 [(0, .ref (z 0)), (1, .int x0), (2, .int x1)] → pX6_go_97 v x0 x1 = some res → W p l e ({ frames := 4, cells := 0, slots := 0, locals := 101 } : Room) s m ([.ref (z 0), .int a1, .int a2] : List Value).toArray below meth c H locs 0 0 (MQ below (va_Qi (fun q w => res = (w, q)) (fun w t => wPre D c4 A (mW c4 z w) t) A) ([.ref (z 0), .int a1, .int a2] : List Value).toArray s 0 0 A) (F0 m 97 ls []) := by
    intro v H locs x0 x1 hP hD hS ls hl h
    unfold pX6_go_97 at h
    refine lv_aload_n hx hb dX6_go_97 rfl (lv_at hl 0 rfl) ?_
    refine va_get (D := D) (ci := 5) (v := .ref (z 16)) (C := RX6) (T := TX6) (N := 33) hx hb hts (fun w h => wm (zin_X6 w h)) hown hK hP 0 rfl rfl 16 (by decide) (hts _ (wm zw_653)) (fun _ h9 => h9) rfl dX6_go_98 ?_
    refine lv_iload_n hx hb dX6_go_101 rfl (lv_at hl 1 rfl) ?_
    obtain ⟨hi_19, h⟩ := zb_if h
    refine va_iald hx hb hK hP 5 3 rfl rfl (inb_in hi_19) dX6_go_102 ?_
    refine W.eq (g2 := F0 m 103 ls ([.int (Va v 16 x0.toNatClampNeg)])) rfl ?_
    refine lv_aload_n hx hb dX6_go_103 rfl (lv_at hl 0 rfl) ?_
    refine va_get (D := D) (ci := 5) (v := .ref (z 14)) (C := RX6) (T := TX6) (N := 33) hx hb hts (fun w h => wm (zin_X6 w h)) hown hK hP 0 rfl rfl 14 (by decide) (hts _ (wm zw_651)) (fun _ h9 => h9) rfl dX6_go_104 ?_
    refine lv_iload_n hx hb dX6_go_107 rfl (lv_at hl 1 rfl) ?_
    obtain ⟨hi_20, h⟩ := zb_if h
    refine va_iald hx hb hK hP 3 3 rfl rfl (inb_in hi_20) dX6_go_108 ?_
    refine W.eq (g2 := F0 m 109 ls ([.int (Va v 14 x0.toNatClampNeg), .int (Va v 16 x0.toNatClampNeg)])) rfl ?_
    refine lv_if_ne (tgt := 121) hx hb dX6_go_109 (by decide) (fun c_21 => ?_) (fun c_21 => ?_)
    · skip
      rw [if_neg c_21] at h
      refine lv_iconst (v := (0 : Int32)) hx hb dX6_go_121 (by decide) ?_
      exact k_122 v _ _ x0 x1 (0 : Int32) (Va v 16 x0.toNatClampNeg) hP hD hS ls (lv_sub hl [0, 1, 2] rfl) h
    · skip
      rw [if_pos c_21] at h
      refine lv_aload_n hx hb dX6_go_112 rfl (lv_at hl 0 rfl) ?_
      refine va_get (D := D) (ci := 5) (v := .ref (z 17)) (C := RX6) (T := TX6) (N := 33) hx hb hts (fun w h => wm (zin_X6 w h)) hown hK hP 0 rfl rfl 17 (by decide) (hts _ (wm zw_654)) (fun _ h9 => h9) rfl dX6_go_113 ?_
      refine lv_iload_n hx hb dX6_go_116 rfl (lv_at hl 1 rfl) ?_
      obtain ⟨hi_22, h⟩ := zb_if h
      refine va_iald hx hb hK hP 6 3 rfl rfl (inb_in hi_22) dX6_go_117 ?_
      refine W.eq (g2 := F0 m 118 ls ([.int (Va v 17 x0.toNatClampNeg), .int (Va v 16 x0.toNatClampNeg)])) rfl ?_
      refine lv_goto (tgt := 122) hx hb dX6_go_118 (by decide) ?_
      exact k_122 v _ _ x0 x1 (Va v 17 x0.toNatClampNeg) (Va v 16 x0.toNatClampNeg) hP hD hS ls (lv_sub hl [0, 1, 2] rfl) h
  have k_76 : ∀ (v : MS) (H : Heap) (locs : List Loc) (x0 : Int32) (x1 : Int32), va_P D vwCl (mW c4 z v) H → va_D A (mW c4 z v) → va_S A s.heap H locs → ∀ (ls : Array Slot), lv_has ls 5 [(0, .ref (z 0)), (1, .int x0), (2, .int x1)] → pX6_go_76 v x0 x1 = some res → W p l e ({ frames := 4, cells := 0, slots := 0, locals := 101 } : Room) s m ([.ref (z 0), .int a1, .int a2] : List Value).toArray below meth c H locs 0 0 (MQ below (va_Qi (fun q w => res = (w, q)) (fun w t => wPre D c4 A (mW c4 z w) t) A) ([.ref (z 0), .int a1, .int a2] : List Value).toArray s 0 0 A) (F0 m 76 ls []) := by
    intro v H locs x0 x1 hP hD hS ls hl h
    unfold pX6_go_76 at h
    refine lv_aload_n hx hb dX6_go_76 rfl (lv_at hl 0 rfl) ?_
    refine va_get (D := D) (ci := 5) (v := .ref (z 14)) (C := RX6) (T := TX6) (N := 33) hx hb hts (fun w h => wm (zin_X6 w h)) hown hK hP 0 rfl rfl 14 (by decide) (hts _ (wm zw_651)) (fun _ h9 => h9) rfl dX6_go_77 ?_
    refine lv_iload_n hx hb dX6_go_80 rfl (lv_at hl 1 rfl) ?_
    obtain ⟨hi_23, h⟩ := zb_if h
    refine va_iald hx hb hK hP 3 3 rfl rfl (inb_in hi_23) dX6_go_81 ?_
    refine W.eq (g2 := F0 m 82 ls ([.int (Va v 14 x0.toNatClampNeg)])) rfl ?_
    refine lv_if_ne (tgt := 97) hx hb dX6_go_82 (by decide) (fun c_24 => ?_) (fun c_24 => ?_)
    · skip
      rw [if_neg c_24] at h
      exact k_97 v _ _ x0 x1 hP hD hS ls (lv_sub hl [0, 1, 2] rfl) h
    · skip
      rw [if_pos c_24] at h
      refine lv_iload_n hx hb dX6_go_85 rfl (lv_at hl 2 rfl) ?_
      refine lv_aload_n hx hb dX6_go_86 rfl (lv_at hl 0 rfl) ?_
      refine va_get (D := D) (ci := 5) (v := .ref (z 19)) (C := RX6) (T := TX6) (N := 33) hx hb hts (fun w h => wm (zin_X6 w h)) hown hK hP 0 rfl rfl 19 (by decide) (hts _ (wm zw_656)) (fun _ h9 => h9) rfl dX6_go_87 ?_
      refine lv_iload_n hx hb dX6_go_90 rfl (lv_at hl 1 rfl) ?_
      obtain ⟨hi_25, h⟩ := zb_if h
      refine va_iald hx hb hK hP 8 3 rfl rfl (inb_in hi_25) dX6_go_91 ?_
      refine W.eq (g2 := F0 m 92 ls ([.int (Va v 19 x0.toNatClampNeg), .int x1])) rfl ?_
      refine lv_icmp_lt (tgt := 97) hx hb dX6_go_92 (by decide) (fun c_26 => ?_) (fun c_26 => ?_)
      · skip
        rw [if_pos c_26] at h
        exact k_97 v _ _ x0 x1 hP hD hS ls (lv_sub hl [0, 1, 2] rfl) h
      · skip
        rw [if_neg c_26] at h
        refine lv_iconst (v := (-1 : Int32)) hx hb dX6_go_95 (by decide) ?_
        exact W.iret (v := (-1 : Int32)) hx hb hr (fun t ht hW => ⟨⟨(-1 : Int32), v, rfl, (Option.some.inj h).symm, wPre_go hP hD hK hA hS ht hW.alike⟩, hS.F ht⟩) hS.2.2 dX6_go_96
  have k_45 : ∀ (v : MS) (H : Heap) (locs : List Loc) (x0 : Int32) (x1 : Int32), va_P D vwCl (mW c4 z v) H → va_D A (mW c4 z v) → va_S A s.heap H locs → ∀ (ls : Array Slot), lv_has ls 5 [(0, .ref (z 0)), (1, .int x0), (2, .int x1)] → pX6_go_45 v x0 x1 = some res → W p l e ({ frames := 4, cells := 0, slots := 0, locals := 101 } : Room) s m ([.ref (z 0), .int a1, .int a2] : List Value).toArray below meth c H locs 0 0 (MQ below (va_Qi (fun q w => res = (w, q)) (fun w t => wPre D c4 A (mW c4 z w) t) A) ([.ref (z 0), .int a1, .int a2] : List Value).toArray s 0 0 A) (F0 m 45 ls []) := by
    intro v H locs x0 x1 hP hD hS ls hl h
    unfold pX6_go_45 at h
    refine lv_iload_n hx hb dX6_go_45 rfl (lv_at hl 2 rfl) ?_
    refine lv_if_lt (tgt := 70) hx hb dX6_go_46 (by decide) (fun c_27 => ?_) (fun c_27 => ?_)
    · skip
      rw [if_pos c_27] at h
      refine lv_aload_n hx hb dX6_go_70 rfl (lv_at hl 0 rfl) ?_
      refine lv_iconst (v := (3 : Int32)) hx hb dX6_go_71 (by decide) ?_
      obtain ⟨x_28, hc_28, h⟩ := zb_bind h
      try dsimp only at h
      refine va_calli (va_runV (As := [.int (3 : Int32)]) (rest := []) ⟨hx, hb, hml, hown, hts⟩ (ct_X6_fail l D c4 A z v (3 : Int32) _ hc_28) (cwV 1 hts (wz_V zw_828 zw_830 zs_25 zw_6 zw_831) rfl rfl rfl (by decide +kernel) ⟨Nat.le_of_ble_eq_true rfl, Nat.le_of_ble_eq_true rfl⟩) ⟨fbM, va_recv hK hP (ci := 5) (q0 := 0) rfl rfl, fun U9 hU hW => ⟨rfl, wPre_go hP hD hK hA hS hU hW.alike⟩⟩ rfl rfl hl.1 rfl (lv_room (Nat.le_of_ble_eq_true rfl)) dX6_go_72 ⟨Nat.le_of_ble_eq_true rfl, Nat.le_of_ble_eq_true rfl⟩) hS (fun q _ h => h) (fun q h => h) (fun r_28 u_28 t H1 locs ht hvm e_28 hB hz1 hk1 hS => ?_)
      subst e_28
      try dsimp only at h
      obtain ⟨hP, hD, -, -⟩ := hB
      rw [ht] at hP
      generalize H1 = H at hP hS ⊢
      exact W.iret (v := r_28) hx hb hr (fun t ht hW => ⟨⟨r_28, u_28, rfl, (Option.some.inj h).symm, wPre_go hP hD hK hA hS ht hW.alike⟩, hS.F ht⟩) hS.2.2 dX6_go_75
    · skip
      rw [if_neg c_27] at h
      refine lv_aload_n hx hb dX6_go_49 rfl (lv_at hl 0 rfl) ?_
      refine va_get (D := D) (ci := 5) (v := .ref (z 14)) (C := RX6) (T := TX6) (N := 33) hx hb hts (fun w h => wm (zin_X6 w h)) hown hK hP 0 rfl rfl 14 (by decide) (hts _ (wm zw_651)) (fun _ h9 => h9) rfl dX6_go_50 ?_
      refine lv_iload_n hx hb dX6_go_53 rfl (lv_at hl 1 rfl) ?_
      obtain ⟨hi_29, h⟩ := zb_if h
      refine va_iald hx hb hK hP 3 3 rfl rfl (inb_in hi_29) dX6_go_54 ?_
      refine W.eq (g2 := F0 m 55 ls ([.int (Va v 14 x0.toNatClampNeg)])) rfl ?_
      refine lv_bipush (v := (7 : Int32)) hx hb dX6_go_55 (by decide) ?_
      refine lv_icmp_ne (tgt := 76) hx hb dX6_go_57 (by decide) (fun c_30 => ?_) (fun c_30 => ?_)
      · skip
        rw [if_neg c_30] at h
        exact k_76 v _ _ x0 x1 hP hD hS ls (lv_sub hl [0, 1, 2] rfl) h
      · skip
        rw [if_pos c_30] at h
        refine lv_iload_n hx hb dX6_go_60 rfl (lv_at hl 2 rfl) ?_
        refine lv_aload_n hx hb dX6_go_61 rfl (lv_at hl 0 rfl) ?_
        refine va_get (D := D) (ci := 5) (v := .ref (z 17)) (C := RX6) (T := TX6) (N := 33) hx hb hts (fun w h => wm (zin_X6 w h)) hown hK hP 0 rfl rfl 17 (by decide) (hts _ (wm zw_654)) (fun _ h9 => h9) rfl dX6_go_62 ?_
        refine lv_iload_n hx hb dX6_go_65 rfl (lv_at hl 1 rfl) ?_
        obtain ⟨hi_31, h⟩ := zb_if h
        refine va_iald hx hb hK hP 6 3 rfl rfl (inb_in hi_31) dX6_go_66 ?_
        refine W.eq (g2 := F0 m 67 ls ([.int (Va v 17 x0.toNatClampNeg), .int x1])) rfl ?_
        refine lv_icmp_lt (tgt := 76) hx hb dX6_go_67 (by decide) (fun c_32 => ?_) (fun c_32 => ?_)
        · skip
          rw [if_pos c_32] at h
          exact k_76 v _ _ x0 x1 hP hD hS ls (lv_sub hl [0, 1, 2] rfl) h
        · skip
          rw [if_neg c_32] at h
          refine lv_aload_n hx hb dX6_go_70 rfl (lv_at hl 0 rfl) ?_
          refine lv_iconst (v := (3 : Int32)) hx hb dX6_go_71 (by decide) ?_
          obtain ⟨x_33, hc_33, h⟩ := zb_bind h
          try dsimp only at h
          refine va_calli (va_runV (As := [.int (3 : Int32)]) (rest := []) ⟨hx, hb, hml, hown, hts⟩ (ct_X6_fail l D c4 A z v (3 : Int32) _ hc_33) (cwV 1 hts (wz_V zw_828 zw_830 zs_25 zw_6 zw_831) rfl rfl rfl (by decide +kernel) ⟨Nat.le_of_ble_eq_true rfl, Nat.le_of_ble_eq_true rfl⟩) ⟨fbM, va_recv hK hP (ci := 5) (q0 := 0) rfl rfl, fun U9 hU hW => ⟨rfl, wPre_go hP hD hK hA hS hU hW.alike⟩⟩ rfl rfl hl.1 rfl (lv_room (Nat.le_of_ble_eq_true rfl)) dX6_go_72 ⟨Nat.le_of_ble_eq_true rfl, Nat.le_of_ble_eq_true rfl⟩) hS (fun q _ h => h) (fun q h => h) (fun r_33 u_33 t H1 locs ht hvm e_33 hB hz1 hk1 hS => ?_)
          subst e_33
          try dsimp only at h
          obtain ⟨hP, hD, -, -⟩ := hB
          rw [ht] at hP
          generalize H1 = H at hP hS ⊢
          exact W.iret (v := r_33) hx hb hr (fun t ht hW => ⟨⟨r_33, u_33, rfl, (Option.some.inj h).symm, wPre_go hP hD hK hA hS ht hW.alike⟩, hS.F ht⟩) hS.2.2 dX6_go_75
  unfold pX6_go at h
  refine lv_aload_n hx hb dX6_go_0 rfl (lv_at hl 0 rfl) ?_
  refine lv_iconst (v := (0 : Int32)) hx hb dX6_go_1 (by decide) ?_
  refine va_put (D := D) (ci := 5) (v := .int (0 : Int32)) (ty := .int) (C := RX6) (T := TX6) (N := 33) hx hb hts (fun w h => wm (zin_X6 w h)) tyX6 tyX6_ok nmX6 hown hK hP hD hS 0 rfl rfl 0 (by decide) (hts _ (wm zw_637)) (fun _ h9 => h9) rfl (by decide +kernel) rfl rfl (Nat.le_of_ble_eq_true rfl) dX6_go_2 (fun H locs hP hD hS => ?_)
  have hP : va_P D vwCl (mW c4 z (tI v 0 (0 : Int32))) H := hP
  have hD : va_D A (mW c4 z (tI v 0 (0 : Int32))) := hD
  refine lv_aload_n hx hb dX6_go_5 rfl (lv_at hl 0 rfl) ?_
  refine lv_iload_n hx hb dX6_go_6 rfl (lv_at hl 1 rfl) ?_
  refine vp_callSi (W.runV (As := [.int a1]) (rest := []) ⟨hx, hb, hml, hown, hts⟩ (ct_X6_isHandle l D c4 A z (tI v 0 (0 : Int32)) a1 _ rfl) (cwV 1 hts (wz_V zw_824 zw_826 zs_24 zw_6 zw_827) rfl rfl rfl (by decide +kernel) ⟨Nat.le_of_ble_eq_true rfl, Nat.le_of_ble_eq_true rfl⟩) ⟨fbM, va_recv hK hP (ci := 5) (q0 := 0) rfl rfl, fun U9 hU hW => ⟨rfl, wPre_go hP hD hK hA hS hU hW.alike⟩⟩ rfl rfl hl.1 rfl (lv_room (Nat.le_of_ble_eq_true rfl)) dX6_go_7 ⟨Nat.le_of_ble_eq_true rfl, Nat.le_of_ble_eq_true rfl⟩) (fun r_34 e_34 => ?_)
  subst e_34
  refine lv_if_ne (tgt := 19) hx hb dX6_go_10 (by decide) (fun c_35 => ?_) (fun c_35 => ?_)
  · skip
    rw [if_neg c_35] at h
    refine lv_aload_n hx hb dX6_go_19 rfl (lv_at hl 0 rfl) ?_
    refine va_get (D := D) (ci := 5) (v := .ref (z 14)) (C := RX6) (T := TX6) (N := 33) hx hb hts (fun w h => wm (zin_X6 w h)) hown hK hP 0 rfl rfl 14 (by decide) (hts _ (wm zw_651)) (fun _ h9 => h9) rfl dX6_go_20 ?_
    refine lv_iload_n hx hb dX6_go_23 rfl (lv_at hl 1 rfl) ?_
    obtain ⟨hi_36, h⟩ := zb_if h
    refine va_iald hx hb hK hP 3 3 rfl rfl (inb_in hi_36) dX6_go_24 ?_
    refine W.eq (g2 := F0 m 25 ls ([.int (Va v 14 a1.toNatClampNeg)])) rfl ?_
    refine lv_if_eq (tgt := 45) hx hb dX6_go_25 (by decide) (fun c_37 => ?_) (fun c_37 => ?_)
    · skip
      rw [if_pos c_37] at h
      exact k_45 (tI v 0 (0 : Int32)) _ _ a1 a2 hP hD hS ls (lv_sub hl [0, 1, 2] rfl) h
    · skip
      rw [if_neg c_37] at h
      refine lv_aload_n hx hb dX6_go_28 rfl (lv_at hl 0 rfl) ?_
      refine va_get (D := D) (ci := 5) (v := .ref (z 14)) (C := RX6) (T := TX6) (N := 33) hx hb hts (fun w h => wm (zin_X6 w h)) hown hK hP 0 rfl rfl 14 (by decide) (hts _ (wm zw_651)) (fun _ h9 => h9) rfl dX6_go_29 ?_
      refine lv_iload_n hx hb dX6_go_32 rfl (lv_at hl 1 rfl) ?_
      obtain ⟨hi_38, h⟩ := zb_if h
      refine va_iald hx hb hK hP 3 3 rfl rfl (inb_in hi_38) dX6_go_33 ?_
      refine W.eq (g2 := F0 m 34 ls ([.int (Va v 14 a1.toNatClampNeg)])) rfl ?_
      refine lv_bipush (v := (7 : Int32)) hx hb dX6_go_34 (by decide) ?_
      refine lv_icmp_eq (tgt := 45) hx hb dX6_go_36 (by decide) (fun c_39 => ?_) (fun c_39 => ?_)
      · skip
        rw [if_pos c_39] at h
        exact k_45 (tI v 0 (0 : Int32)) _ _ a1 a2 hP hD hS ls (lv_sub hl [0, 1, 2] rfl) h
      · skip
        rw [if_neg c_39] at h
        refine lv_aload_n hx hb dX6_go_39 rfl (lv_at hl 0 rfl) ?_
        refine lv_iconst (v := (2 : Int32)) hx hb dX6_go_40 (by decide) ?_
        obtain ⟨x_40, hc_40, h⟩ := zb_bind h
        try dsimp only at h
        refine va_calli (va_runV (As := [.int (2 : Int32)]) (rest := []) ⟨hx, hb, hml, hown, hts⟩ (ct_X6_fail l D c4 A z (tI v 0 (0 : Int32)) (2 : Int32) _ hc_40) (cwV 1 hts (wz_V zw_828 zw_830 zs_25 zw_6 zw_831) rfl rfl rfl (by decide +kernel) ⟨Nat.le_of_ble_eq_true rfl, Nat.le_of_ble_eq_true rfl⟩) ⟨fbM, va_recv hK hP (ci := 5) (q0 := 0) rfl rfl, fun U9 hU hW => ⟨rfl, wPre_go hP hD hK hA hS hU hW.alike⟩⟩ rfl rfl hl.1 rfl (lv_room (Nat.le_of_ble_eq_true rfl)) dX6_go_41 ⟨Nat.le_of_ble_eq_true rfl, Nat.le_of_ble_eq_true rfl⟩) hS (fun q _ h => h) (fun q h => h) (fun r_40 u_40 t H1 locs ht hvm e_40 hB hz1 hk1 hS => ?_)
        subst e_40
        try dsimp only at h
        obtain ⟨hP, hD, -, -⟩ := hB
        rw [ht] at hP
        generalize H1 = H at hP hS ⊢
        exact W.iret (v := r_40) hx hb hr (fun t ht hW => ⟨⟨r_40, u_40, rfl, (Option.some.inj h).symm, wPre_go hP hD hK hA hS ht hW.alike⟩, hS.F ht⟩) hS.2.2 dX6_go_44
  · skip
    rw [if_pos c_35] at h
    refine lv_aload_n hx hb dX6_go_13 rfl (lv_at hl 0 rfl) ?_
    refine lv_iconst (v := (1 : Int32)) hx hb dX6_go_14 (by decide) ?_
    obtain ⟨x_41, hc_41, h⟩ := zb_bind h
    try dsimp only at h
    refine va_calli (va_runV (As := [.int (1 : Int32)]) (rest := []) ⟨hx, hb, hml, hown, hts⟩ (ct_X6_fail l D c4 A z (tI v 0 (0 : Int32)) (1 : Int32) _ hc_41) (cwV 1 hts (wz_V zw_828 zw_830 zs_25 zw_6 zw_831) rfl rfl rfl (by decide +kernel) ⟨Nat.le_of_ble_eq_true rfl, Nat.le_of_ble_eq_true rfl⟩) ⟨fbM, va_recv hK hP (ci := 5) (q0 := 0) rfl rfl, fun U9 hU hW => ⟨rfl, wPre_go hP hD hK hA hS hU hW.alike⟩⟩ rfl rfl hl.1 rfl (lv_room (Nat.le_of_ble_eq_true rfl)) dX6_go_15 ⟨Nat.le_of_ble_eq_true rfl, Nat.le_of_ble_eq_true rfl⟩) hS (fun q _ h => h) (fun q h => h) (fun r_41 u_41 t H1 locs ht hvm e_41 hB hz1 hk1 hS => ?_)
    subst e_41
    try dsimp only at h
    obtain ⟨hP, hD, -, -⟩ := hB
    rw [ht] at hP
    generalize H1 = H at hP hS ⊢
    exact W.iret (v := r_41) hx hb hr (fun t ht hW => ⟨⟨r_41, u_41, rfl, (Option.some.inj h).symm, wPre_go hP hD hK hA hS ht hW.alike⟩, hS.F ht⟩) hS.2.2 dX6_go_18
def pX6_element_60 (v : MS) (x0 : Int32) (x1 : Int32) (y0 : Int32) : Option (MS × Int32) := (if y0 = 0 then (if inb x0 16 = true then ((some (Va v 15 x0.toNatClampNeg)).bind fun y_3 => (if inb x0 16 = true then (if inb x0 16 = true then (if inb x0 16 = true then ((some ((Va v 16 x0.toNatClampNeg) + (x1 * ((Va v 18 x0.toNatClampNeg) + (Va v 19 x0.toNatClampNeg))))).bind fun y_7 => (if inb x0 16 = true then ((some ((Va v 18 x0.toNatClampNeg).toInt64)).bind fun y_9 => (if inb x0 16 = true then ((some (Va v 19 x0.toNatClampNeg)).bind fun y_11 => (if inb x0 16 = true then ((pX6_hold (tI (tI (tL (tI (tI (tI (tI v 0 y0) 5 (0 : Int32)) 6 y_3) 7 y_7) 8 y_9) 9 (0 : Int32)) 10 y_11) (Va v 20 x0.toNatClampNeg)).bind fun x_13 => some ((x_13.1), (x_13.2))) else none)) else none)) else none)) else none) else none) else none)) else none) else some ((tI v 0 y0), (0 : Int32)))
def pX6_element_42 (v : MS) (x0 : Int32) (x1 : Int32) : Option (MS × Int32) := pX6_element_60 v x0 x1 (3 : Int32)
def pX6_element (v : MS) (a1 : Int32) (a2 : Int32) : Option (MS × Int32) := (if (pX6_isHandle v a1) = 0 then pX6_element_60 v a1 a2 (1 : Int32) else (if inb a1 16 = true then (if (Va v 14 a1.toNatClampNeg) = (8 : Int32) then (if a2 < 0 then pX6_element_42 v a1 a2 else (if inb a1 16 = true then (if a2 < (Va v 17 a1.toNatClampNeg) then (if (Vi v 13) = (16 : Int32) then pX6_element_60 v a1 a2 (4 : Int32) else pX6_element_60 v a1 a2 (0 : Int32)) else pX6_element_42 v a1 a2) else none)) else pX6_element_60 v a1 a2 (2 : Int32)) else none))
set_option maxHeartbeats 4000000 in
set_option maxRecDepth 100000 in
theorem ct_X6_element (l : Launch) (D : va_G) (c4 : Nat → ClassId) (A : Nat → Prop) (z : Nat → Nat) (v : MS) (a1 : Int32) (a2 : Int32) (res : MS × Int32) (h : pX6_element v a1 a2 = some res) : Met l yX6_element (wz yX6_element cX6_element 3 (some .int)) ({ frames := 1, cells := 0, slots := 0, locals := 21 } : Room) (va_Pc [.ref (z 0), .int a1, .int a2] (fun U => mPre D c4 A z v U)) (va_Qi (fun q w => res = (w, q)) (fun w t => wPre D c4 A (mW c4 z w) t) A) 0 0 A := by
  refine Met.ofW (cc := cX6_element) (maxL := 3) (ret := (some .int)) (by decide) rfl ?_
  intro p e s m args below meth c s₁ B hml hv
  obtain ⟨rfl, hP, hD, hK, hA⟩ := hv
  have hx := B.exec
  have hb := B.bytes
  have hr := B.returns
  have hts := atoms_spec (ws := (wz yX6_element cX6_element 3 (some .int))) B.pre
  have hown : s.vm.findClass RX6 = some m.cls := findClass_of_methodNamed B.named
  have hlocks := B.notSynchronized
  have hS : va_S A s.heap s.heap [] := va_S.rf
  have hl := lv_entry ([.ref (z 0), .int a1, .int a2]) (n := 3) (Nat.le_of_ble_eq_true rfl)
  rw [lg_entry_eq]
  generalize (lg_sl ([.ref (z 0), .int a1, .int a2]) ++ List.replicate (3 - (lg_sl ([.ref (z 0), .int a1, .int a2])).length) Slot.unset).toArray = ls at hl ⊢
  have hl : lv_has ls 3 [(0, .ref (z 0)), (1, .int a1), (2, .int a2)] := hl
  have k_60 : ∀ (v : MS) (H : Heap) (locs : List Loc) (x0 : Int32) (x1 : Int32) (y0 : Int32), va_P D vwCl (mW c4 z v) H → va_D A (mW c4 z v) → va_S A s.heap H locs → ∀ (ls : Array Slot), lv_has ls 3 [(0, .ref (z 0)), (1, .int x0), (2, .int x1)] → pX6_element_60 v x0 x1 y0 = some res → W p l e ({ frames := 1, cells := 0, slots := 0, locals := 21 } : Room) s m ([.ref (z 0), .int a1, .int a2] : List Value).toArray below meth c H locs 0 0 (MQ below (va_Qi (fun q w => res = (w, q)) (fun w t => wPre D c4 A (mW c4 z w) t) A) ([.ref (z 0), .int a1, .int a2] : List Value).toArray s 0 0 A) (F0 m 60 ls [.int y0, .ref (z 0)]) := by
    intro v H locs x0 x1 y0 hP hD hS ls hl h
    unfold pX6_element_60 at h
    refine va_put (D := D) (ci := 5) (v := .int y0) (ty := .int) (C := RX6) (T := TX6) (N := 33) hx hb hts (fun w h => wm (zin_X6 w h)) tyX6 tyX6_ok nmX6 hown hK hP hD hS 0 rfl rfl 0 (by decide) (hts _ (wm zw_637)) (fun _ h9 => h9) rfl (by decide +kernel) rfl rfl (Nat.le_of_ble_eq_true rfl) dX6_element_60 (fun H locs hP hD hS => ?_)
    have hP : va_P D vwCl (mW c4 z (tI v 0 y0)) H := hP
    have hD : va_D A (mW c4 z (tI v 0 y0)) := hD
    refine lv_aload_n hx hb dX6_element_63 rfl (lv_at hl 0 rfl) ?_
    refine va_get (D := D) (ci := 5) (v := .int y0) (C := RX6) (T := TX6) (N := 33) hx hb hts (fun w h => wm (zin_X6 w h)) hown hK hP 0 rfl rfl 0 (by decide) (hts _ (wm zw_637)) (fun _ h9 => h9) rfl dX6_element_64 ?_
    refine lv_if_eq (tgt := 72) hx hb dX6_element_67 (by decide) (fun c_1 => ?_) (fun c_1 => ?_)
    · skip
      rw [if_pos c_1] at h
      refine lv_aload_n hx hb dX6_element_72 rfl (lv_at hl 0 rfl) ?_
      refine lv_iconst (v := (0 : Int32)) hx hb dX6_element_73 (by decide) ?_
      refine va_put (D := D) (ci := 5) (v := .int (0 : Int32)) (ty := .int) (C := RX6) (T := TX6) (N := 33) hx hb hts (fun w h => wm (zin_X6 w h)) tyX6 tyX6_ok nmX6 hown hK hP hD hS 0 rfl rfl 5 (by decide) (hts _ (wm zw_642)) (fun _ h9 => h9) rfl (by decide +kernel) rfl rfl (Nat.le_of_ble_eq_true rfl) dX6_element_74 (fun H locs hP hD hS => ?_)
      have hP : va_P D vwCl (mW c4 z (tI (tI v 0 y0) 5 (0 : Int32))) H := hP
      have hD : va_D A (mW c4 z (tI (tI v 0 y0) 5 (0 : Int32))) := hD
      refine lv_aload_n hx hb dX6_element_77 rfl (lv_at hl 0 rfl) ?_
      refine lv_aload_n hx hb dX6_element_78 rfl (lv_at hl 0 rfl) ?_
      refine va_get (D := D) (ci := 5) (v := .ref (z 15)) (C := RX6) (T := TX6) (N := 33) hx hb hts (fun w h => wm (zin_X6 w h)) hown hK hP 0 rfl rfl 15 (by decide) (hts _ (wm zw_652)) (fun _ h9 => h9) rfl dX6_element_79 ?_
      refine lv_iload_n hx hb dX6_element_82 rfl (lv_at hl 1 rfl) ?_
      obtain ⟨hi_2, h⟩ := zb_if h
      refine va_iald hx hb hK hP 4 3 rfl rfl (inb_in hi_2) dX6_element_83 ?_
      refine W.eq (g2 := F0 m 84 ls ([.int (Va v 15 x0.toNatClampNeg), .ref (z 0)])) rfl ?_
      obtain ⟨y_3, e_3, h⟩ := zb_bind h
      try dsimp only at h
      refine zt_i (Option.some.inj e_3) ?_
      refine va_put (D := D) (ci := 5) (v := .int y_3) (ty := .int) (C := RX6) (T := TX6) (N := 33) hx hb hts (fun w h => wm (zin_X6 w h)) tyX6 tyX6_ok nmX6 hown hK hP hD hS 0 rfl rfl 6 (by decide) (hts _ (wm zw_643)) (fun _ h9 => h9) rfl (by decide +kernel) rfl rfl (Nat.le_of_ble_eq_true rfl) dX6_element_84 (fun H locs hP hD hS => ?_)
      have hP : va_P D vwCl (mW c4 z (tI (tI (tI v 0 y0) 5 (0 : Int32)) 6 y_3)) H := hP
      have hD : va_D A (mW c4 z (tI (tI (tI v 0 y0) 5 (0 : Int32)) 6 y_3)) := hD
      refine lv_aload_n hx hb dX6_element_87 rfl (lv_at hl 0 rfl) ?_
      refine lv_aload_n hx hb dX6_element_88 rfl (lv_at hl 0 rfl) ?_
      refine va_get (D := D) (ci := 5) (v := .ref (z 16)) (C := RX6) (T := TX6) (N := 33) hx hb hts (fun w h => wm (zin_X6 w h)) hown hK hP 0 rfl rfl 16 (by decide) (hts _ (wm zw_653)) (fun _ h9 => h9) rfl dX6_element_89 ?_
      refine lv_iload_n hx hb dX6_element_92 rfl (lv_at hl 1 rfl) ?_
      obtain ⟨hi_4, h⟩ := zb_if h
      refine va_iald hx hb hK hP 5 3 rfl rfl (inb_in hi_4) dX6_element_93 ?_
      refine W.eq (g2 := F0 m 94 ls ([.int (Va v 16 x0.toNatClampNeg), .ref (z 0)])) rfl ?_
      refine lv_iload_n hx hb dX6_element_94 rfl (lv_at hl 2 rfl) ?_
      refine lv_aload_n hx hb dX6_element_95 rfl (lv_at hl 0 rfl) ?_
      refine va_get (D := D) (ci := 5) (v := .ref (z 18)) (C := RX6) (T := TX6) (N := 33) hx hb hts (fun w h => wm (zin_X6 w h)) hown hK hP 0 rfl rfl 18 (by decide) (hts _ (wm zw_655)) (fun _ h9 => h9) rfl dX6_element_96 ?_
      refine lv_iload_n hx hb dX6_element_99 rfl (lv_at hl 1 rfl) ?_
      obtain ⟨hi_5, h⟩ := zb_if h
      refine va_iald hx hb hK hP 7 3 rfl rfl (inb_in hi_5) dX6_element_100 ?_
      refine W.eq (g2 := F0 m 101 ls ([.int (Va v 18 x0.toNatClampNeg), .int x1, .int (Va v 16 x0.toNatClampNeg), .ref (z 0)])) rfl ?_
      refine lv_aload_n hx hb dX6_element_101 rfl (lv_at hl 0 rfl) ?_
      refine va_get (D := D) (ci := 5) (v := .ref (z 19)) (C := RX6) (T := TX6) (N := 33) hx hb hts (fun w h => wm (zin_X6 w h)) hown hK hP 0 rfl rfl 19 (by decide) (hts _ (wm zw_656)) (fun _ h9 => h9) rfl dX6_element_102 ?_
      refine lv_iload_n hx hb dX6_element_105 rfl (lv_at hl 1 rfl) ?_
      obtain ⟨hi_6, h⟩ := zb_if h
      refine va_iald hx hb hK hP 8 3 rfl rfl (inb_in hi_6) dX6_element_106 ?_
      refine W.eq (g2 := F0 m 107 ls ([.int (Va v 19 x0.toNatClampNeg), .int (Va v 18 x0.toNatClampNeg), .int x1, .int (Va v 16 x0.toNatClampNeg), .ref (z 0)])) rfl ?_
      refine lv_iadd hx hb dX6_element_107 ?_
      refine lv_imul hx hb dX6_element_108 ?_
      refine lv_iadd hx hb dX6_element_109 ?_
      obtain ⟨y_7, e_7, h⟩ := zb_bind h
      try dsimp only at h
      refine zt_i (Option.some.inj e_7) ?_
      refine va_put (D := D) (ci := 5) (v := .int y_7) (ty := .int) (C := RX6) (T := TX6) (N := 33) hx hb hts (fun w h => wm (zin_X6 w h)) tyX6 tyX6_ok nmX6 hown hK hP hD hS 0 rfl rfl 7 (by decide) (hts _ (wm zw_644)) (fun _ h9 => h9) rfl (by decide +kernel) rfl rfl (Nat.le_of_ble_eq_true rfl) dX6_element_110 (fun H locs hP hD hS => ?_)
      have hP : va_P D vwCl (mW c4 z (tI (tI (tI (tI v 0 y0) 5 (0 : Int32)) 6 y_3) 7 y_7)) H := hP
      have hD : va_D A (mW c4 z (tI (tI (tI (tI v 0 y0) 5 (0 : Int32)) 6 y_3) 7 y_7)) := hD
      refine lv_aload_n hx hb dX6_element_113 rfl (lv_at hl 0 rfl) ?_
      refine lv_aload_n hx hb dX6_element_114 rfl (lv_at hl 0 rfl) ?_
      refine va_get (D := D) (ci := 5) (v := .ref (z 18)) (C := RX6) (T := TX6) (N := 33) hx hb hts (fun w h => wm (zin_X6 w h)) hown hK hP 0 rfl rfl 18 (by decide) (hts _ (wm zw_655)) (fun _ h9 => h9) rfl dX6_element_115 ?_
      refine lv_iload_n hx hb dX6_element_118 rfl (lv_at hl 1 rfl) ?_
      obtain ⟨hi_8, h⟩ := zb_if h
      refine va_iald hx hb hK hP 7 3 rfl rfl (inb_in hi_8) dX6_element_119 ?_
      refine W.eq (g2 := F0 m 120 ls ([.int (Va v 18 x0.toNatClampNeg), .ref (z 0)])) rfl ?_
      refine lv_i2l hx hb dX6_element_120 rfl ?_
      obtain ⟨y_9, e_9, h⟩ := zb_bind h
      try dsimp only at h
      refine zt_l (Option.some.inj e_9) ?_
      refine va_put (D := D) (ci := 5) (v := .long y_9) (ty := .long) (C := RX6) (T := TX6) (N := 33) hx hb hts (fun w h => wm (zin_X6 w h)) tyX6 tyX6_ok nmX6 hown hK hP hD hS 0 rfl rfl 8 (by decide) (hts _ (wm zw_645)) (fun _ h9 => h9) rfl (by decide +kernel) rfl rfl (Nat.le_of_ble_eq_true rfl) dX6_element_121 (fun H locs hP hD hS => ?_)
      have hP : va_P D vwCl (mW c4 z (tL (tI (tI (tI (tI v 0 y0) 5 (0 : Int32)) 6 y_3) 7 y_7) 8 y_9)) H := hP
      have hD : va_D A (mW c4 z (tL (tI (tI (tI (tI v 0 y0) 5 (0 : Int32)) 6 y_3) 7 y_7) 8 y_9)) := hD
      refine lv_aload_n hx hb dX6_element_124 rfl (lv_at hl 0 rfl) ?_
      refine lv_iconst (v := (0 : Int32)) hx hb dX6_element_125 (by decide) ?_
      refine va_put (D := D) (ci := 5) (v := .int (0 : Int32)) (ty := .int) (C := RX6) (T := TX6) (N := 33) hx hb hts (fun w h => wm (zin_X6 w h)) tyX6 tyX6_ok nmX6 hown hK hP hD hS 0 rfl rfl 9 (by decide) (hts _ (wm zw_646)) (fun _ h9 => h9) rfl (by decide +kernel) rfl rfl (Nat.le_of_ble_eq_true rfl) dX6_element_126 (fun H locs hP hD hS => ?_)
      have hP : va_P D vwCl (mW c4 z (tI (tL (tI (tI (tI (tI v 0 y0) 5 (0 : Int32)) 6 y_3) 7 y_7) 8 y_9) 9 (0 : Int32))) H := hP
      have hD : va_D A (mW c4 z (tI (tL (tI (tI (tI (tI v 0 y0) 5 (0 : Int32)) 6 y_3) 7 y_7) 8 y_9) 9 (0 : Int32))) := hD
      refine lv_aload_n hx hb dX6_element_129 rfl (lv_at hl 0 rfl) ?_
      refine lv_aload_n hx hb dX6_element_130 rfl (lv_at hl 0 rfl) ?_
      refine va_get (D := D) (ci := 5) (v := .ref (z 19)) (C := RX6) (T := TX6) (N := 33) hx hb hts (fun w h => wm (zin_X6 w h)) hown hK hP 0 rfl rfl 19 (by decide) (hts _ (wm zw_656)) (fun _ h9 => h9) rfl dX6_element_131 ?_
      refine lv_iload_n hx hb dX6_element_134 rfl (lv_at hl 1 rfl) ?_
      obtain ⟨hi_10, h⟩ := zb_if h
      refine va_iald hx hb hK hP 8 3 rfl rfl (inb_in hi_10) dX6_element_135 ?_
      refine W.eq (g2 := F0 m 136 ls ([.int (Va v 19 x0.toNatClampNeg), .ref (z 0)])) rfl ?_
      obtain ⟨y_11, e_11, h⟩ := zb_bind h
      try dsimp only at h
      refine zt_i (Option.some.inj e_11) ?_
      refine va_put (D := D) (ci := 5) (v := .int y_11) (ty := .int) (C := RX6) (T := TX6) (N := 33) hx hb hts (fun w h => wm (zin_X6 w h)) tyX6 tyX6_ok nmX6 hown hK hP hD hS 0 rfl rfl 10 (by decide) (hts _ (wm zw_647)) (fun _ h9 => h9) rfl (by decide +kernel) rfl rfl (Nat.le_of_ble_eq_true rfl) dX6_element_136 (fun H locs hP hD hS => ?_)
      have hP : va_P D vwCl (mW c4 z (tI (tI (tL (tI (tI (tI (tI v 0 y0) 5 (0 : Int32)) 6 y_3) 7 y_7) 8 y_9) 9 (0 : Int32)) 10 y_11)) H := hP
      have hD : va_D A (mW c4 z (tI (tI (tL (tI (tI (tI (tI v 0 y0) 5 (0 : Int32)) 6 y_3) 7 y_7) 8 y_9) 9 (0 : Int32)) 10 y_11)) := hD
      refine lv_aload_n hx hb dX6_element_139 rfl (lv_at hl 0 rfl) ?_
      refine lv_aload_n hx hb dX6_element_140 rfl (lv_at hl 0 rfl) ?_
      refine va_get (D := D) (ci := 5) (v := .ref (z 20)) (C := RX6) (T := TX6) (N := 33) hx hb hts (fun w h => wm (zin_X6 w h)) hown hK hP 0 rfl rfl 20 (by decide) (hts _ (wm zw_657)) (fun _ h9 => h9) rfl dX6_element_141 ?_
      refine lv_iload_n hx hb dX6_element_144 rfl (lv_at hl 1 rfl) ?_
      obtain ⟨hi_12, h⟩ := zb_if h
      refine va_iald hx hb hK hP 9 3 rfl rfl (inb_in hi_12) dX6_element_145 ?_
      refine W.eq (g2 := F0 m 146 ls ([.int (Va v 20 x0.toNatClampNeg), .ref (z 0)])) rfl ?_
      obtain ⟨x_13, hc_13, h⟩ := zb_bind h
      try dsimp only at h
      refine va_calli (va_runV (As := [.int (Va v 20 x0.toNatClampNeg)]) (rest := []) ⟨hx, hb, hml, hown, hts⟩ (ct_X6_hold l D c4 A z (tI (tI (tL (tI (tI (tI (tI v 0 y0) 5 (0 : Int32)) 6 y_3) 7 y_7) 8 y_9) 9 (0 : Int32)) 10 y_11) (Va v 20 x0.toNatClampNeg) _ hc_13) (cwV 1 hts (wz_V zw_812 zw_814 zs_23 zw_6 zw_815) rfl rfl rfl (by decide +kernel) ⟨Nat.le_of_ble_eq_true rfl, Nat.le_of_ble_eq_true rfl⟩) ⟨fbM, va_recv hK hP (ci := 5) (q0 := 0) rfl rfl, fun U9 hU hW => ⟨rfl, wPre_go hP hD hK hA hS hU hW.alike⟩⟩ rfl rfl hl.1 rfl (lv_room (Nat.le_of_ble_eq_true rfl)) dX6_element_146 ⟨Nat.le_of_ble_eq_true rfl, Nat.le_of_ble_eq_true rfl⟩) hS (fun q _ h => h) (fun q h => h) (fun r_13 u_13 t H1 locs ht hvm e_13 hB hz1 hk1 hS => ?_)
      subst e_13
      try dsimp only at h
      obtain ⟨hP, hD, -, -⟩ := hB
      rw [ht] at hP
      generalize H1 = H at hP hS ⊢
      exact W.iret (v := r_13) hx hb hr (fun t ht hW => ⟨⟨r_13, u_13, rfl, (Option.some.inj h).symm, wPre_go hP hD hK hA hS ht hW.alike⟩, hS.F ht⟩) hS.2.2 dX6_element_149
    · skip
      rw [if_neg c_1] at h
      refine lv_iconst (v := (0 : Int32)) hx hb dX6_element_70 (by decide) ?_
      exact W.iret (v := (0 : Int32)) hx hb hr (fun t ht hW => ⟨⟨(0 : Int32), (tI v 0 y0), rfl, (Option.some.inj h).symm, wPre_go hP hD hK hA hS ht hW.alike⟩, hS.F ht⟩) hS.2.2 dX6_element_71
  have k_42 : ∀ (v : MS) (H : Heap) (locs : List Loc) (x0 : Int32) (x1 : Int32), va_P D vwCl (mW c4 z v) H → va_D A (mW c4 z v) → va_S A s.heap H locs → ∀ (ls : Array Slot), lv_has ls 3 [(0, .ref (z 0)), (1, .int x0), (2, .int x1)] → pX6_element_42 v x0 x1 = some res → W p l e ({ frames := 1, cells := 0, slots := 0, locals := 21 } : Room) s m ([.ref (z 0), .int a1, .int a2] : List Value).toArray below meth c H locs 0 0 (MQ below (va_Qi (fun q w => res = (w, q)) (fun w t => wPre D c4 A (mW c4 z w) t) A) ([.ref (z 0), .int a1, .int a2] : List Value).toArray s 0 0 A) (F0 m 42 ls [.ref (z 0)]) := by
    intro v H locs x0 x1 hP hD hS ls hl h
    unfold pX6_element_42 at h
    refine lv_iconst (v := (3 : Int32)) hx hb dX6_element_42 (by decide) ?_
    refine lv_goto (tgt := 60) hx hb dX6_element_43 (by decide) ?_
    exact k_60 v _ _ x0 x1 (3 : Int32) hP hD hS ls (lv_sub hl [0, 1, 2] rfl) h
  unfold pX6_element at h
  refine lv_aload_n hx hb dX6_element_0 rfl (lv_at hl 0 rfl) ?_
  refine lv_aload_n hx hb dX6_element_1 rfl (lv_at hl 0 rfl) ?_
  refine lv_iload_n hx hb dX6_element_2 rfl (lv_at hl 1 rfl) ?_
  refine vp_callSi (W.runV (As := [.int a1]) (rest := [.ref (z 0)]) ⟨hx, hb, hml, hown, hts⟩ (ct_X6_isHandle l D c4 A z v a1 _ rfl) (cwV 1 hts (wz_V zw_824 zw_826 zs_24 zw_6 zw_827) rfl rfl rfl (by decide +kernel) ⟨Nat.le_of_ble_eq_true rfl, Nat.le_of_ble_eq_true rfl⟩) ⟨fbM, va_recv hK hP (ci := 5) (q0 := 0) rfl rfl, fun U9 hU hW => ⟨rfl, wPre_go hP hD hK hA hS hU hW.alike⟩⟩ rfl rfl hl.1 rfl (lv_room (Nat.le_of_ble_eq_true rfl)) dX6_element_3 ⟨Nat.le_of_ble_eq_true rfl, Nat.le_of_ble_eq_true rfl⟩) (fun r_14 e_14 => ?_)
  subst e_14
  refine lv_if_ne (tgt := 13) hx hb dX6_element_6 (by decide) (fun c_15 => ?_) (fun c_15 => ?_)
  · skip
    rw [if_neg c_15] at h
    refine lv_aload_n hx hb dX6_element_13 rfl (lv_at hl 0 rfl) ?_
    refine va_get (D := D) (ci := 5) (v := .ref (z 14)) (C := RX6) (T := TX6) (N := 33) hx hb hts (fun w h => wm (zin_X6 w h)) hown hK hP 0 rfl rfl 14 (by decide) (hts _ (wm zw_651)) (fun _ h9 => h9) rfl dX6_element_14 ?_
    refine lv_iload_n hx hb dX6_element_17 rfl (lv_at hl 1 rfl) ?_
    obtain ⟨hi_16, h⟩ := zb_if h
    refine va_iald hx hb hK hP 3 3 rfl rfl (inb_in hi_16) dX6_element_18 ?_
    refine W.eq (g2 := F0 m 19 ls ([.int (Va v 14 a1.toNatClampNeg), .ref (z 0)])) rfl ?_
    refine lv_bipush (v := (8 : Int32)) hx hb dX6_element_19 (by decide) ?_
    refine lv_icmp_eq (tgt := 28) hx hb dX6_element_21 (by decide) (fun c_17 => ?_) (fun c_17 => ?_)
    · skip
      rw [if_pos c_17] at h
      refine lv_iload_n hx hb dX6_element_28 rfl (lv_at hl 2 rfl) ?_
      refine lv_if_lt (tgt := 42) hx hb dX6_element_29 (by decide) (fun c_18 => ?_) (fun c_18 => ?_)
      · skip
        rw [if_pos c_18] at h
        exact k_42 v _ _ a1 a2 hP hD hS ls (lv_sub hl [0, 1, 2] rfl) h
      · skip
        rw [if_neg c_18] at h
        refine lv_iload_n hx hb dX6_element_32 rfl (lv_at hl 2 rfl) ?_
        refine lv_aload_n hx hb dX6_element_33 rfl (lv_at hl 0 rfl) ?_
        refine va_get (D := D) (ci := 5) (v := .ref (z 17)) (C := RX6) (T := TX6) (N := 33) hx hb hts (fun w h => wm (zin_X6 w h)) hown hK hP 0 rfl rfl 17 (by decide) (hts _ (wm zw_654)) (fun _ h9 => h9) rfl dX6_element_34 ?_
        refine lv_iload_n hx hb dX6_element_37 rfl (lv_at hl 1 rfl) ?_
        obtain ⟨hi_19, h⟩ := zb_if h
        refine va_iald hx hb hK hP 6 3 rfl rfl (inb_in hi_19) dX6_element_38 ?_
        refine W.eq (g2 := F0 m 39 ls ([.int (Va v 17 a1.toNatClampNeg), .int a2, .ref (z 0)])) rfl ?_
        refine lv_icmp_lt (tgt := 46) hx hb dX6_element_39 (by decide) (fun c_20 => ?_) (fun c_20 => ?_)
        · skip
          rw [if_pos c_20] at h
          refine lv_aload_n hx hb dX6_element_46 rfl (lv_at hl 0 rfl) ?_
          refine va_get (D := D) (ci := 5) (v := .int (Vi v 13)) (C := RX6) (T := TX6) (N := 33) hx hb hts (fun w h => wm (zin_X6 w h)) hown hK hP 0 rfl rfl 13 (by decide) (hts _ (wm zw_650)) (fun _ h9 => h9) rfl dX6_element_47 ?_
          refine lv_bipush (v := (16 : Int32)) hx hb dX6_element_50 (by decide) ?_
          refine lv_icmp_ne (tgt := 59) hx hb dX6_element_52 (by decide) (fun c_21 => ?_) (fun c_21 => ?_)
          · skip
            rw [if_neg c_21] at h
            refine lv_iconst (v := (0 : Int32)) hx hb dX6_element_59 (by decide) ?_
            exact k_60 v _ _ a1 a2 (0 : Int32) hP hD hS ls (lv_sub hl [0, 1, 2] rfl) h
          · skip
            rw [if_pos c_21] at h
            refine lv_iconst (v := (4 : Int32)) hx hb dX6_element_55 (by decide) ?_
            refine lv_goto (tgt := 60) hx hb dX6_element_56 (by decide) ?_
            exact k_60 v _ _ a1 a2 (4 : Int32) hP hD hS ls (lv_sub hl [0, 1, 2] rfl) h
        · skip
          rw [if_neg c_20] at h
          exact k_42 v _ _ a1 a2 hP hD hS ls (lv_sub hl [0, 1, 2] rfl) h
    · skip
      rw [if_neg c_17] at h
      refine lv_iconst (v := (2 : Int32)) hx hb dX6_element_24 (by decide) ?_
      refine lv_goto (tgt := 60) hx hb dX6_element_25 (by decide) ?_
      exact k_60 v _ _ a1 a2 (2 : Int32) hP hD hS ls (lv_sub hl [0, 1, 2] rfl) h
  · skip
    rw [if_pos c_15] at h
    refine lv_iconst (v := (1 : Int32)) hx hb dX6_element_9 (by decide) ?_
    refine lv_goto (tgt := 60) hx hb dX6_element_10 (by decide) ?_
    exact k_60 v _ _ a1 a2 (1 : Int32) hP hD hS ls (lv_sub hl [0, 1, 2] rfl) h
def pX6_about_28 (v : MS) (x0 : Int32) (x1 : Int32) (y0 : Int32) : Option (MS × Int32) := (if y0 = 0 then (if x1 = 0 then (if inb x0 16 = true then some ((tI v 0 y0), (Va v 14 x0.toNatClampNeg)) else none) else (if x1 = (1 : Int32) then (if inb x0 16 = true then some ((tI v 0 y0), (Va v 17 x0.toNatClampNeg)) else none) else (if x1 = (2 : Int32) then (if inb x0 16 = true then some ((tI v 0 y0), (Va v 19 x0.toNatClampNeg)) else none) else (if x1 = (3 : Int32) then (if inb x0 16 = true then some ((tI v 0 y0), (Va v 18 x0.toNatClampNeg)) else none) else (if x1 = (4 : Int32) then (if inb x0 16 = true then some ((tI v 0 y0), (Va v 15 x0.toNatClampNeg)) else none) else (if x1 = (5 : Int32) then (if inb x0 16 = true then some ((tI v 0 y0), (Va v 16 x0.toNatClampNeg)) else none) else (if inb x0 16 = true then some ((tI v 0 y0), (Va v 20 x0.toNatClampNeg)) else none))))))) else some ((tI v 0 y0), (0 : Int32)))
def pX6_about_23 (v : MS) (x0 : Int32) (x1 : Int32) : Option (MS × Int32) := pX6_about_28 v x0 x1 (2 : Int32)
def pX6_about (v : MS) (a1 : Int32) (a2 : Int32) : Option (MS × Int32) := (if (pX6_isHandle v a1) = 0 then pX6_about_28 v a1 a2 (1 : Int32) else (if a2 < 0 then pX6_about_23 v a1 a2 else (if a2 ≤ (6 : Int32) then pX6_about_28 v a1 a2 (0 : Int32) else pX6_about_23 v a1 a2)))
set_option maxHeartbeats 4000000 in
set_option maxRecDepth 100000 in
theorem ct_X6_about (l : Launch) (D : va_G) (c4 : Nat → ClassId) (A : Nat → Prop) (z : Nat → Nat) (v : MS) (a1 : Int32) (a2 : Int32) (res : MS × Int32) (h : pX6_about v a1 a2 = some res) : Met l yX6_about (wz yX6_about cX6_about 3 (some .int)) ({ frames := 1, cells := 0, slots := 0, locals := 21 } : Room) (va_Pc [.ref (z 0), .int a1, .int a2] (fun U => mPre D c4 A z v U)) (va_Qi (fun q w => res = (w, q)) (fun w t => wPre D c4 A (mW c4 z w) t) A) 0 0 A := by
  refine Met.ofW (cc := cX6_about) (maxL := 3) (ret := (some .int)) (by decide) rfl ?_
  intro p e s m args below meth c s₁ B hml hv
  obtain ⟨rfl, hP, hD, hK, hA⟩ := hv
  have hx := B.exec
  have hb := B.bytes
  have hr := B.returns
  have hts := atoms_spec (ws := (wz yX6_about cX6_about 3 (some .int))) B.pre
  have hown : s.vm.findClass RX6 = some m.cls := findClass_of_methodNamed B.named
  have hlocks := B.notSynchronized
  have hS : va_S A s.heap s.heap [] := va_S.rf
  have hl := lv_entry ([.ref (z 0), .int a1, .int a2]) (n := 3) (Nat.le_of_ble_eq_true rfl)
  rw [lg_entry_eq]
  generalize (lg_sl ([.ref (z 0), .int a1, .int a2]) ++ List.replicate (3 - (lg_sl ([.ref (z 0), .int a1, .int a2])).length) Slot.unset).toArray = ls at hl ⊢
  have hl : lv_has ls 3 [(0, .ref (z 0)), (1, .int a1), (2, .int a2)] := hl
  have k_28 : ∀ (v : MS) (H : Heap) (locs : List Loc) (x0 : Int32) (x1 : Int32) (y0 : Int32), va_P D vwCl (mW c4 z v) H → va_D A (mW c4 z v) → va_S A s.heap H locs → ∀ (ls : Array Slot), lv_has ls 3 [(0, .ref (z 0)), (1, .int x0), (2, .int x1)] → pX6_about_28 v x0 x1 y0 = some res → W p l e ({ frames := 1, cells := 0, slots := 0, locals := 21 } : Room) s m ([.ref (z 0), .int a1, .int a2] : List Value).toArray below meth c H locs 0 0 (MQ below (va_Qi (fun q w => res = (w, q)) (fun w t => wPre D c4 A (mW c4 z w) t) A) ([.ref (z 0), .int a1, .int a2] : List Value).toArray s 0 0 A) (F0 m 28 ls [.int y0, .ref (z 0)]) := by
    intro v H locs x0 x1 y0 hP hD hS ls hl h
    unfold pX6_about_28 at h
    refine va_put (D := D) (ci := 5) (v := .int y0) (ty := .int) (C := RX6) (T := TX6) (N := 33) hx hb hts (fun w h => wm (zin_X6 w h)) tyX6 tyX6_ok nmX6 hown hK hP hD hS 0 rfl rfl 0 (by decide) (hts _ (wm zw_637)) (fun _ h9 => h9) rfl (by decide +kernel) rfl rfl (Nat.le_of_ble_eq_true rfl) dX6_about_28 (fun H locs hP hD hS => ?_)
    have hP : va_P D vwCl (mW c4 z (tI v 0 y0)) H := hP
    have hD : va_D A (mW c4 z (tI v 0 y0)) := hD
    refine lv_aload_n hx hb dX6_about_31 rfl (lv_at hl 0 rfl) ?_
    refine va_get (D := D) (ci := 5) (v := .int y0) (C := RX6) (T := TX6) (N := 33) hx hb hts (fun w h => wm (zin_X6 w h)) hown hK hP 0 rfl rfl 0 (by decide) (hts _ (wm zw_637)) (fun _ h9 => h9) rfl dX6_about_32 ?_
    refine lv_if_eq (tgt := 40) hx hb dX6_about_35 (by decide) (fun c_1 => ?_) (fun c_1 => ?_)
    · skip
      rw [if_pos c_1] at h
      refine lv_iload_n hx hb dX6_about_40 rfl (lv_at hl 2 rfl) ?_
      refine lv_if_ne (tgt := 53) hx hb dX6_about_41 (by decide) (fun c_2 => ?_) (fun c_2 => ?_)
      · skip
        rw [if_neg c_2] at h
        refine lv_iload_n hx hb dX6_about_53 rfl (lv_at hl 2 rfl) ?_
        refine lv_iconst (v := (1 : Int32)) hx hb dX6_about_54 (by decide) ?_
        refine lv_icmp_ne (tgt := 67) hx hb dX6_about_55 (by decide) (fun c_3 => ?_) (fun c_3 => ?_)
        · skip
          rw [if_neg c_3] at h
          refine lv_iload_n hx hb dX6_about_67 rfl (lv_at hl 2 rfl) ?_
          refine lv_iconst (v := (2 : Int32)) hx hb dX6_about_68 (by decide) ?_
          refine lv_icmp_ne (tgt := 81) hx hb dX6_about_69 (by decide) (fun c_4 => ?_) (fun c_4 => ?_)
          · skip
            rw [if_neg c_4] at h
            refine lv_iload_n hx hb dX6_about_81 rfl (lv_at hl 2 rfl) ?_
            refine lv_iconst (v := (3 : Int32)) hx hb dX6_about_82 (by decide) ?_
            refine lv_icmp_ne (tgt := 95) hx hb dX6_about_83 (by decide) (fun c_5 => ?_) (fun c_5 => ?_)
            · skip
              rw [if_neg c_5] at h
              refine lv_iload_n hx hb dX6_about_95 rfl (lv_at hl 2 rfl) ?_
              refine lv_iconst (v := (4 : Int32)) hx hb dX6_about_96 (by decide) ?_
              refine lv_icmp_ne (tgt := 109) hx hb dX6_about_97 (by decide) (fun c_6 => ?_) (fun c_6 => ?_)
              · skip
                rw [if_neg c_6] at h
                refine lv_iload_n hx hb dX6_about_109 rfl (lv_at hl 2 rfl) ?_
                refine lv_iconst (v := (5 : Int32)) hx hb dX6_about_110 (by decide) ?_
                refine lv_icmp_ne (tgt := 123) hx hb dX6_about_111 (by decide) (fun c_7 => ?_) (fun c_7 => ?_)
                · skip
                  rw [if_neg c_7] at h
                  refine lv_aload_n hx hb dX6_about_123 rfl (lv_at hl 0 rfl) ?_
                  refine va_get (D := D) (ci := 5) (v := .ref (z 20)) (C := RX6) (T := TX6) (N := 33) hx hb hts (fun w h => wm (zin_X6 w h)) hown hK hP 0 rfl rfl 20 (by decide) (hts _ (wm zw_657)) (fun _ h9 => h9) rfl dX6_about_124 ?_
                  refine lv_iload_n hx hb dX6_about_127 rfl (lv_at hl 1 rfl) ?_
                  obtain ⟨hi_8, h⟩ := zb_if h
                  refine va_iald hx hb hK hP 9 3 rfl rfl (inb_in hi_8) dX6_about_128 ?_
                  refine W.eq (g2 := F0 m 129 ls ([.int (Va v 20 x0.toNatClampNeg)])) rfl ?_
                  exact W.iret (v := (Va v 20 x0.toNatClampNeg)) hx hb hr (fun t ht hW => ⟨⟨(Va v 20 x0.toNatClampNeg), (tI v 0 y0), rfl, (Option.some.inj h).symm, wPre_go hP hD hK hA hS ht hW.alike⟩, hS.F ht⟩) hS.2.2 dX6_about_129
                · skip
                  rw [if_pos c_7] at h
                  refine lv_aload_n hx hb dX6_about_114 rfl (lv_at hl 0 rfl) ?_
                  refine va_get (D := D) (ci := 5) (v := .ref (z 16)) (C := RX6) (T := TX6) (N := 33) hx hb hts (fun w h => wm (zin_X6 w h)) hown hK hP 0 rfl rfl 16 (by decide) (hts _ (wm zw_653)) (fun _ h9 => h9) rfl dX6_about_115 ?_
                  refine lv_iload_n hx hb dX6_about_118 rfl (lv_at hl 1 rfl) ?_
                  obtain ⟨hi_9, h⟩ := zb_if h
                  refine va_iald hx hb hK hP 5 3 rfl rfl (inb_in hi_9) dX6_about_119 ?_
                  refine W.eq (g2 := F0 m 120 ls ([.int (Va v 16 x0.toNatClampNeg)])) rfl ?_
                  refine lv_goto (tgt := 129) hx hb dX6_about_120 (by decide) ?_
                  exact W.iret (v := (Va v 16 x0.toNatClampNeg)) hx hb hr (fun t ht hW => ⟨⟨(Va v 16 x0.toNatClampNeg), (tI v 0 y0), rfl, (Option.some.inj h).symm, wPre_go hP hD hK hA hS ht hW.alike⟩, hS.F ht⟩) hS.2.2 dX6_about_129
              · skip
                rw [if_pos c_6] at h
                refine lv_aload_n hx hb dX6_about_100 rfl (lv_at hl 0 rfl) ?_
                refine va_get (D := D) (ci := 5) (v := .ref (z 15)) (C := RX6) (T := TX6) (N := 33) hx hb hts (fun w h => wm (zin_X6 w h)) hown hK hP 0 rfl rfl 15 (by decide) (hts _ (wm zw_652)) (fun _ h9 => h9) rfl dX6_about_101 ?_
                refine lv_iload_n hx hb dX6_about_104 rfl (lv_at hl 1 rfl) ?_
                obtain ⟨hi_10, h⟩ := zb_if h
                refine va_iald hx hb hK hP 4 3 rfl rfl (inb_in hi_10) dX6_about_105 ?_
                refine W.eq (g2 := F0 m 106 ls ([.int (Va v 15 x0.toNatClampNeg)])) rfl ?_
                refine lv_goto (tgt := 129) hx hb dX6_about_106 (by decide) ?_
                exact W.iret (v := (Va v 15 x0.toNatClampNeg)) hx hb hr (fun t ht hW => ⟨⟨(Va v 15 x0.toNatClampNeg), (tI v 0 y0), rfl, (Option.some.inj h).symm, wPre_go hP hD hK hA hS ht hW.alike⟩, hS.F ht⟩) hS.2.2 dX6_about_129
            · skip
              rw [if_pos c_5] at h
              refine lv_aload_n hx hb dX6_about_86 rfl (lv_at hl 0 rfl) ?_
              refine va_get (D := D) (ci := 5) (v := .ref (z 18)) (C := RX6) (T := TX6) (N := 33) hx hb hts (fun w h => wm (zin_X6 w h)) hown hK hP 0 rfl rfl 18 (by decide) (hts _ (wm zw_655)) (fun _ h9 => h9) rfl dX6_about_87 ?_
              refine lv_iload_n hx hb dX6_about_90 rfl (lv_at hl 1 rfl) ?_
              obtain ⟨hi_11, h⟩ := zb_if h
              refine va_iald hx hb hK hP 7 3 rfl rfl (inb_in hi_11) dX6_about_91 ?_
              refine W.eq (g2 := F0 m 92 ls ([.int (Va v 18 x0.toNatClampNeg)])) rfl ?_
              refine lv_goto (tgt := 129) hx hb dX6_about_92 (by decide) ?_
              exact W.iret (v := (Va v 18 x0.toNatClampNeg)) hx hb hr (fun t ht hW => ⟨⟨(Va v 18 x0.toNatClampNeg), (tI v 0 y0), rfl, (Option.some.inj h).symm, wPre_go hP hD hK hA hS ht hW.alike⟩, hS.F ht⟩) hS.2.2 dX6_about_129
          · skip
            rw [if_pos c_4] at h
            refine lv_aload_n hx hb dX6_about_72 rfl (lv_at hl 0 rfl) ?_
            refine va_get (D := D) (ci := 5) (v := .ref (z 19)) (C := RX6) (T := TX6) (N := 33) hx hb hts (fun w h => wm (zin_X6 w h)) hown hK hP 0 rfl rfl 19 (by decide) (hts _ (wm zw_656)) (fun _ h9 => h9) rfl dX6_about_73 ?_
            refine lv_iload_n hx hb dX6_about_76 rfl (lv_at hl 1 rfl) ?_
            obtain ⟨hi_12, h⟩ := zb_if h
            refine va_iald hx hb hK hP 8 3 rfl rfl (inb_in hi_12) dX6_about_77 ?_
            refine W.eq (g2 := F0 m 78 ls ([.int (Va v 19 x0.toNatClampNeg)])) rfl ?_
            refine lv_goto (tgt := 129) hx hb dX6_about_78 (by decide) ?_
            exact W.iret (v := (Va v 19 x0.toNatClampNeg)) hx hb hr (fun t ht hW => ⟨⟨(Va v 19 x0.toNatClampNeg), (tI v 0 y0), rfl, (Option.some.inj h).symm, wPre_go hP hD hK hA hS ht hW.alike⟩, hS.F ht⟩) hS.2.2 dX6_about_129
        · skip
          rw [if_pos c_3] at h
          refine lv_aload_n hx hb dX6_about_58 rfl (lv_at hl 0 rfl) ?_
          refine va_get (D := D) (ci := 5) (v := .ref (z 17)) (C := RX6) (T := TX6) (N := 33) hx hb hts (fun w h => wm (zin_X6 w h)) hown hK hP 0 rfl rfl 17 (by decide) (hts _ (wm zw_654)) (fun _ h9 => h9) rfl dX6_about_59 ?_
          refine lv_iload_n hx hb dX6_about_62 rfl (lv_at hl 1 rfl) ?_
          obtain ⟨hi_13, h⟩ := zb_if h
          refine va_iald hx hb hK hP 6 3 rfl rfl (inb_in hi_13) dX6_about_63 ?_
          refine W.eq (g2 := F0 m 64 ls ([.int (Va v 17 x0.toNatClampNeg)])) rfl ?_
          refine lv_goto (tgt := 129) hx hb dX6_about_64 (by decide) ?_
          exact W.iret (v := (Va v 17 x0.toNatClampNeg)) hx hb hr (fun t ht hW => ⟨⟨(Va v 17 x0.toNatClampNeg), (tI v 0 y0), rfl, (Option.some.inj h).symm, wPre_go hP hD hK hA hS ht hW.alike⟩, hS.F ht⟩) hS.2.2 dX6_about_129
      · skip
        rw [if_pos c_2] at h
        refine lv_aload_n hx hb dX6_about_44 rfl (lv_at hl 0 rfl) ?_
        refine va_get (D := D) (ci := 5) (v := .ref (z 14)) (C := RX6) (T := TX6) (N := 33) hx hb hts (fun w h => wm (zin_X6 w h)) hown hK hP 0 rfl rfl 14 (by decide) (hts _ (wm zw_651)) (fun _ h9 => h9) rfl dX6_about_45 ?_
        refine lv_iload_n hx hb dX6_about_48 rfl (lv_at hl 1 rfl) ?_
        obtain ⟨hi_14, h⟩ := zb_if h
        refine va_iald hx hb hK hP 3 3 rfl rfl (inb_in hi_14) dX6_about_49 ?_
        refine W.eq (g2 := F0 m 50 ls ([.int (Va v 14 x0.toNatClampNeg)])) rfl ?_
        refine lv_goto (tgt := 129) hx hb dX6_about_50 (by decide) ?_
        exact W.iret (v := (Va v 14 x0.toNatClampNeg)) hx hb hr (fun t ht hW => ⟨⟨(Va v 14 x0.toNatClampNeg), (tI v 0 y0), rfl, (Option.some.inj h).symm, wPre_go hP hD hK hA hS ht hW.alike⟩, hS.F ht⟩) hS.2.2 dX6_about_129
    · skip
      rw [if_neg c_1] at h
      refine lv_iconst (v := (0 : Int32)) hx hb dX6_about_38 (by decide) ?_
      exact W.iret (v := (0 : Int32)) hx hb hr (fun t ht hW => ⟨⟨(0 : Int32), (tI v 0 y0), rfl, (Option.some.inj h).symm, wPre_go hP hD hK hA hS ht hW.alike⟩, hS.F ht⟩) hS.2.2 dX6_about_39
  have k_23 : ∀ (v : MS) (H : Heap) (locs : List Loc) (x0 : Int32) (x1 : Int32), va_P D vwCl (mW c4 z v) H → va_D A (mW c4 z v) → va_S A s.heap H locs → ∀ (ls : Array Slot), lv_has ls 3 [(0, .ref (z 0)), (1, .int x0), (2, .int x1)] → pX6_about_23 v x0 x1 = some res → W p l e ({ frames := 1, cells := 0, slots := 0, locals := 21 } : Room) s m ([.ref (z 0), .int a1, .int a2] : List Value).toArray below meth c H locs 0 0 (MQ below (va_Qi (fun q w => res = (w, q)) (fun w t => wPre D c4 A (mW c4 z w) t) A) ([.ref (z 0), .int a1, .int a2] : List Value).toArray s 0 0 A) (F0 m 23 ls [.ref (z 0)]) := by
    intro v H locs x0 x1 hP hD hS ls hl h
    unfold pX6_about_23 at h
    refine lv_iconst (v := (2 : Int32)) hx hb dX6_about_23 (by decide) ?_
    refine lv_goto (tgt := 28) hx hb dX6_about_24 (by decide) ?_
    exact k_28 v _ _ x0 x1 (2 : Int32) hP hD hS ls (lv_sub hl [0, 1, 2] rfl) h
  unfold pX6_about at h
  refine lv_aload_n hx hb dX6_about_0 rfl (lv_at hl 0 rfl) ?_
  refine lv_aload_n hx hb dX6_about_1 rfl (lv_at hl 0 rfl) ?_
  refine lv_iload_n hx hb dX6_about_2 rfl (lv_at hl 1 rfl) ?_
  refine vp_callSi (W.runV (As := [.int a1]) (rest := [.ref (z 0)]) ⟨hx, hb, hml, hown, hts⟩ (ct_X6_isHandle l D c4 A z v a1 _ rfl) (cwV 1 hts (wz_V zw_824 zw_826 zs_24 zw_6 zw_827) rfl rfl rfl (by decide +kernel) ⟨Nat.le_of_ble_eq_true rfl, Nat.le_of_ble_eq_true rfl⟩) ⟨fbM, va_recv hK hP (ci := 5) (q0 := 0) rfl rfl, fun U9 hU hW => ⟨rfl, wPre_go hP hD hK hA hS hU hW.alike⟩⟩ rfl rfl hl.1 rfl (lv_room (Nat.le_of_ble_eq_true rfl)) dX6_about_3 ⟨Nat.le_of_ble_eq_true rfl, Nat.le_of_ble_eq_true rfl⟩) (fun r_15 e_15 => ?_)
  subst e_15
  refine lv_if_ne (tgt := 13) hx hb dX6_about_6 (by decide) (fun c_16 => ?_) (fun c_16 => ?_)
  · skip
    rw [if_neg c_16] at h
    refine lv_iload_n hx hb dX6_about_13 rfl (lv_at hl 2 rfl) ?_
    refine lv_if_lt (tgt := 23) hx hb dX6_about_14 (by decide) (fun c_17 => ?_) (fun c_17 => ?_)
    · skip
      rw [if_pos c_17] at h
      exact k_23 v _ _ a1 a2 hP hD hS ls (lv_sub hl [0, 1, 2] rfl) h
    · skip
      rw [if_neg c_17] at h
      refine lv_iload_n hx hb dX6_about_17 rfl (lv_at hl 2 rfl) ?_
      refine lv_bipush (v := (6 : Int32)) hx hb dX6_about_18 (by decide) ?_
      refine lv_icmp_le (tgt := 27) hx hb dX6_about_20 (by decide) (fun c_18 => ?_) (fun c_18 => ?_)
      · skip
        rw [if_pos c_18] at h
        refine lv_iconst (v := (0 : Int32)) hx hb dX6_about_27 (by decide) ?_
        exact k_28 v _ _ a1 a2 (0 : Int32) hP hD hS ls (lv_sub hl [0, 1, 2] rfl) h
      · skip
        rw [if_neg c_18] at h
        exact k_23 v _ _ a1 a2 hP hD hS ls (lv_sub hl [0, 1, 2] rfl) h
  · skip
    rw [if_pos c_16] at h
    refine lv_iconst (v := (1 : Int32)) hx hb dX6_about_9 (by decide) ?_
    refine lv_goto (tgt := 28) hx hb dX6_about_10 (by decide) ?_
    exact k_28 v _ _ a1 a2 (1 : Int32) hP hD hS ls (lv_sub hl [0, 1, 2] rfl) h
def pX6_data_56 (v : MS) (x0 : Int32) (x1 : Int32) (y0 : Int32) : Option (MS × Int64) := (if y0 = 0 then (if inb x0 16 = true then (if (Va v 14 x0.toNatClampNeg) = (1 : Int32) then some ((tI v 0 y0), (0 : Int64)) else (if inb x0 16 = true then (if x1 < (Va v 17 x0.toNatClampNeg) then (if inb x0 16 = true then (if inb x0 16 = true then ((some (((64 : Int32) * (Va v 15 x0.toNatClampNeg)) + (Va v 16 x0.toNatClampNeg))).bind fun y_8 => (if inb x0 16 = true then (if (Va v 14 x0.toNatClampNeg) = 0 then (if inb (y_8 + x1) 256 = true then some ((tI v 0 y0), (Vr v 1 (y_8 + x1).toNatClampNeg)) else none) else (if inb x0 16 = true then ((some (pX6_bits ((Va v 14 x0.toNatClampNeg) - (1 : Int32)))).bind fun y_13 => ((some ((x1.toInt64) * (y_13.toInt64))).bind fun y_14 => (if inb (y_8 + ((y_14 / (64 : Int64)).toInt32)) 256 = true then ((some (((Vr v 1 (y_8 + ((y_14 / (64 : Int64)).toInt32)).toNatClampNeg).toUInt64 >>> (((y_14 - y_14 / (64 : Int64) * (64 : Int64)).toInt32).toInt64.toUInt64 &&& Int64.toUInt64 63)).toInt64)).bind fun y_16 => (if y_13 = (64 : Int32) then some ((tI v 0 y0), y_16) else some ((tI v 0 y0), (y_16 &&& (((1 : Int64) <<< (y_13.toInt64 &&& 63)) - (1 : Int64)))))) else none))) else none)) else none)) else none) else none) else some ((tI v 0 y0), (0 : Int64))) else none)) else none) else some ((tI v 0 y0), (0 : Int64)))
def pX6_data_55 (v : MS) (x0 : Int32) (x1 : Int32) : Option (MS × Int64) := pX6_data_56 v x0 x1 (0 : Int32)
def pX6_data_51 (v : MS) (x0 : Int32) (x1 : Int32) : Option (MS × Int64) := pX6_data_56 v x0 x1 (3 : Int32)
def pX6_data (v : MS) (a1 : Int32) (a2 : Int32) : Option (MS × Int64) := (if (pX6_isHandle v a1) = 0 then pX6_data_56 v a1 a2 (1 : Int32) else (if inb a1 16 = true then (if (Va v 14 a1.toNatClampNeg) ≤ (6 : Int32) then (if a2 < 0 then pX6_data_51 v a1 a2 else (if inb a1 16 = true then (if (Va v 14 a1.toNatClampNeg) ≤ 0 then pX6_data_55 v a1 a2 else (if inb a1 16 = true then (if a2 < (Va v 17 a1.toNatClampNeg) then pX6_data_55 v a1 a2 else pX6_data_51 v a1 a2) else none)) else none)) else pX6_data_56 v a1 a2 (2 : Int32)) else none))
set_option maxHeartbeats 4000000 in
set_option maxRecDepth 100000 in
theorem ct_X6_data (l : Launch) (D : va_G) (c4 : Nat → ClassId) (A : Nat → Prop) (z : Nat → Nat) (v : MS) (a1 : Int32) (a2 : Int32) (res : MS × Int64) (h : pX6_data v a1 a2 = some res) : Met l yX6_data (wz yX6_data cX6_data 9 (some .long)) ({ frames := 1, cells := 0, slots := 0, locals := 21 } : Room) (va_Pc [.ref (z 0), .int a1, .int a2] (fun U => mPre D c4 A z v U)) (va_Ql (fun q w => res = (w, q)) (fun w t => wPre D c4 A (mW c4 z w) t) A) 0 0 A := by
  refine Met.ofW (cc := cX6_data) (maxL := 9) (ret := (some .long)) (by decide) rfl ?_
  intro p e s m args below meth c s₁ B hml hv
  obtain ⟨rfl, hP, hD, hK, hA⟩ := hv
  have hx := B.exec
  have hb := B.bytes
  have hr := B.returns
  have hts := atoms_spec (ws := (wz yX6_data cX6_data 9 (some .long))) B.pre
  have hown : s.vm.findClass RX6 = some m.cls := findClass_of_methodNamed B.named
  have hlocks := B.notSynchronized
  have hS : va_S A s.heap s.heap [] := va_S.rf
  have hl := lv_entry ([.ref (z 0), .int a1, .int a2]) (n := 9) (Nat.le_of_ble_eq_true rfl)
  rw [lg_entry_eq]
  generalize (lg_sl ([.ref (z 0), .int a1, .int a2]) ++ List.replicate (9 - (lg_sl ([.ref (z 0), .int a1, .int a2])).length) Slot.unset).toArray = ls at hl ⊢
  have hl : lv_has ls 9 [(0, .ref (z 0)), (1, .int a1), (2, .int a2)] := hl
  have k_56 : ∀ (v : MS) (H : Heap) (locs : List Loc) (x0 : Int32) (x1 : Int32) (y0 : Int32), va_P D vwCl (mW c4 z v) H → va_D A (mW c4 z v) → va_S A s.heap H locs → ∀ (ls : Array Slot), lv_has ls 9 [(0, .ref (z 0)), (1, .int x0), (2, .int x1)] → pX6_data_56 v x0 x1 y0 = some res → W p l e ({ frames := 1, cells := 0, slots := 0, locals := 21 } : Room) s m ([.ref (z 0), .int a1, .int a2] : List Value).toArray below meth c H locs 0 0 (MQ below (va_Ql (fun q w => res = (w, q)) (fun w t => wPre D c4 A (mW c4 z w) t) A) ([.ref (z 0), .int a1, .int a2] : List Value).toArray s 0 0 A) (F0 m 56 ls [.int y0, .ref (z 0)]) := by
    intro v H locs x0 x1 y0 hP hD hS ls hl h
    unfold pX6_data_56 at h
    refine va_put (D := D) (ci := 5) (v := .int y0) (ty := .int) (C := RX6) (T := TX6) (N := 33) hx hb hts (fun w h => wm (zin_X6 w h)) tyX6 tyX6_ok nmX6 hown hK hP hD hS 0 rfl rfl 0 (by decide) (hts _ (wm zw_637)) (fun _ h9 => h9) rfl (by decide +kernel) rfl rfl (Nat.le_of_ble_eq_true rfl) dX6_data_56 (fun H locs hP hD hS => ?_)
    have hP : va_P D vwCl (mW c4 z (tI v 0 y0)) H := hP
    have hD : va_D A (mW c4 z (tI v 0 y0)) := hD
    refine lv_aload_n hx hb dX6_data_59 rfl (lv_at hl 0 rfl) ?_
    refine va_get (D := D) (ci := 5) (v := .int y0) (C := RX6) (T := TX6) (N := 33) hx hb hts (fun w h => wm (zin_X6 w h)) hown hK hP 0 rfl rfl 0 (by decide) (hts _ (wm zw_637)) (fun _ h9 => h9) rfl dX6_data_60 ?_
    refine lv_if_ne (tgt := 86) hx hb dX6_data_63 (by decide) (fun c_1 => ?_) (fun c_1 => ?_)
    · skip
      rw [if_neg c_1] at h
      refine lv_lconst (v := (0 : Int64)) hx hb dX6_data_86 (by decide) ?_
      exact W.lret (v := (0 : Int64)) hx hb hr (fun t ht hW => ⟨⟨(0 : Int64), (tI v 0 y0), rfl, (Option.some.inj h).symm, wPre_go hP hD hK hA hS ht hW.alike⟩, hS.F ht⟩) hS.2.2 dX6_data_87
    · skip
      rw [if_pos c_1] at h
      refine lv_aload_n hx hb dX6_data_66 rfl (lv_at hl 0 rfl) ?_
      refine va_get (D := D) (ci := 5) (v := .ref (z 14)) (C := RX6) (T := TX6) (N := 33) hx hb hts (fun w h => wm (zin_X6 w h)) hown hK hP 0 rfl rfl 14 (by decide) (hts _ (wm zw_651)) (fun _ h9 => h9) rfl dX6_data_67 ?_
      refine lv_iload_n hx hb dX6_data_70 rfl (lv_at hl 1 rfl) ?_
      obtain ⟨hi_2, h⟩ := zb_if h
      refine va_iald hx hb hK hP 3 3 rfl rfl (inb_in hi_2) dX6_data_71 ?_
      refine W.eq (g2 := F0 m 72 ls ([.int (Va v 14 x0.toNatClampNeg)])) rfl ?_
      refine lv_iconst (v := (1 : Int32)) hx hb dX6_data_72 (by decide) ?_
      refine lv_icmp_eq (tgt := 86) hx hb dX6_data_73 (by decide) (fun c_3 => ?_) (fun c_3 => ?_)
      · skip
        rw [if_pos c_3] at h
        refine lv_lconst (v := (0 : Int64)) hx hb dX6_data_86 (by decide) ?_
        exact W.lret (v := (0 : Int64)) hx hb hr (fun t ht hW => ⟨⟨(0 : Int64), (tI v 0 y0), rfl, (Option.some.inj h).symm, wPre_go hP hD hK hA hS ht hW.alike⟩, hS.F ht⟩) hS.2.2 dX6_data_87
      · skip
        rw [if_neg c_3] at h
        refine lv_iload_n hx hb dX6_data_76 rfl (lv_at hl 2 rfl) ?_
        refine lv_aload_n hx hb dX6_data_77 rfl (lv_at hl 0 rfl) ?_
        refine va_get (D := D) (ci := 5) (v := .ref (z 17)) (C := RX6) (T := TX6) (N := 33) hx hb hts (fun w h => wm (zin_X6 w h)) hown hK hP 0 rfl rfl 17 (by decide) (hts _ (wm zw_654)) (fun _ h9 => h9) rfl dX6_data_78 ?_
        refine lv_iload_n hx hb dX6_data_81 rfl (lv_at hl 1 rfl) ?_
        obtain ⟨hi_4, h⟩ := zb_if h
        refine va_iald hx hb hK hP 6 3 rfl rfl (inb_in hi_4) dX6_data_82 ?_
        refine W.eq (g2 := F0 m 83 ls ([.int (Va v 17 x0.toNatClampNeg), .int x1])) rfl ?_
        refine lv_icmp_lt (tgt := 88) hx hb dX6_data_83 (by decide) (fun c_5 => ?_) (fun c_5 => ?_)
        · skip
          rw [if_pos c_5] at h
          refine lv_bipush (v := (64 : Int32)) hx hb dX6_data_88 (by decide) ?_
          refine lv_aload_n hx hb dX6_data_90 rfl (lv_at hl 0 rfl) ?_
          refine va_get (D := D) (ci := 5) (v := .ref (z 15)) (C := RX6) (T := TX6) (N := 33) hx hb hts (fun w h => wm (zin_X6 w h)) hown hK hP 0 rfl rfl 15 (by decide) (hts _ (wm zw_652)) (fun _ h9 => h9) rfl dX6_data_91 ?_
          refine lv_iload_n hx hb dX6_data_94 rfl (lv_at hl 1 rfl) ?_
          obtain ⟨hi_6, h⟩ := zb_if h
          refine va_iald hx hb hK hP 4 3 rfl rfl (inb_in hi_6) dX6_data_95 ?_
          refine W.eq (g2 := F0 m 96 ls ([.int (Va v 15 x0.toNatClampNeg), .int (64 : Int32)])) rfl ?_
          refine lv_imul hx hb dX6_data_96 ?_
          refine lv_aload_n hx hb dX6_data_97 rfl (lv_at hl 0 rfl) ?_
          refine va_get (D := D) (ci := 5) (v := .ref (z 16)) (C := RX6) (T := TX6) (N := 33) hx hb hts (fun w h => wm (zin_X6 w h)) hown hK hP 0 rfl rfl 16 (by decide) (hts _ (wm zw_653)) (fun _ h9 => h9) rfl dX6_data_98 ?_
          refine lv_iload_n hx hb dX6_data_101 rfl (lv_at hl 1 rfl) ?_
          obtain ⟨hi_7, h⟩ := zb_if h
          refine va_iald hx hb hK hP 5 3 rfl rfl (inb_in hi_7) dX6_data_102 ?_
          refine W.eq (g2 := F0 m 103 ls ([.int (Va v 16 x0.toNatClampNeg), .int ((64 : Int32) * (Va v 15 x0.toNatClampNeg))])) rfl ?_
          refine lv_iadd hx hb dX6_data_103 ?_
          obtain ⟨y_8, e_8, h⟩ := zb_bind h
          try dsimp only at h
          refine zt_i (Option.some.inj e_8) ?_
          refine lv_istore_n (lv' := [(3, .int y_8), (0, .ref (z 0)), (1, .int x0), (2, .int x1)]) hx hb dX6_data_104 rfl hl (by decide) rfl (fun ls hl => ?_)
          refine lv_aload_n hx hb dX6_data_105 rfl (lv_at hl 1 rfl) ?_
          refine va_get (D := D) (ci := 5) (v := .ref (z 14)) (C := RX6) (T := TX6) (N := 33) hx hb hts (fun w h => wm (zin_X6 w h)) hown hK hP 0 rfl rfl 14 (by decide) (hts _ (wm zw_651)) (fun _ h9 => h9) rfl dX6_data_106 ?_
          refine lv_iload_n hx hb dX6_data_109 rfl (lv_at hl 2 rfl) ?_
          obtain ⟨hi_9, h⟩ := zb_if h
          refine va_iald hx hb hK hP 3 3 rfl rfl (inb_in hi_9) dX6_data_110 ?_
          refine W.eq (g2 := F0 m 111 ls ([.int (Va v 14 x0.toNatClampNeg)])) rfl ?_
          refine lv_if_ne (tgt := 123) hx hb dX6_data_111 (by decide) (fun c_10 => ?_) (fun c_10 => ?_)
          · skip
            rw [if_neg c_10] at h
            refine lv_aload_n hx hb dX6_data_123 rfl (lv_at hl 1 rfl) ?_
            refine va_get (D := D) (ci := 5) (v := .ref (z 14)) (C := RX6) (T := TX6) (N := 33) hx hb hts (fun w h => wm (zin_X6 w h)) hown hK hP 0 rfl rfl 14 (by decide) (hts _ (wm zw_651)) (fun _ h9 => h9) rfl dX6_data_124 ?_
            refine lv_iload_n hx hb dX6_data_127 rfl (lv_at hl 2 rfl) ?_
            obtain ⟨hi_11, h⟩ := zb_if h
            refine va_iald hx hb hK hP 3 3 rfl rfl (inb_in hi_11) dX6_data_128 ?_
            refine W.eq (g2 := F0 m 129 ls ([.int (Va v 14 x0.toNatClampNeg)])) rfl ?_
            refine lv_iconst (v := (1 : Int32)) hx hb dX6_data_129 (by decide) ?_
            refine lv_isub hx hb dX6_data_130 ?_
            refine vp_callSi (W.runS (As := [.int ((Va v 14 x0.toNatClampNeg) - (1 : Int32))]) (rest := []) ⟨hx, hb, hml, hown, hts⟩ (ct_X6_bits l ((Va v 14 x0.toNatClampNeg) - (1 : Int32)) _ rfl) (va_cwS 1 hts (wz_S zw_802 zw_803 zw_6 zw_804) rfl rfl rfl (by decide +kernel) ⟨Nat.le_of_ble_eq_true rfl, Nat.le_of_ble_eq_true rfl⟩) ⟨fbN, fun U9 hU hW => ⟨rfl, trivial⟩⟩ rfl rfl hl.1 rfl (lv_room (Nat.le_of_ble_eq_true rfl)) dX6_data_131 ⟨Nat.le_of_ble_eq_true rfl, Nat.le_of_ble_eq_true rfl⟩) (fun r_12 e_12 => ?_)
            subst e_12
            obtain ⟨y_13, e_13, h⟩ := zb_bind h
            try dsimp only at h
            refine zt_i (Option.some.inj e_13) ?_
            refine lv_istore (lv' := [(4, .int y_13), (3, .int y_8), (0, .ref (z 0)), (1, .int x0), (2, .int x1)]) hx hb dX6_data_134 hl (by decide) rfl (fun ls hl => ?_)
            refine lv_iload_n hx hb dX6_data_136 rfl (lv_at hl 4 rfl) ?_
            refine lv_i2l hx hb dX6_data_137 rfl ?_
            refine lv_iload hx hb dX6_data_138 (lv_at hl 0 rfl) ?_
            refine lv_i2l hx hb dX6_data_140 rfl ?_
            refine lv_lmul hx hb dX6_data_141 ?_
            obtain ⟨y_14, e_14, h⟩ := zb_bind h
            try dsimp only at h
            refine zt_l (Option.some.inj e_14) ?_
            refine lv_lstore (lv' := [(5, .long y_14), (4, .int y_13), (3, .int y_8), (0, .ref (z 0)), (1, .int x0), (2, .int x1)]) hx hb dX6_data_142 hl (by decide) rfl (fun ls hl => ?_)
            refine lv_aload_n hx hb dX6_data_144 rfl (lv_at hl 3 rfl) ?_
            refine va_get (D := D) (ci := 5) (v := .ref (z 1)) (C := RX6) (T := TX6) (N := 33) hx hb hts (fun w h => wm (zin_X6 w h)) hown hK hP 0 rfl rfl 1 (by decide) (hts _ (wm zw_638)) (fun _ h9 => h9) rfl dX6_data_145 ?_
            refine lv_iload_n hx hb dX6_data_148 rfl (lv_at hl 2 rfl) ?_
            refine lv_lload hx hb dX6_data_149 (lv_at hl 0 rfl) ?_
            refine lv_ldc2 (v := (64 : Int64)) hx hb hown (hts _ (wm zw_806)) dX6_data_151 ?_
            refine lv_ldiv hx hb dX6_data_154 (by decide) ?_
            refine lv_l2i hx hb dX6_data_155 rfl ?_
            refine lv_iadd hx hb dX6_data_156 ?_
            obtain ⟨hi_15, h⟩ := zb_if h
            refine va_lald hx hb hK hP 1 0 rfl rfl (inb_in hi_15) dX6_data_157 ?_
            refine W.eq (g2 := F0 m 158 ls ([.long (Vr v 1 (y_8 + ((y_14 / (64 : Int64)).toInt32)).toNatClampNeg)])) rfl ?_
            refine lv_lload hx hb dX6_data_158 (lv_at hl 0 rfl) ?_
            refine lv_ldc2 (v := (64 : Int64)) hx hb hown (hts _ (wm zw_806)) dX6_data_160 ?_
            refine lv_lrem hx hb dX6_data_163 (by decide) ?_
            refine lv_l2i hx hb dX6_data_164 rfl ?_
            refine lv_lushr hx hb dX6_data_165 rfl ?_
            obtain ⟨y_16, e_16, h⟩ := zb_bind h
            try dsimp only at h
            refine zt_l (Option.some.inj e_16) ?_
            refine lv_lstore (lv' := [(7, .long y_16), (5, .long y_14), (4, .int y_13), (3, .int y_8), (0, .ref (z 0)), (1, .int x0), (2, .int x1)]) hx hb dX6_data_166 hl (by decide) rfl (fun ls hl => ?_)
            refine lv_iload hx hb dX6_data_168 (lv_at hl 2 rfl) ?_
            refine lv_bipush (v := (64 : Int32)) hx hb dX6_data_170 (by decide) ?_
            refine lv_icmp_ne (tgt := 180) hx hb dX6_data_172 (by decide) (fun c_17 => ?_) (fun c_17 => ?_)
            · skip
              rw [if_neg c_17] at h
              refine lv_lload hx hb dX6_data_180 (lv_at hl 0 rfl) ?_
              refine lv_lconst (v := (1 : Int64)) hx hb dX6_data_182 (by decide) ?_
              refine lv_iload hx hb dX6_data_183 (lv_at hl 2 rfl) ?_
              refine lv_lshl hx hb dX6_data_185 rfl ?_
              refine lv_lconst (v := (1 : Int64)) hx hb dX6_data_186 (by decide) ?_
              refine lv_lsub hx hb dX6_data_187 ?_
              refine lv_land hx hb dX6_data_188 ?_
              exact W.lret (v := (y_16 &&& (((1 : Int64) <<< (y_13.toInt64 &&& 63)) - (1 : Int64)))) hx hb hr (fun t ht hW => ⟨⟨(y_16 &&& (((1 : Int64) <<< (y_13.toInt64 &&& 63)) - (1 : Int64))), (tI v 0 y0), rfl, (Option.some.inj h).symm, wPre_go hP hD hK hA hS ht hW.alike⟩, hS.F ht⟩) hS.2.2 dX6_data_189
            · skip
              rw [if_pos c_17] at h
              refine lv_lload hx hb dX6_data_175 (lv_at hl 0 rfl) ?_
              refine lv_goto (tgt := 189) hx hb dX6_data_177 (by decide) ?_
              exact W.lret (v := y_16) hx hb hr (fun t ht hW => ⟨⟨y_16, (tI v 0 y0), rfl, (Option.some.inj h).symm, wPre_go hP hD hK hA hS ht hW.alike⟩, hS.F ht⟩) hS.2.2 dX6_data_189
          · skip
            rw [if_pos c_10] at h
            refine lv_aload_n hx hb dX6_data_114 rfl (lv_at hl 1 rfl) ?_
            refine va_get (D := D) (ci := 5) (v := .ref (z 1)) (C := RX6) (T := TX6) (N := 33) hx hb hts (fun w h => wm (zin_X6 w h)) hown hK hP 0 rfl rfl 1 (by decide) (hts _ (wm zw_638)) (fun _ h9 => h9) rfl dX6_data_115 ?_
            refine lv_iload_n hx hb dX6_data_118 rfl (lv_at hl 0 rfl) ?_
            refine lv_iload_n hx hb dX6_data_119 rfl (lv_at hl 3 rfl) ?_
            refine lv_iadd hx hb dX6_data_120 ?_
            obtain ⟨hi_18, h⟩ := zb_if h
            refine va_lald hx hb hK hP 1 0 rfl rfl (inb_in hi_18) dX6_data_121 ?_
            refine W.eq (g2 := F0 m 122 ls ([.long (Vr v 1 (y_8 + x1).toNatClampNeg)])) rfl ?_
            exact W.lret (v := (Vr v 1 (y_8 + x1).toNatClampNeg)) hx hb hr (fun t ht hW => ⟨⟨(Vr v 1 (y_8 + x1).toNatClampNeg), (tI v 0 y0), rfl, (Option.some.inj h).symm, wPre_go hP hD hK hA hS ht hW.alike⟩, hS.F ht⟩) hS.2.2 dX6_data_122
        · skip
          rw [if_neg c_5] at h
          refine lv_lconst (v := (0 : Int64)) hx hb dX6_data_86 (by decide) ?_
          exact W.lret (v := (0 : Int64)) hx hb hr (fun t ht hW => ⟨⟨(0 : Int64), (tI v 0 y0), rfl, (Option.some.inj h).symm, wPre_go hP hD hK hA hS ht hW.alike⟩, hS.F ht⟩) hS.2.2 dX6_data_87
  have k_55 : ∀ (v : MS) (H : Heap) (locs : List Loc) (x0 : Int32) (x1 : Int32), va_P D vwCl (mW c4 z v) H → va_D A (mW c4 z v) → va_S A s.heap H locs → ∀ (ls : Array Slot), lv_has ls 9 [(0, .ref (z 0)), (1, .int x0), (2, .int x1)] → pX6_data_55 v x0 x1 = some res → W p l e ({ frames := 1, cells := 0, slots := 0, locals := 21 } : Room) s m ([.ref (z 0), .int a1, .int a2] : List Value).toArray below meth c H locs 0 0 (MQ below (va_Ql (fun q w => res = (w, q)) (fun w t => wPre D c4 A (mW c4 z w) t) A) ([.ref (z 0), .int a1, .int a2] : List Value).toArray s 0 0 A) (F0 m 55 ls [.ref (z 0)]) := by
    intro v H locs x0 x1 hP hD hS ls hl h
    unfold pX6_data_55 at h
    refine lv_iconst (v := (0 : Int32)) hx hb dX6_data_55 (by decide) ?_
    exact k_56 v _ _ x0 x1 (0 : Int32) hP hD hS ls (lv_sub hl [0, 1, 2] rfl) h
  have k_51 : ∀ (v : MS) (H : Heap) (locs : List Loc) (x0 : Int32) (x1 : Int32), va_P D vwCl (mW c4 z v) H → va_D A (mW c4 z v) → va_S A s.heap H locs → ∀ (ls : Array Slot), lv_has ls 9 [(0, .ref (z 0)), (1, .int x0), (2, .int x1)] → pX6_data_51 v x0 x1 = some res → W p l e ({ frames := 1, cells := 0, slots := 0, locals := 21 } : Room) s m ([.ref (z 0), .int a1, .int a2] : List Value).toArray below meth c H locs 0 0 (MQ below (va_Ql (fun q w => res = (w, q)) (fun w t => wPre D c4 A (mW c4 z w) t) A) ([.ref (z 0), .int a1, .int a2] : List Value).toArray s 0 0 A) (F0 m 51 ls [.ref (z 0)]) := by
    intro v H locs x0 x1 hP hD hS ls hl h
    unfold pX6_data_51 at h
    refine lv_iconst (v := (3 : Int32)) hx hb dX6_data_51 (by decide) ?_
    refine lv_goto (tgt := 56) hx hb dX6_data_52 (by decide) ?_
    exact k_56 v _ _ x0 x1 (3 : Int32) hP hD hS ls (lv_sub hl [0, 1, 2] rfl) h
  unfold pX6_data at h
  refine lv_aload_n hx hb dX6_data_0 rfl (lv_at hl 0 rfl) ?_
  refine lv_aload_n hx hb dX6_data_1 rfl (lv_at hl 0 rfl) ?_
  refine lv_iload_n hx hb dX6_data_2 rfl (lv_at hl 1 rfl) ?_
  refine vp_callSi (W.runV (As := [.int a1]) (rest := [.ref (z 0)]) ⟨hx, hb, hml, hown, hts⟩ (ct_X6_isHandle l D c4 A z v a1 _ rfl) (cwV 1 hts (wz_V zw_824 zw_826 zs_24 zw_6 zw_827) rfl rfl rfl (by decide +kernel) ⟨Nat.le_of_ble_eq_true rfl, Nat.le_of_ble_eq_true rfl⟩) ⟨fbM, va_recv hK hP (ci := 5) (q0 := 0) rfl rfl, fun U9 hU hW => ⟨rfl, wPre_go hP hD hK hA hS hU hW.alike⟩⟩ rfl rfl hl.1 rfl (lv_room (Nat.le_of_ble_eq_true rfl)) dX6_data_3 ⟨Nat.le_of_ble_eq_true rfl, Nat.le_of_ble_eq_true rfl⟩) (fun r_19 e_19 => ?_)
  subst e_19
  refine lv_if_ne (tgt := 13) hx hb dX6_data_6 (by decide) (fun c_20 => ?_) (fun c_20 => ?_)
  · skip
    rw [if_neg c_20] at h
    refine lv_aload_n hx hb dX6_data_13 rfl (lv_at hl 0 rfl) ?_
    refine va_get (D := D) (ci := 5) (v := .ref (z 14)) (C := RX6) (T := TX6) (N := 33) hx hb hts (fun w h => wm (zin_X6 w h)) hown hK hP 0 rfl rfl 14 (by decide) (hts _ (wm zw_651)) (fun _ h9 => h9) rfl dX6_data_14 ?_
    refine lv_iload_n hx hb dX6_data_17 rfl (lv_at hl 1 rfl) ?_
    obtain ⟨hi_21, h⟩ := zb_if h
    refine va_iald hx hb hK hP 3 3 rfl rfl (inb_in hi_21) dX6_data_18 ?_
    refine W.eq (g2 := F0 m 19 ls ([.int (Va v 14 a1.toNatClampNeg), .ref (z 0)])) rfl ?_
    refine lv_bipush (v := (6 : Int32)) hx hb dX6_data_19 (by decide) ?_
    refine lv_icmp_le (tgt := 28) hx hb dX6_data_21 (by decide) (fun c_22 => ?_) (fun c_22 => ?_)
    · skip
      rw [if_pos c_22] at h
      refine lv_iload_n hx hb dX6_data_28 rfl (lv_at hl 2 rfl) ?_
      refine lv_if_lt (tgt := 51) hx hb dX6_data_29 (by decide) (fun c_23 => ?_) (fun c_23 => ?_)
      · skip
        rw [if_pos c_23] at h
        exact k_51 v _ _ a1 a2 hP hD hS ls (lv_sub hl [0, 1, 2] rfl) h
      · skip
        rw [if_neg c_23] at h
        refine lv_aload_n hx hb dX6_data_32 rfl (lv_at hl 0 rfl) ?_
        refine va_get (D := D) (ci := 5) (v := .ref (z 14)) (C := RX6) (T := TX6) (N := 33) hx hb hts (fun w h => wm (zin_X6 w h)) hown hK hP 0 rfl rfl 14 (by decide) (hts _ (wm zw_651)) (fun _ h9 => h9) rfl dX6_data_33 ?_
        refine lv_iload_n hx hb dX6_data_36 rfl (lv_at hl 1 rfl) ?_
        obtain ⟨hi_24, h⟩ := zb_if h
        refine va_iald hx hb hK hP 3 3 rfl rfl (inb_in hi_24) dX6_data_37 ?_
        refine W.eq (g2 := F0 m 38 ls ([.int (Va v 14 a1.toNatClampNeg), .ref (z 0)])) rfl ?_
        refine lv_if_le (tgt := 55) hx hb dX6_data_38 (by decide) (fun c_25 => ?_) (fun c_25 => ?_)
        · skip
          rw [if_pos c_25] at h
          exact k_55 v _ _ a1 a2 hP hD hS ls (lv_sub hl [0, 1, 2] rfl) h
        · skip
          rw [if_neg c_25] at h
          refine lv_iload_n hx hb dX6_data_41 rfl (lv_at hl 2 rfl) ?_
          refine lv_aload_n hx hb dX6_data_42 rfl (lv_at hl 0 rfl) ?_
          refine va_get (D := D) (ci := 5) (v := .ref (z 17)) (C := RX6) (T := TX6) (N := 33) hx hb hts (fun w h => wm (zin_X6 w h)) hown hK hP 0 rfl rfl 17 (by decide) (hts _ (wm zw_654)) (fun _ h9 => h9) rfl dX6_data_43 ?_
          refine lv_iload_n hx hb dX6_data_46 rfl (lv_at hl 1 rfl) ?_
          obtain ⟨hi_26, h⟩ := zb_if h
          refine va_iald hx hb hK hP 6 3 rfl rfl (inb_in hi_26) dX6_data_47 ?_
          refine W.eq (g2 := F0 m 48 ls ([.int (Va v 17 a1.toNatClampNeg), .int a2, .ref (z 0)])) rfl ?_
          refine lv_icmp_lt (tgt := 55) hx hb dX6_data_48 (by decide) (fun c_27 => ?_) (fun c_27 => ?_)
          · skip
            rw [if_pos c_27] at h
            exact k_55 v _ _ a1 a2 hP hD hS ls (lv_sub hl [0, 1, 2] rfl) h
          · skip
            rw [if_neg c_27] at h
            exact k_51 v _ _ a1 a2 hP hD hS ls (lv_sub hl [0, 1, 2] rfl) h
    · skip
      rw [if_neg c_22] at h
      refine lv_iconst (v := (2 : Int32)) hx hb dX6_data_24 (by decide) ?_
      refine lv_goto (tgt := 56) hx hb dX6_data_25 (by decide) ?_
      exact k_56 v _ _ a1 a2 (2 : Int32) hP hD hS ls (lv_sub hl [0, 1, 2] rfl) h
  · skip
    rw [if_pos c_20] at h
    refine lv_iconst (v := (1 : Int32)) hx hb dX6_data_9 (by decide) ?_
    refine lv_goto (tgt := 56) hx hb dX6_data_10 (by decide) ?_
    exact k_56 v _ _ a1 a2 (1 : Int32) hP hD hS ls (lv_sub hl [0, 1, 2] rfl) h
def pX6_await (v : MS) (a1 : Int32) (a2 : Int32) (a3 : Int32) (a4 : Int32) : Option (MS × Unit) := (if inb (Vi v 28) 200 = true then (if inb (Vi v 28) 200 = true then (if inb (Vi v 28) 200 = true then (if inb (Vi v 28) 200 = true then ((some ((Vi v 28) + (1 : Int32))).bind fun y_5 => some ((tI (tA (tA (tA (tA v 29 (Vi v 28).toNatClampNeg a1) 30 (Vi v 28).toNatClampNeg a2) 31 (Vi v 28).toNatClampNeg a3) 32 (Vi v 28).toNatClampNeg a4) 28 y_5), ())) else none) else none) else none) else none)
set_option maxHeartbeats 4000000 in
set_option maxRecDepth 100000 in
theorem ct_X6_await (l : Launch) (D : va_G) (c4 : Nat → ClassId) (A : Nat → Prop) (z : Nat → Nat) (v : MS) (a1 : Int32) (a2 : Int32) (a3 : Int32) (a4 : Int32) (res : MS × Unit) (h : pX6_await v a1 a2 a3 a4 = some res) : Met l yX6_await (wz yX6_await cX6_await 5 none) ({ frames := 0, cells := 0, slots := 0, locals := 0 } : Room) (va_Pc [.ref (z 0), .int a1, .int a2, .int a3, .int a4] (fun U => mPre D c4 A z v U)) (va_Qv (fun w => res = (w, ())) (fun w t => wPre D c4 A (mW c4 z w) t) A) 0 0 A := by
  refine Met.ofW (cc := cX6_await) (maxL := 5) (ret := none) (by decide) rfl ?_
  intro p e s m args below meth c s₁ B hml hv
  obtain ⟨rfl, hP, hD, hK, hA⟩ := hv
  have hx := B.exec
  have hb := B.bytes
  have hr := B.returns
  have hts := atoms_spec (ws := (wz yX6_await cX6_await 5 none)) B.pre
  have hown : s.vm.findClass RX6 = some m.cls := findClass_of_methodNamed B.named
  have hlocks := B.notSynchronized
  have hS : va_S A s.heap s.heap [] := va_S.rf
  have hl := lv_entry ([.ref (z 0), .int a1, .int a2, .int a3, .int a4]) (n := 5) (Nat.le_of_ble_eq_true rfl)
  rw [lg_entry_eq]
  generalize (lg_sl ([.ref (z 0), .int a1, .int a2, .int a3, .int a4]) ++ List.replicate (5 - (lg_sl ([.ref (z 0), .int a1, .int a2, .int a3, .int a4])).length) Slot.unset).toArray = ls at hl ⊢
  have hl : lv_has ls 5 [(0, .ref (z 0)), (1, .int a1), (2, .int a2), (3, .int a3), (4, .int a4)] := hl
  unfold pX6_await at h
  refine lv_aload_n hx hb dX6_await_0 rfl (lv_at hl 0 rfl) ?_
  refine va_get (D := D) (ci := 5) (v := .ref (z 29)) (C := RX6) (T := TX6) (N := 33) hx hb hts (fun w h => wm (zin_X6 w h)) hown hK hP 0 rfl rfl 29 (by decide) (hts _ (wm zw_666)) (fun _ h9 => h9) rfl dX6_await_1 ?_
  refine lv_aload_n hx hb dX6_await_4 rfl (lv_at hl 0 rfl) ?_
  refine va_get (D := D) (ci := 5) (v := .int (Vi v 28)) (C := RX6) (T := TX6) (N := 33) hx hb hts (fun w h => wm (zin_X6 w h)) hown hK hP 0 rfl rfl 28 (by decide) (hts _ (wm zw_665)) (fun _ h9 => h9) rfl dX6_await_5 ?_
  refine lv_iload_n hx hb dX6_await_8 rfl (lv_at hl 1 rfl) ?_
  obtain ⟨hi_1, h⟩ := zb_if h
  refine va_iast hx hb hK hP hD hS 13 3 rfl rfl (inb_in hi_1) dX6_await_9 (fun H locs hP hD hS => ?_)
  have hP : va_P D vwCl (mW c4 z (tA v 29 (Vi v 28).toNatClampNeg a1)) H := hP
  have hD : va_D A (mW c4 z (tA v 29 (Vi v 28).toNatClampNeg a1)) := hD
  refine lv_aload_n hx hb dX6_await_10 rfl (lv_at hl 0 rfl) ?_
  refine va_get (D := D) (ci := 5) (v := .ref (z 30)) (C := RX6) (T := TX6) (N := 33) hx hb hts (fun w h => wm (zin_X6 w h)) hown hK hP 0 rfl rfl 30 (by decide) (hts _ (wm zw_667)) (fun _ h9 => h9) rfl dX6_await_11 ?_
  refine lv_aload_n hx hb dX6_await_14 rfl (lv_at hl 0 rfl) ?_
  refine va_get (D := D) (ci := 5) (v := .int (Vi v 28)) (C := RX6) (T := TX6) (N := 33) hx hb hts (fun w h => wm (zin_X6 w h)) hown hK hP 0 rfl rfl 28 (by decide) (hts _ (wm zw_665)) (fun _ h9 => h9) rfl dX6_await_15 ?_
  refine lv_iload_n hx hb dX6_await_18 rfl (lv_at hl 2 rfl) ?_
  obtain ⟨hi_2, h⟩ := zb_if h
  refine va_iast hx hb hK hP hD hS 14 3 rfl rfl (inb_in hi_2) dX6_await_19 (fun H locs hP hD hS => ?_)
  have hP : va_P D vwCl (mW c4 z (tA (tA v 29 (Vi v 28).toNatClampNeg a1) 30 (Vi v 28).toNatClampNeg a2)) H := hP
  have hD : va_D A (mW c4 z (tA (tA v 29 (Vi v 28).toNatClampNeg a1) 30 (Vi v 28).toNatClampNeg a2)) := hD
  refine lv_aload_n hx hb dX6_await_20 rfl (lv_at hl 0 rfl) ?_
  refine va_get (D := D) (ci := 5) (v := .ref (z 31)) (C := RX6) (T := TX6) (N := 33) hx hb hts (fun w h => wm (zin_X6 w h)) hown hK hP 0 rfl rfl 31 (by decide) (hts _ (wm zw_668)) (fun _ h9 => h9) rfl dX6_await_21 ?_
  refine lv_aload_n hx hb dX6_await_24 rfl (lv_at hl 0 rfl) ?_
  refine va_get (D := D) (ci := 5) (v := .int (Vi v 28)) (C := RX6) (T := TX6) (N := 33) hx hb hts (fun w h => wm (zin_X6 w h)) hown hK hP 0 rfl rfl 28 (by decide) (hts _ (wm zw_665)) (fun _ h9 => h9) rfl dX6_await_25 ?_
  refine lv_iload_n hx hb dX6_await_28 rfl (lv_at hl 3 rfl) ?_
  obtain ⟨hi_3, h⟩ := zb_if h
  refine va_iast hx hb hK hP hD hS 15 3 rfl rfl (inb_in hi_3) dX6_await_29 (fun H locs hP hD hS => ?_)
  have hP : va_P D vwCl (mW c4 z (tA (tA (tA v 29 (Vi v 28).toNatClampNeg a1) 30 (Vi v 28).toNatClampNeg a2) 31 (Vi v 28).toNatClampNeg a3)) H := hP
  have hD : va_D A (mW c4 z (tA (tA (tA v 29 (Vi v 28).toNatClampNeg a1) 30 (Vi v 28).toNatClampNeg a2) 31 (Vi v 28).toNatClampNeg a3)) := hD
  refine lv_aload_n hx hb dX6_await_30 rfl (lv_at hl 0 rfl) ?_
  refine va_get (D := D) (ci := 5) (v := .ref (z 32)) (C := RX6) (T := TX6) (N := 33) hx hb hts (fun w h => wm (zin_X6 w h)) hown hK hP 0 rfl rfl 32 (by decide) (hts _ (wm zw_669)) (fun _ h9 => h9) rfl dX6_await_31 ?_
  refine lv_aload_n hx hb dX6_await_34 rfl (lv_at hl 0 rfl) ?_
  refine va_get (D := D) (ci := 5) (v := .int (Vi v 28)) (C := RX6) (T := TX6) (N := 33) hx hb hts (fun w h => wm (zin_X6 w h)) hown hK hP 0 rfl rfl 28 (by decide) (hts _ (wm zw_665)) (fun _ h9 => h9) rfl dX6_await_35 ?_
  refine lv_iload hx hb dX6_await_38 (lv_at hl 4 rfl) ?_
  obtain ⟨hi_4, h⟩ := zb_if h
  refine va_iast hx hb hK hP hD hS 16 3 rfl rfl (inb_in hi_4) dX6_await_40 (fun H locs hP hD hS => ?_)
  have hP : va_P D vwCl (mW c4 z (tA (tA (tA (tA v 29 (Vi v 28).toNatClampNeg a1) 30 (Vi v 28).toNatClampNeg a2) 31 (Vi v 28).toNatClampNeg a3) 32 (Vi v 28).toNatClampNeg a4)) H := hP
  have hD : va_D A (mW c4 z (tA (tA (tA (tA v 29 (Vi v 28).toNatClampNeg a1) 30 (Vi v 28).toNatClampNeg a2) 31 (Vi v 28).toNatClampNeg a3) 32 (Vi v 28).toNatClampNeg a4)) := hD
  refine lv_aload_n hx hb dX6_await_41 rfl (lv_at hl 0 rfl) ?_
  refine lv_dup hx hb dX6_await_42 rfl ?_
  refine va_get (D := D) (ci := 5) (v := .int (Vi v 28)) (C := RX6) (T := TX6) (N := 33) hx hb hts (fun w h => wm (zin_X6 w h)) hown hK hP 0 rfl rfl 28 (by decide) (hts _ (wm zw_665)) (fun _ h9 => h9) rfl dX6_await_43 ?_
  refine lv_iconst (v := (1 : Int32)) hx hb dX6_await_46 (by decide) ?_
  refine lv_iadd hx hb dX6_await_47 ?_
  obtain ⟨y_5, e_5, h⟩ := zb_bind h
  try dsimp only at h
  refine zt_i (Option.some.inj e_5) ?_
  refine va_put (D := D) (ci := 5) (v := .int y_5) (ty := .int) (C := RX6) (T := TX6) (N := 33) hx hb hts (fun w h => wm (zin_X6 w h)) tyX6 tyX6_ok nmX6 hown hK hP hD hS 0 rfl rfl 28 (by decide) (hts _ (wm zw_665)) (fun _ h9 => h9) rfl (by decide +kernel) rfl rfl (Nat.le_of_ble_eq_true rfl) dX6_await_48 (fun H locs hP hD hS => ?_)
  have hP : va_P D vwCl (mW c4 z (tI (tA (tA (tA (tA v 29 (Vi v 28).toNatClampNeg a1) 30 (Vi v 28).toNatClampNeg a2) 31 (Vi v 28).toNatClampNeg a3) 32 (Vi v 28).toNatClampNeg a4) 28 y_5)) H := hP
  have hD : va_D A (mW c4 z (tI (tA (tA (tA (tA v 29 (Vi v 28).toNatClampNeg a1) 30 (Vi v 28).toNatClampNeg a2) 31 (Vi v 28).toNatClampNeg a3) 32 (Vi v 28).toNatClampNeg a4) 28 y_5)) := hD
  exact W.vret hx hb hr (fun t ht hW => ⟨⟨(tI (tA (tA (tA (tA v 29 (Vi v 28).toNatClampNeg a1) 30 (Vi v 28).toNatClampNeg a2) 31 (Vi v 28).toNatClampNeg a3) 32 (Vi v 28).toNatClampNeg a4) 28 y_5), rfl, (Option.some.inj h).symm, wPre_go hP hD hK hA hS ht hW.alike⟩, hS.F ht⟩) hS.2.2 dX6_await_51
def pX6_put (v : MS) (a1 : Int64) : Option (MS × Unit) := (if inb (Vi v 21) 160 = true then ((some ((Vi v 21) + (1 : Int32))).bind fun y_2 => some ((tI (tR v 22 (Vi v 21).toNatClampNeg a1) 21 y_2), ())) else none)
set_option maxHeartbeats 4000000 in
set_option maxRecDepth 100000 in
theorem ct_X6_put (l : Launch) (D : va_G) (c4 : Nat → ClassId) (A : Nat → Prop) (z : Nat → Nat) (v : MS) (a1 : Int64) (res : MS × Unit) (h : pX6_put v a1 = some res) : Met l yX6_put (wz yX6_put cX6_put 3 none) ({ frames := 0, cells := 0, slots := 0, locals := 0 } : Room) (va_Pc [.ref (z 0), .long a1] (fun U => mPre D c4 A z v U)) (va_Qv (fun w => res = (w, ())) (fun w t => wPre D c4 A (mW c4 z w) t) A) 0 0 A := by
  refine Met.ofW (cc := cX6_put) (maxL := 3) (ret := none) (by decide) rfl ?_
  intro p e s m args below meth c s₁ B hml hv
  obtain ⟨rfl, hP, hD, hK, hA⟩ := hv
  have hx := B.exec
  have hb := B.bytes
  have hr := B.returns
  have hts := atoms_spec (ws := (wz yX6_put cX6_put 3 none)) B.pre
  have hown : s.vm.findClass RX6 = some m.cls := findClass_of_methodNamed B.named
  have hlocks := B.notSynchronized
  have hS : va_S A s.heap s.heap [] := va_S.rf
  have hl := lv_entry ([.ref (z 0), .long a1]) (n := 3) (Nat.le_of_ble_eq_true rfl)
  rw [lg_entry_eq]
  generalize (lg_sl ([.ref (z 0), .long a1]) ++ List.replicate (3 - (lg_sl ([.ref (z 0), .long a1])).length) Slot.unset).toArray = ls at hl ⊢
  have hl : lv_has ls 3 [(0, .ref (z 0)), (1, .long a1)] := hl
  unfold pX6_put at h
  refine lv_aload_n hx hb dX6_put_0 rfl (lv_at hl 0 rfl) ?_
  refine va_get (D := D) (ci := 5) (v := .ref (z 22)) (C := RX6) (T := TX6) (N := 33) hx hb hts (fun w h => wm (zin_X6 w h)) hown hK hP 0 rfl rfl 22 (by decide) (hts _ (wm zw_659)) (fun _ h9 => h9) rfl dX6_put_1 ?_
  refine lv_aload_n hx hb dX6_put_4 rfl (lv_at hl 0 rfl) ?_
  refine va_get (D := D) (ci := 5) (v := .int (Vi v 21)) (C := RX6) (T := TX6) (N := 33) hx hb hts (fun w h => wm (zin_X6 w h)) hown hK hP 0 rfl rfl 21 (by decide) (hts _ (wm zw_658)) (fun _ h9 => h9) rfl dX6_put_5 ?_
  refine lv_lload_n hx hb dX6_put_8 rfl (lv_at hl 1 rfl) ?_
  obtain ⟨hi_1, h⟩ := zb_if h
  refine va_last hx hb hK hP hD hS 10 0 rfl rfl (inb_in hi_1) dX6_put_9 (fun H locs hP hD hS => ?_)
  have hP : va_P D vwCl (mW c4 z (tR v 22 (Vi v 21).toNatClampNeg a1)) H := hP
  have hD : va_D A (mW c4 z (tR v 22 (Vi v 21).toNatClampNeg a1)) := hD
  refine lv_aload_n hx hb dX6_put_10 rfl (lv_at hl 0 rfl) ?_
  refine lv_dup hx hb dX6_put_11 rfl ?_
  refine va_get (D := D) (ci := 5) (v := .int (Vi v 21)) (C := RX6) (T := TX6) (N := 33) hx hb hts (fun w h => wm (zin_X6 w h)) hown hK hP 0 rfl rfl 21 (by decide) (hts _ (wm zw_658)) (fun _ h9 => h9) rfl dX6_put_12 ?_
  refine lv_iconst (v := (1 : Int32)) hx hb dX6_put_15 (by decide) ?_
  refine lv_iadd hx hb dX6_put_16 ?_
  obtain ⟨y_2, e_2, h⟩ := zb_bind h
  try dsimp only at h
  refine zt_i (Option.some.inj e_2) ?_
  refine va_put (D := D) (ci := 5) (v := .int y_2) (ty := .int) (C := RX6) (T := TX6) (N := 33) hx hb hts (fun w h => wm (zin_X6 w h)) tyX6 tyX6_ok nmX6 hown hK hP hD hS 0 rfl rfl 21 (by decide) (hts _ (wm zw_658)) (fun _ h9 => h9) rfl (by decide +kernel) rfl rfl (Nat.le_of_ble_eq_true rfl) dX6_put_17 (fun H locs hP hD hS => ?_)
  have hP : va_P D vwCl (mW c4 z (tI (tR v 22 (Vi v 21).toNatClampNeg a1) 21 y_2)) H := hP
  have hD : va_D A (mW c4 z (tI (tR v 22 (Vi v 21).toNatClampNeg a1) 21 y_2)) := hD
  exact W.vret hx hb hr (fun t ht hW => ⟨⟨(tI (tR v 22 (Vi v 21).toNatClampNeg a1) 21 y_2), rfl, (Option.some.inj h).symm, wPre_go hP hD hK hA hS ht hW.alike⟩, hS.F ht⟩) hS.2.2 dX6_put_20
def pX6_formed (v : MS) (a1 : Int32) : Option (MS × Int64) := (if a1 < 0 then some ((tI v 0 (0 : Int32)), (0 : Int64)) else (if a1 < (Vi v 23) then (if inb a1 160 = true then some ((tI v 0 (0 : Int32)), (Vr v 24 a1.toNatClampNeg)) else none) else some ((tI v 0 (0 : Int32)), (0 : Int64))))
set_option maxHeartbeats 4000000 in
set_option maxRecDepth 100000 in
theorem ct_X6_formed (l : Launch) (D : va_G) (c4 : Nat → ClassId) (A : Nat → Prop) (z : Nat → Nat) (v : MS) (a1 : Int32) (res : MS × Int64) (h : pX6_formed v a1 = some res) : Met l yX6_formed (wz yX6_formed cX6_formed 2 (some .long)) ({ frames := 0, cells := 0, slots := 0, locals := 0 } : Room) (va_Pc [.ref (z 0), .int a1] (fun U => mPre D c4 A z v U)) (va_Ql (fun q w => res = (w, q)) (fun w t => wPre D c4 A (mW c4 z w) t) A) 0 0 A := by
  refine Met.ofW (cc := cX6_formed) (maxL := 2) (ret := (some .long)) (by decide) rfl ?_
  intro p e s m args below meth c s₁ B hml hv
  obtain ⟨rfl, hP, hD, hK, hA⟩ := hv
  have hx := B.exec
  have hb := B.bytes
  have hr := B.returns
  have hts := atoms_spec (ws := (wz yX6_formed cX6_formed 2 (some .long))) B.pre
  have hown : s.vm.findClass RX6 = some m.cls := findClass_of_methodNamed B.named
  have hlocks := B.notSynchronized
  have hS : va_S A s.heap s.heap [] := va_S.rf
  have hl := lv_entry ([.ref (z 0), .int a1]) (n := 2) (Nat.le_of_ble_eq_true rfl)
  rw [lg_entry_eq]
  generalize (lg_sl ([.ref (z 0), .int a1]) ++ List.replicate (2 - (lg_sl ([.ref (z 0), .int a1])).length) Slot.unset).toArray = ls at hl ⊢
  have hl : lv_has ls 2 [(0, .ref (z 0)), (1, .int a1)] := hl
  unfold pX6_formed at h
  refine lv_aload_n hx hb dX6_formed_0 rfl (lv_at hl 0 rfl) ?_
  refine lv_iconst (v := (0 : Int32)) hx hb dX6_formed_1 (by decide) ?_
  refine va_put (D := D) (ci := 5) (v := .int (0 : Int32)) (ty := .int) (C := RX6) (T := TX6) (N := 33) hx hb hts (fun w h => wm (zin_X6 w h)) tyX6 tyX6_ok nmX6 hown hK hP hD hS 0 rfl rfl 0 (by decide) (hts _ (wm zw_637)) (fun _ h9 => h9) rfl (by decide +kernel) rfl rfl (Nat.le_of_ble_eq_true rfl) dX6_formed_2 (fun H locs hP hD hS => ?_)
  have hP : va_P D vwCl (mW c4 z (tI v 0 (0 : Int32))) H := hP
  have hD : va_D A (mW c4 z (tI v 0 (0 : Int32))) := hD
  refine lv_iload_n hx hb dX6_formed_5 rfl (lv_at hl 1 rfl) ?_
  refine lv_if_lt (tgt := 17) hx hb dX6_formed_6 (by decide) (fun c_1 => ?_) (fun c_1 => ?_)
  · skip
    rw [if_pos c_1] at h
    refine lv_lconst (v := (0 : Int64)) hx hb dX6_formed_17 (by decide) ?_
    refine lv_goto (tgt := 27) hx hb dX6_formed_18 (by decide) ?_
    exact W.lret (v := (0 : Int64)) hx hb hr (fun t ht hW => ⟨⟨(0 : Int64), (tI v 0 (0 : Int32)), rfl, (Option.some.inj h).symm, wPre_go hP hD hK hA hS ht hW.alike⟩, hS.F ht⟩) hS.2.2 dX6_formed_27
  · skip
    rw [if_neg c_1] at h
    refine lv_iload_n hx hb dX6_formed_9 rfl (lv_at hl 1 rfl) ?_
    refine lv_aload_n hx hb dX6_formed_10 rfl (lv_at hl 0 rfl) ?_
    refine va_get (D := D) (ci := 5) (v := .int (Vi v 23)) (C := RX6) (T := TX6) (N := 33) hx hb hts (fun w h => wm (zin_X6 w h)) hown hK hP 0 rfl rfl 23 (by decide) (hts _ (wm zw_660)) (fun _ h9 => h9) rfl dX6_formed_11 ?_
    refine lv_icmp_lt (tgt := 21) hx hb dX6_formed_14 (by decide) (fun c_2 => ?_) (fun c_2 => ?_)
    · skip
      rw [if_pos c_2] at h
      refine lv_aload_n hx hb dX6_formed_21 rfl (lv_at hl 0 rfl) ?_
      refine va_get (D := D) (ci := 5) (v := .ref (z 24)) (C := RX6) (T := TX6) (N := 33) hx hb hts (fun w h => wm (zin_X6 w h)) hown hK hP 0 rfl rfl 24 (by decide) (hts _ (wm zw_661)) (fun _ h9 => h9) rfl dX6_formed_22 ?_
      refine lv_iload_n hx hb dX6_formed_25 rfl (lv_at hl 1 rfl) ?_
      obtain ⟨hi_3, h⟩ := zb_if h
      refine va_lald hx hb hK hP 11 0 rfl rfl (inb_in hi_3) dX6_formed_26 ?_
      refine W.eq (g2 := F0 m 27 ls ([.long (Vr v 24 a1.toNatClampNeg)])) rfl ?_
      exact W.lret (v := (Vr v 24 a1.toNatClampNeg)) hx hb hr (fun t ht hW => ⟨⟨(Vr v 24 a1.toNatClampNeg), (tI v 0 (0 : Int32)), rfl, (Option.some.inj h).symm, wPre_go hP hD hK hA hS ht hW.alike⟩, hS.F ht⟩) hS.2.2 dX6_formed_27
    · skip
      rw [if_neg c_2] at h
      refine lv_lconst (v := (0 : Int64)) hx hb dX6_formed_17 (by decide) ?_
      refine lv_goto (tgt := 27) hx hb dX6_formed_18 (by decide) ?_
      exact W.lret (v := (0 : Int64)) hx hb hr (fun t ht hW => ⟨⟨(0 : Int64), (tI v 0 (0 : Int32)), rfl, (Option.some.inj h).symm, wPre_go hP hD hK hA hS ht hW.alike⟩, hS.F ht⟩) hS.2.2 dX6_formed_27
def pX6_keep_24 : Nat → MS → Int32 → Option (MS × Int32)
  | 0, _, _ => none
  | n + 1, v, x0 => (if (Vi v 23) ≤ x0 then some (v, (1 : Int32)) else (if inb x0 160 = true then ((some (Vr v 24 x0.toNatClampNeg)).bind fun y_3 => (if inb x0 160 = true then pX6_keep_24 n (tR v 26 x0.toNatClampNeg y_3) (x0 + (1 : Int32)) else none)) else none))
theorem pX6_keep_24_s (n : Nat) (v : MS) (x0 : Int32) : pX6_keep_24 (n + 1) v x0 = (if (Vi v 23) ≤ x0 then some (v, (1 : Int32)) else (if inb x0 160 = true then ((some (Vr v 24 x0.toNatClampNeg)).bind fun y_3 => (if inb x0 160 = true then pX6_keep_24 n (tR v 26 x0.toNatClampNeg y_3) (x0 + (1 : Int32)) else none)) else none)) := rfl
def pX6_keep (v : MS) : Option (MS × Int32) := (if 0 ≤ (Vi v 23) then ((some (Vi v 23)).bind fun y_6 => pX6_keep_24 300 (tI (tI v 0 (0 : Int32)) 25 y_6) (0 : Int32)) else some ((tI v 0 (0 : Int32)), (0 : Int32)))
set_option maxHeartbeats 4000000 in
set_option maxRecDepth 100000 in
theorem ct_X6_keep (l : Launch) (D : va_G) (c4 : Nat → ClassId) (A : Nat → Prop) (z : Nat → Nat) (v : MS) (res : MS × Int32) (h : pX6_keep v = some res) : Met l yX6_keep (wz yX6_keep cX6_keep 2 (some .boolean)) ({ frames := 0, cells := 0, slots := 0, locals := 0 } : Room) (va_Pc [.ref (z 0)] (fun U => mPre D c4 A z v U)) (va_Qi (fun q w => res = (w, q)) (fun w t => wPre D c4 A (mW c4 z w) t) A) 0 0 A := by
  refine Met.ofW (cc := cX6_keep) (maxL := 2) (ret := (some .boolean)) (by decide) rfl ?_
  intro p e s m args below meth c s₁ B hml hv
  obtain ⟨rfl, hP, hD, hK, hA⟩ := hv
  have hx := B.exec
  have hb := B.bytes
  have hr := B.returns
  have hts := atoms_spec (ws := (wz yX6_keep cX6_keep 2 (some .boolean))) B.pre
  have hown : s.vm.findClass RX6 = some m.cls := findClass_of_methodNamed B.named
  have hlocks := B.notSynchronized
  have hS : va_S A s.heap s.heap [] := va_S.rf
  have hl := lv_entry ([.ref (z 0)]) (n := 2) (Nat.le_of_ble_eq_true rfl)
  rw [lg_entry_eq]
  generalize (lg_sl ([.ref (z 0)]) ++ List.replicate (2 - (lg_sl ([.ref (z 0)])).length) Slot.unset).toArray = ls at hl ⊢
  have hl : lv_has ls 2 [(0, .ref (z 0))] := hl
  have k_24 : ∀ (n_24 : Nat), ∀ (v : MS) (H : Heap) (locs : List Loc) (x0 : Int32), va_P D vwCl (mW c4 z v) H → va_D A (mW c4 z v) → va_S A s.heap H locs → ∀ (ls : Array Slot), lv_has ls 2 [(0, .ref (z 0)), (1, .int x0)] → pX6_keep_24 n_24 v x0 = some res → W p l e ({ frames := 0, cells := 0, slots := 0, locals := 0 } : Room) s m ([.ref (z 0)] : List Value).toArray below meth c H locs 0 0 (MQ below (va_Qi (fun q w => res = (w, q)) (fun w t => wPre D c4 A (mW c4 z w) t) A) ([.ref (z 0)] : List Value).toArray s 0 0 A) (F0 m 24 ls []) := by
    intro n_24
    induction n_24 with
    | zero =>
      intro v H locs x0 hP hD hS ls hl h
      exact nomatch h
    | succ n_24 ih_24 =>
      intro v H locs x0 hP hD hS ls hl h
      rw [pX6_keep_24_s] at h
      refine lv_iload_n hx hb dX6_keep_24 rfl (lv_at hl 1 rfl) ?_
      refine lv_aload_n hx hb dX6_keep_25 rfl (lv_at hl 0 rfl) ?_
      refine va_get (D := D) (ci := 5) (v := .int (Vi v 23)) (C := RX6) (T := TX6) (N := 33) hx hb hts (fun w h => wm (zin_X6 w h)) hown hK hP 0 rfl rfl 23 (by decide) (hts _ (wm zw_660)) (fun _ h9 => h9) rfl dX6_keep_26 ?_
      refine lv_icmp_ge (tgt := 50) hx hb dX6_keep_29 (by decide) (fun c_1 => ?_) (fun c_1 => ?_)
      · skip
        rw [if_pos c_1] at h
        refine lv_iconst (v := (1 : Int32)) hx hb dX6_keep_50 (by decide) ?_
        exact W.zret (v := (1 : Int32)) (ty := .boolean) hx hb hr rfl (fun t ht hW => ⟨⟨(1 : Int32), v, rfl, (Option.some.inj h).symm, wPre_go hP hD hK hA hS ht hW.alike⟩, hS.F ht⟩) hS.2.2 dX6_keep_51
      · skip
        rw [if_neg c_1] at h
        refine lv_aload_n hx hb dX6_keep_32 rfl (lv_at hl 0 rfl) ?_
        refine va_get (D := D) (ci := 5) (v := .ref (z 26)) (C := RX6) (T := TX6) (N := 33) hx hb hts (fun w h => wm (zin_X6 w h)) hown hK hP 0 rfl rfl 26 (by decide) (hts _ (wm zw_663)) (fun _ h9 => h9) rfl dX6_keep_33 ?_
        refine lv_iload_n hx hb dX6_keep_36 rfl (lv_at hl 1 rfl) ?_
        refine lv_aload_n hx hb dX6_keep_37 rfl (lv_at hl 0 rfl) ?_
        refine va_get (D := D) (ci := 5) (v := .ref (z 24)) (C := RX6) (T := TX6) (N := 33) hx hb hts (fun w h => wm (zin_X6 w h)) hown hK hP 0 rfl rfl 24 (by decide) (hts _ (wm zw_661)) (fun _ h9 => h9) rfl dX6_keep_38 ?_
        refine lv_iload_n hx hb dX6_keep_41 rfl (lv_at hl 1 rfl) ?_
        obtain ⟨hi_2, h⟩ := zb_if h
        refine va_lald hx hb hK hP 11 0 rfl rfl (inb_in hi_2) dX6_keep_42 ?_
        refine W.eq (g2 := F0 m 43 ls ([.long (Vr v 24 x0.toNatClampNeg), .int x0, .ref (z 26)])) rfl ?_
        obtain ⟨y_3, e_3, h⟩ := zb_bind h
        try dsimp only at h
        refine zt_l (Option.some.inj e_3) ?_
        obtain ⟨hi_4, h⟩ := zb_if h
        refine va_last hx hb hK hP hD hS 12 0 rfl rfl (inb_in hi_4) dX6_keep_43 (fun H locs hP hD hS => ?_)
        have hP : va_P D vwCl (mW c4 z (tR v 26 x0.toNatClampNeg y_3)) H := hP
        have hD : va_D A (mW c4 z (tR v 26 x0.toNatClampNeg y_3)) := hD
        refine lv_iinc (v := (x0 + (1 : Int32))) (lv' := [(1, .int (x0 + (1 : Int32))), (0, .ref (z 0))]) hx hb dX6_keep_44 hl (k := 1) rfl rfl (by decide) rfl (fun ls hl => ?_)
        refine lv_goto (tgt := 24) hx hb dX6_keep_47 (by decide) ?_
        exact ih_24 (tR v 26 x0.toNatClampNeg y_3) _ _ (x0 + (1 : Int32)) hP hD hS ls (lv_sub hl [1, 0] rfl) h
  unfold pX6_keep at h
  refine lv_aload_n hx hb dX6_keep_0 rfl (lv_at hl 0 rfl) ?_
  refine lv_iconst (v := (0 : Int32)) hx hb dX6_keep_1 (by decide) ?_
  refine va_put (D := D) (ci := 5) (v := .int (0 : Int32)) (ty := .int) (C := RX6) (T := TX6) (N := 33) hx hb hts (fun w h => wm (zin_X6 w h)) tyX6 tyX6_ok nmX6 hown hK hP hD hS 0 rfl rfl 0 (by decide) (hts _ (wm zw_637)) (fun _ h9 => h9) rfl (by decide +kernel) rfl rfl (Nat.le_of_ble_eq_true rfl) dX6_keep_2 (fun H locs hP hD hS => ?_)
  have hP : va_P D vwCl (mW c4 z (tI v 0 (0 : Int32))) H := hP
  have hD : va_D A (mW c4 z (tI v 0 (0 : Int32))) := hD
  refine lv_aload_n hx hb dX6_keep_5 rfl (lv_at hl 0 rfl) ?_
  refine va_get (D := D) (ci := 5) (v := .int (Vi v 23)) (C := RX6) (T := TX6) (N := 33) hx hb hts (fun w h => wm (zin_X6 w h)) hown hK hP 0 rfl rfl 23 (by decide) (hts _ (wm zw_660)) (fun _ h9 => h9) rfl dX6_keep_6 ?_
  refine lv_if_ge (tgt := 14) hx hb dX6_keep_9 (by decide) (fun c_5 => ?_) (fun c_5 => ?_)
  · skip
    rw [if_pos c_5] at h
    refine lv_aload_n hx hb dX6_keep_14 rfl (lv_at hl 0 rfl) ?_
    refine lv_aload_n hx hb dX6_keep_15 rfl (lv_at hl 0 rfl) ?_
    refine va_get (D := D) (ci := 5) (v := .int (Vi v 23)) (C := RX6) (T := TX6) (N := 33) hx hb hts (fun w h => wm (zin_X6 w h)) hown hK hP 0 rfl rfl 23 (by decide) (hts _ (wm zw_660)) (fun _ h9 => h9) rfl dX6_keep_16 ?_
    obtain ⟨y_6, e_6, h⟩ := zb_bind h
    try dsimp only at h
    refine zt_i (Option.some.inj e_6) ?_
    refine va_put (D := D) (ci := 5) (v := .int y_6) (ty := .int) (C := RX6) (T := TX6) (N := 33) hx hb hts (fun w h => wm (zin_X6 w h)) tyX6 tyX6_ok nmX6 hown hK hP hD hS 0 rfl rfl 25 (by decide) (hts _ (wm zw_662)) (fun _ h9 => h9) rfl (by decide +kernel) rfl rfl (Nat.le_of_ble_eq_true rfl) dX6_keep_19 (fun H locs hP hD hS => ?_)
    have hP : va_P D vwCl (mW c4 z (tI (tI v 0 (0 : Int32)) 25 y_6)) H := hP
    have hD : va_D A (mW c4 z (tI (tI v 0 (0 : Int32)) 25 y_6)) := hD
    refine lv_iconst (v := (0 : Int32)) hx hb dX6_keep_22 (by decide) ?_
    refine lv_istore_n (lv' := [(1, .int (0 : Int32)), (0, .ref (z 0))]) hx hb dX6_keep_23 rfl hl (by decide) rfl (fun ls hl => ?_)
    exact k_24 300 (tI (tI v 0 (0 : Int32)) 25 y_6) _ _ (0 : Int32) hP hD hS ls (lv_sub hl [1, 0] rfl) h
  · skip
    rw [if_neg c_5] at h
    refine lv_iconst (v := (0 : Int32)) hx hb dX6_keep_12 (by decide) ?_
    exact W.zret (v := (0 : Int32)) (ty := .boolean) hx hb hr rfl (fun t ht hW => ⟨⟨(0 : Int32), (tI v 0 (0 : Int32)), rfl, (Option.some.inj h).symm, wPre_go hP hD hK hA hS ht hW.alike⟩, hS.F ht⟩) hS.2.2 dX6_keep_13
def pX6_adopt_36 : Nat → MS → Int32 → Option (MS × Int32)
  | 0, _, _ => none
  | n + 1, v, x0 => (if (Vi v 23) ≤ x0 then ((some (Vi v 23)).bind fun y_2 => (if inb (0 : Int32) 4 = true then some ((tI (tA v 2 (0 : Int32).toNatClampNeg y_2) 13 (0 : Int32)), (1 : Int32)) else none)) else (if inb x0 160 = true then ((some (Vr v 24 x0.toNatClampNeg)).bind fun y_5 => (if inb x0 256 = true then pX6_adopt_36 n (tR v 1 x0.toNatClampNeg y_5) (x0 + (1 : Int32)) else none)) else none))
theorem pX6_adopt_36_s (n : Nat) (v : MS) (x0 : Int32) : pX6_adopt_36 (n + 1) v x0 = (if (Vi v 23) ≤ x0 then ((some (Vi v 23)).bind fun y_2 => (if inb (0 : Int32) 4 = true then some ((tI (tA v 2 (0 : Int32).toNatClampNeg y_2) 13 (0 : Int32)), (1 : Int32)) else none)) else (if inb x0 160 = true then ((some (Vr v 24 x0.toNatClampNeg)).bind fun y_5 => (if inb x0 256 = true then pX6_adopt_36 n (tR v 1 x0.toNatClampNeg y_5) (x0 + (1 : Int32)) else none)) else none)) := rfl
def pX6_adopt (v : MS) : Option (MS × Int32) := (if 0 ≤ (Vi v 23) then (if inb (0 : Int32) 4 = true then (if inb (1 : Int32) 4 = true then (if inb (2 : Int32) 4 = true then (if inb (3 : Int32) 4 = true then pX6_adopt_36 300 (tA (tA (tA (tA (tI v 0 (0 : Int32)) 2 (0 : Int32).toNatClampNeg (0 : Int32)) 2 (1 : Int32).toNatClampNeg (0 : Int32)) 2 (2 : Int32).toNatClampNeg (0 : Int32)) 2 (3 : Int32).toNatClampNeg (0 : Int32)) (0 : Int32) else none) else none) else none) else none) else some ((tI v 0 (0 : Int32)), (0 : Int32)))
set_option maxHeartbeats 4000000 in
set_option maxRecDepth 100000 in
theorem ct_X6_adopt (l : Launch) (D : va_G) (c4 : Nat → ClassId) (A : Nat → Prop) (z : Nat → Nat) (v : MS) (res : MS × Int32) (h : pX6_adopt v = some res) : Met l yX6_adopt (wz yX6_adopt cX6_adopt 2 (some .boolean)) ({ frames := 0, cells := 0, slots := 0, locals := 0 } : Room) (va_Pc [.ref (z 0)] (fun U => mPre D c4 A z v U)) (va_Qi (fun q w => res = (w, q)) (fun w t => wPre D c4 A (mW c4 z w) t) A) 0 0 A := by
  refine Met.ofW (cc := cX6_adopt) (maxL := 2) (ret := (some .boolean)) (by decide) rfl ?_
  intro p e s m args below meth c s₁ B hml hv
  obtain ⟨rfl, hP, hD, hK, hA⟩ := hv
  have hx := B.exec
  have hb := B.bytes
  have hr := B.returns
  have hts := atoms_spec (ws := (wz yX6_adopt cX6_adopt 2 (some .boolean))) B.pre
  have hown : s.vm.findClass RX6 = some m.cls := findClass_of_methodNamed B.named
  have hlocks := B.notSynchronized
  have hS : va_S A s.heap s.heap [] := va_S.rf
  have hl := lv_entry ([.ref (z 0)]) (n := 2) (Nat.le_of_ble_eq_true rfl)
  rw [lg_entry_eq]
  generalize (lg_sl ([.ref (z 0)]) ++ List.replicate (2 - (lg_sl ([.ref (z 0)])).length) Slot.unset).toArray = ls at hl ⊢
  have hl : lv_has ls 2 [(0, .ref (z 0))] := hl
  have k_36 : ∀ (n_36 : Nat), ∀ (v : MS) (H : Heap) (locs : List Loc) (x0 : Int32), va_P D vwCl (mW c4 z v) H → va_D A (mW c4 z v) → va_S A s.heap H locs → ∀ (ls : Array Slot), lv_has ls 2 [(0, .ref (z 0)), (1, .int x0)] → pX6_adopt_36 n_36 v x0 = some res → W p l e ({ frames := 0, cells := 0, slots := 0, locals := 0 } : Room) s m ([.ref (z 0)] : List Value).toArray below meth c H locs 0 0 (MQ below (va_Qi (fun q w => res = (w, q)) (fun w t => wPre D c4 A (mW c4 z w) t) A) ([.ref (z 0)] : List Value).toArray s 0 0 A) (F0 m 36 ls []) := by
    intro n_36
    induction n_36 with
    | zero =>
      intro v H locs x0 hP hD hS ls hl h
      exact nomatch h
    | succ n_36 ih_36 =>
      intro v H locs x0 hP hD hS ls hl h
      rw [pX6_adopt_36_s] at h
      refine lv_iload_n hx hb dX6_adopt_36 rfl (lv_at hl 1 rfl) ?_
      refine lv_aload_n hx hb dX6_adopt_37 rfl (lv_at hl 0 rfl) ?_
      refine va_get (D := D) (ci := 5) (v := .int (Vi v 23)) (C := RX6) (T := TX6) (N := 33) hx hb hts (fun w h => wm (zin_X6 w h)) hown hK hP 0 rfl rfl 23 (by decide) (hts _ (wm zw_660)) (fun _ h9 => h9) rfl dX6_adopt_38 ?_
      refine lv_icmp_ge (tgt := 62) hx hb dX6_adopt_41 (by decide) (fun c_1 => ?_) (fun c_1 => ?_)
      · skip
        rw [if_pos c_1] at h
        refine lv_aload_n hx hb dX6_adopt_62 rfl (lv_at hl 0 rfl) ?_
        refine va_get (D := D) (ci := 5) (v := .ref (z 2)) (C := RX6) (T := TX6) (N := 33) hx hb hts (fun w h => wm (zin_X6 w h)) hown hK hP 0 rfl rfl 2 (by decide) (hts _ (wm zw_639)) (fun _ h9 => h9) rfl dX6_adopt_63 ?_
        refine lv_iconst (v := (0 : Int32)) hx hb dX6_adopt_66 (by decide) ?_
        refine lv_aload_n hx hb dX6_adopt_67 rfl (lv_at hl 0 rfl) ?_
        refine va_get (D := D) (ci := 5) (v := .int (Vi v 23)) (C := RX6) (T := TX6) (N := 33) hx hb hts (fun w h => wm (zin_X6 w h)) hown hK hP 0 rfl rfl 23 (by decide) (hts _ (wm zw_660)) (fun _ h9 => h9) rfl dX6_adopt_68 ?_
        obtain ⟨y_2, e_2, h⟩ := zb_bind h
        try dsimp only at h
        refine zt_i (Option.some.inj e_2) ?_
        obtain ⟨hi_3, h⟩ := zb_if h
        refine va_iast hx hb hK hP hD hS 2 3 rfl rfl (inb_in hi_3) dX6_adopt_71 (fun H locs hP hD hS => ?_)
        have hP : va_P D vwCl (mW c4 z (tA v 2 (0 : Int32).toNatClampNeg y_2)) H := hP
        have hD : va_D A (mW c4 z (tA v 2 (0 : Int32).toNatClampNeg y_2)) := hD
        refine lv_aload_n hx hb dX6_adopt_72 rfl (lv_at hl 0 rfl) ?_
        refine lv_iconst (v := (0 : Int32)) hx hb dX6_adopt_73 (by decide) ?_
        refine va_put (D := D) (ci := 5) (v := .int (0 : Int32)) (ty := .int) (C := RX6) (T := TX6) (N := 33) hx hb hts (fun w h => wm (zin_X6 w h)) tyX6 tyX6_ok nmX6 hown hK hP hD hS 0 rfl rfl 13 (by decide) (hts _ (wm zw_650)) (fun _ h9 => h9) rfl (by decide +kernel) rfl rfl (Nat.le_of_ble_eq_true rfl) dX6_adopt_74 (fun H locs hP hD hS => ?_)
        have hP : va_P D vwCl (mW c4 z (tI (tA v 2 (0 : Int32).toNatClampNeg y_2) 13 (0 : Int32))) H := hP
        have hD : va_D A (mW c4 z (tI (tA v 2 (0 : Int32).toNatClampNeg y_2) 13 (0 : Int32))) := hD
        refine lv_iconst (v := (1 : Int32)) hx hb dX6_adopt_77 (by decide) ?_
        exact W.zret (v := (1 : Int32)) (ty := .boolean) hx hb hr rfl (fun t ht hW => ⟨⟨(1 : Int32), (tI (tA v 2 (0 : Int32).toNatClampNeg y_2) 13 (0 : Int32)), rfl, (Option.some.inj h).symm, wPre_go hP hD hK hA hS ht hW.alike⟩, hS.F ht⟩) hS.2.2 dX6_adopt_78
      · skip
        rw [if_neg c_1] at h
        refine lv_aload_n hx hb dX6_adopt_44 rfl (lv_at hl 0 rfl) ?_
        refine va_get (D := D) (ci := 5) (v := .ref (z 1)) (C := RX6) (T := TX6) (N := 33) hx hb hts (fun w h => wm (zin_X6 w h)) hown hK hP 0 rfl rfl 1 (by decide) (hts _ (wm zw_638)) (fun _ h9 => h9) rfl dX6_adopt_45 ?_
        refine lv_iload_n hx hb dX6_adopt_48 rfl (lv_at hl 1 rfl) ?_
        refine lv_aload_n hx hb dX6_adopt_49 rfl (lv_at hl 0 rfl) ?_
        refine va_get (D := D) (ci := 5) (v := .ref (z 24)) (C := RX6) (T := TX6) (N := 33) hx hb hts (fun w h => wm (zin_X6 w h)) hown hK hP 0 rfl rfl 24 (by decide) (hts _ (wm zw_661)) (fun _ h9 => h9) rfl dX6_adopt_50 ?_
        refine lv_iload_n hx hb dX6_adopt_53 rfl (lv_at hl 1 rfl) ?_
        obtain ⟨hi_4, h⟩ := zb_if h
        refine va_lald hx hb hK hP 11 0 rfl rfl (inb_in hi_4) dX6_adopt_54 ?_
        refine W.eq (g2 := F0 m 55 ls ([.long (Vr v 24 x0.toNatClampNeg), .int x0, .ref (z 1)])) rfl ?_
        obtain ⟨y_5, e_5, h⟩ := zb_bind h
        try dsimp only at h
        refine zt_l (Option.some.inj e_5) ?_
        obtain ⟨hi_6, h⟩ := zb_if h
        refine va_last hx hb hK hP hD hS 1 0 rfl rfl (inb_in hi_6) dX6_adopt_55 (fun H locs hP hD hS => ?_)
        have hP : va_P D vwCl (mW c4 z (tR v 1 x0.toNatClampNeg y_5)) H := hP
        have hD : va_D A (mW c4 z (tR v 1 x0.toNatClampNeg y_5)) := hD
        refine lv_iinc (v := (x0 + (1 : Int32))) (lv' := [(1, .int (x0 + (1 : Int32))), (0, .ref (z 0))]) hx hb dX6_adopt_56 hl (k := 1) rfl rfl (by decide) rfl (fun ls hl => ?_)
        refine lv_goto (tgt := 36) hx hb dX6_adopt_59 (by decide) ?_
        exact ih_36 (tR v 1 x0.toNatClampNeg y_5) _ _ (x0 + (1 : Int32)) hP hD hS ls (lv_sub hl [1, 0] rfl) h
  unfold pX6_adopt at h
  refine lv_aload_n hx hb dX6_adopt_0 rfl (lv_at hl 0 rfl) ?_
  refine lv_iconst (v := (0 : Int32)) hx hb dX6_adopt_1 (by decide) ?_
  refine va_put (D := D) (ci := 5) (v := .int (0 : Int32)) (ty := .int) (C := RX6) (T := TX6) (N := 33) hx hb hts (fun w h => wm (zin_X6 w h)) tyX6 tyX6_ok nmX6 hown hK hP hD hS 0 rfl rfl 0 (by decide) (hts _ (wm zw_637)) (fun _ h9 => h9) rfl (by decide +kernel) rfl rfl (Nat.le_of_ble_eq_true rfl) dX6_adopt_2 (fun H locs hP hD hS => ?_)
  have hP : va_P D vwCl (mW c4 z (tI v 0 (0 : Int32))) H := hP
  have hD : va_D A (mW c4 z (tI v 0 (0 : Int32))) := hD
  refine lv_aload_n hx hb dX6_adopt_5 rfl (lv_at hl 0 rfl) ?_
  refine va_get (D := D) (ci := 5) (v := .int (Vi v 23)) (C := RX6) (T := TX6) (N := 33) hx hb hts (fun w h => wm (zin_X6 w h)) hown hK hP 0 rfl rfl 23 (by decide) (hts _ (wm zw_660)) (fun _ h9 => h9) rfl dX6_adopt_6 ?_
  refine lv_if_ge (tgt := 14) hx hb dX6_adopt_9 (by decide) (fun c_7 => ?_) (fun c_7 => ?_)
  · skip
    rw [if_pos c_7] at h
    refine lv_iconst (v := (0 : Int32)) hx hb dX6_adopt_14 (by decide) ?_
    refine lv_istore_n (lv' := [(1, .int (0 : Int32)), (0, .ref (z 0))]) hx hb dX6_adopt_15 rfl hl (by decide) rfl (fun ls hl => ?_)
    refine lv_iload_n hx hb dX6_adopt_16 rfl (lv_at hl 0 rfl) ?_
    refine lv_iconst (v := (4 : Int32)) hx hb dX6_adopt_17 (by decide) ?_
    refine lv_icmp_ge (tgt := 34) hx hb dX6_adopt_18 (by decide) (fun c_8 => ?_) (fun c_8 => ?_)
    · exact absurd c_8 (by decide)
    · skip
      refine lv_aload_n hx hb dX6_adopt_21 rfl (lv_at hl 1 rfl) ?_
      refine va_get (D := D) (ci := 5) (v := .ref (z 2)) (C := RX6) (T := TX6) (N := 33) hx hb hts (fun w h => wm (zin_X6 w h)) hown hK hP 0 rfl rfl 2 (by decide) (hts _ (wm zw_639)) (fun _ h9 => h9) rfl dX6_adopt_22 ?_
      refine lv_iload_n hx hb dX6_adopt_25 rfl (lv_at hl 0 rfl) ?_
      refine lv_iconst (v := (0 : Int32)) hx hb dX6_adopt_26 (by decide) ?_
      obtain ⟨hi_9, h⟩ := zb_if h
      refine va_iast hx hb hK hP hD hS 2 3 rfl rfl (inb_in hi_9) dX6_adopt_27 (fun H locs hP hD hS => ?_)
      have hP : va_P D vwCl (mW c4 z (tA (tI v 0 (0 : Int32)) 2 (0 : Int32).toNatClampNeg (0 : Int32))) H := hP
      have hD : va_D A (mW c4 z (tA (tI v 0 (0 : Int32)) 2 (0 : Int32).toNatClampNeg (0 : Int32))) := hD
      refine lv_iinc (v := (1 : Int32)) (lv' := [(1, .int (1 : Int32)), (0, .ref (z 0))]) hx hb dX6_adopt_28 hl (k := 0) rfl rfl (by decide) rfl (fun ls hl => ?_)
      refine lv_goto (tgt := 16) hx hb dX6_adopt_31 (by decide) ?_
      refine lv_iload_n hx hb dX6_adopt_16 rfl (lv_at hl 0 rfl) ?_
      refine lv_iconst (v := (4 : Int32)) hx hb dX6_adopt_17 (by decide) ?_
      refine lv_icmp_ge (tgt := 34) hx hb dX6_adopt_18 (by decide) (fun c_10 => ?_) (fun c_10 => ?_)
      · exact absurd c_10 (by decide)
      · skip
        refine lv_aload_n hx hb dX6_adopt_21 rfl (lv_at hl 1 rfl) ?_
        refine va_get (D := D) (ci := 5) (v := .ref (z 2)) (C := RX6) (T := TX6) (N := 33) hx hb hts (fun w h => wm (zin_X6 w h)) hown hK hP 0 rfl rfl 2 (by decide) (hts _ (wm zw_639)) (fun _ h9 => h9) rfl dX6_adopt_22 ?_
        refine lv_iload_n hx hb dX6_adopt_25 rfl (lv_at hl 0 rfl) ?_
        refine lv_iconst (v := (0 : Int32)) hx hb dX6_adopt_26 (by decide) ?_
        obtain ⟨hi_11, h⟩ := zb_if h
        refine va_iast hx hb hK hP hD hS 2 3 rfl rfl (inb_in hi_11) dX6_adopt_27 (fun H locs hP hD hS => ?_)
        have hP : va_P D vwCl (mW c4 z (tA (tA (tI v 0 (0 : Int32)) 2 (0 : Int32).toNatClampNeg (0 : Int32)) 2 (1 : Int32).toNatClampNeg (0 : Int32))) H := hP
        have hD : va_D A (mW c4 z (tA (tA (tI v 0 (0 : Int32)) 2 (0 : Int32).toNatClampNeg (0 : Int32)) 2 (1 : Int32).toNatClampNeg (0 : Int32))) := hD
        refine lv_iinc (v := (2 : Int32)) (lv' := [(1, .int (2 : Int32)), (0, .ref (z 0))]) hx hb dX6_adopt_28 hl (k := 0) rfl rfl (by decide) rfl (fun ls hl => ?_)
        refine lv_goto (tgt := 16) hx hb dX6_adopt_31 (by decide) ?_
        refine lv_iload_n hx hb dX6_adopt_16 rfl (lv_at hl 0 rfl) ?_
        refine lv_iconst (v := (4 : Int32)) hx hb dX6_adopt_17 (by decide) ?_
        refine lv_icmp_ge (tgt := 34) hx hb dX6_adopt_18 (by decide) (fun c_12 => ?_) (fun c_12 => ?_)
        · exact absurd c_12 (by decide)
        · skip
          refine lv_aload_n hx hb dX6_adopt_21 rfl (lv_at hl 1 rfl) ?_
          refine va_get (D := D) (ci := 5) (v := .ref (z 2)) (C := RX6) (T := TX6) (N := 33) hx hb hts (fun w h => wm (zin_X6 w h)) hown hK hP 0 rfl rfl 2 (by decide) (hts _ (wm zw_639)) (fun _ h9 => h9) rfl dX6_adopt_22 ?_
          refine lv_iload_n hx hb dX6_adopt_25 rfl (lv_at hl 0 rfl) ?_
          refine lv_iconst (v := (0 : Int32)) hx hb dX6_adopt_26 (by decide) ?_
          obtain ⟨hi_13, h⟩ := zb_if h
          refine va_iast hx hb hK hP hD hS 2 3 rfl rfl (inb_in hi_13) dX6_adopt_27 (fun H locs hP hD hS => ?_)
          have hP : va_P D vwCl (mW c4 z (tA (tA (tA (tI v 0 (0 : Int32)) 2 (0 : Int32).toNatClampNeg (0 : Int32)) 2 (1 : Int32).toNatClampNeg (0 : Int32)) 2 (2 : Int32).toNatClampNeg (0 : Int32))) H := hP
          have hD : va_D A (mW c4 z (tA (tA (tA (tI v 0 (0 : Int32)) 2 (0 : Int32).toNatClampNeg (0 : Int32)) 2 (1 : Int32).toNatClampNeg (0 : Int32)) 2 (2 : Int32).toNatClampNeg (0 : Int32))) := hD
          refine lv_iinc (v := (3 : Int32)) (lv' := [(1, .int (3 : Int32)), (0, .ref (z 0))]) hx hb dX6_adopt_28 hl (k := 0) rfl rfl (by decide) rfl (fun ls hl => ?_)
          refine lv_goto (tgt := 16) hx hb dX6_adopt_31 (by decide) ?_
          refine lv_iload_n hx hb dX6_adopt_16 rfl (lv_at hl 0 rfl) ?_
          refine lv_iconst (v := (4 : Int32)) hx hb dX6_adopt_17 (by decide) ?_
          refine lv_icmp_ge (tgt := 34) hx hb dX6_adopt_18 (by decide) (fun c_14 => ?_) (fun c_14 => ?_)
          · exact absurd c_14 (by decide)
          · skip
            refine lv_aload_n hx hb dX6_adopt_21 rfl (lv_at hl 1 rfl) ?_
            refine va_get (D := D) (ci := 5) (v := .ref (z 2)) (C := RX6) (T := TX6) (N := 33) hx hb hts (fun w h => wm (zin_X6 w h)) hown hK hP 0 rfl rfl 2 (by decide) (hts _ (wm zw_639)) (fun _ h9 => h9) rfl dX6_adopt_22 ?_
            refine lv_iload_n hx hb dX6_adopt_25 rfl (lv_at hl 0 rfl) ?_
            refine lv_iconst (v := (0 : Int32)) hx hb dX6_adopt_26 (by decide) ?_
            obtain ⟨hi_15, h⟩ := zb_if h
            refine va_iast hx hb hK hP hD hS 2 3 rfl rfl (inb_in hi_15) dX6_adopt_27 (fun H locs hP hD hS => ?_)
            have hP : va_P D vwCl (mW c4 z (tA (tA (tA (tA (tI v 0 (0 : Int32)) 2 (0 : Int32).toNatClampNeg (0 : Int32)) 2 (1 : Int32).toNatClampNeg (0 : Int32)) 2 (2 : Int32).toNatClampNeg (0 : Int32)) 2 (3 : Int32).toNatClampNeg (0 : Int32))) H := hP
            have hD : va_D A (mW c4 z (tA (tA (tA (tA (tI v 0 (0 : Int32)) 2 (0 : Int32).toNatClampNeg (0 : Int32)) 2 (1 : Int32).toNatClampNeg (0 : Int32)) 2 (2 : Int32).toNatClampNeg (0 : Int32)) 2 (3 : Int32).toNatClampNeg (0 : Int32))) := hD
            refine lv_iinc (v := (4 : Int32)) (lv' := [(1, .int (4 : Int32)), (0, .ref (z 0))]) hx hb dX6_adopt_28 hl (k := 0) rfl rfl (by decide) rfl (fun ls hl => ?_)
            refine lv_goto (tgt := 16) hx hb dX6_adopt_31 (by decide) ?_
            refine lv_iload_n hx hb dX6_adopt_16 rfl (lv_at hl 0 rfl) ?_
            refine lv_iconst (v := (4 : Int32)) hx hb dX6_adopt_17 (by decide) ?_
            refine lv_icmp_ge (tgt := 34) hx hb dX6_adopt_18 (by decide) (fun c_16 => ?_) (fun c_16 => ?_)
            · skip
              refine lv_iconst (v := (0 : Int32)) hx hb dX6_adopt_34 (by decide) ?_
              refine lv_istore_n (lv' := [(1, .int (0 : Int32)), (0, .ref (z 0))]) hx hb dX6_adopt_35 rfl hl (by decide) rfl (fun ls hl => ?_)
              exact k_36 300 (tA (tA (tA (tA (tI v 0 (0 : Int32)) 2 (0 : Int32).toNatClampNeg (0 : Int32)) 2 (1 : Int32).toNatClampNeg (0 : Int32)) 2 (2 : Int32).toNatClampNeg (0 : Int32)) 2 (3 : Int32).toNatClampNeg (0 : Int32)) _ _ (0 : Int32) hP hD hS ls (lv_sub hl [1, 0] rfl) h
            · exact absurd c_16 (by decide)
  · skip
    rw [if_neg c_7] at h
    refine lv_iconst (v := (0 : Int32)) hx hb dX6_adopt_12 (by decide) ?_
    exact W.zret (v := (0 : Int32)) (ty := .boolean) hx hb hr rfl (fun t ht hW => ⟨⟨(0 : Int32), (tI v 0 (0 : Int32)), rfl, (Option.some.inj h).symm, wPre_go hP hD hK hA hS ht hW.alike⟩, hS.F ht⟩) hS.2.2 dX6_adopt_13
def pX6_same_31 : Nat → MS → Int32 → Int32 → Option (MS × Int32)
  | 0, _, _, _ => none
  | n + 1, v, x0, x1 => (if (Vi v 23) ≤ x1 then (if x0 = 0 ∨ x0 = 1 then some (v, x0) else none) else (if x0 = 0 then pX6_same_31 n v (0 : Int32) (x1 + (1 : Int32)) else (if inb x1 160 = true then (if inb x1 160 = true then (if (Vr v 24 x1.toNatClampNeg) = (Vr v 26 x1.toNatClampNeg) then pX6_same_31 n v (1 : Int32) (x1 + (1 : Int32)) else pX6_same_31 n v (0 : Int32) (x1 + (1 : Int32))) else none) else none)))
theorem pX6_same_31_s (n : Nat) (v : MS) (x0 : Int32) (x1 : Int32) : pX6_same_31 (n + 1) v x0 x1 = (if (Vi v 23) ≤ x1 then (if x0 = 0 ∨ x0 = 1 then some (v, x0) else none) else (if x0 = 0 then pX6_same_31 n v (0 : Int32) (x1 + (1 : Int32)) else (if inb x1 160 = true then (if inb x1 160 = true then (if (Vr v 24 x1.toNatClampNeg) = (Vr v 26 x1.toNatClampNeg) then pX6_same_31 n v (1 : Int32) (x1 + (1 : Int32)) else pX6_same_31 n v (0 : Int32) (x1 + (1 : Int32))) else none) else none))) := rfl
def pX6_same (v : MS) : Option (MS × Int32) := (if (Vi v 23) < 0 then pX6_same_31 300 (tI v 0 (0 : Int32)) (0 : Int32) (0 : Int32) else (if (Vi v 23) = (Vi v 25) then pX6_same_31 300 (tI v 0 (0 : Int32)) (1 : Int32) (0 : Int32) else pX6_same_31 300 (tI v 0 (0 : Int32)) (0 : Int32) (0 : Int32)))
set_option maxHeartbeats 4000000 in
set_option maxRecDepth 100000 in
theorem ct_X6_same (l : Launch) (D : va_G) (c4 : Nat → ClassId) (A : Nat → Prop) (z : Nat → Nat) (v : MS) (res : MS × Int32) (h : pX6_same v = some res) : Met l yX6_same (wz yX6_same cX6_same 3 (some .boolean)) ({ frames := 0, cells := 0, slots := 0, locals := 0 } : Room) (va_Pc [.ref (z 0)] (fun U => mPre D c4 A z v U)) (va_Qi (fun q w => res = (w, q)) (fun w t => wPre D c4 A (mW c4 z w) t) A) 0 0 A := by
  refine Met.ofW (cc := cX6_same) (maxL := 3) (ret := (some .boolean)) (by decide) rfl ?_
  intro p e s m args below meth c s₁ B hml hv
  obtain ⟨rfl, hP, hD, hK, hA⟩ := hv
  have hx := B.exec
  have hb := B.bytes
  have hr := B.returns
  have hts := atoms_spec (ws := (wz yX6_same cX6_same 3 (some .boolean))) B.pre
  have hown : s.vm.findClass RX6 = some m.cls := findClass_of_methodNamed B.named
  have hlocks := B.notSynchronized
  have hS : va_S A s.heap s.heap [] := va_S.rf
  have hl := lv_entry ([.ref (z 0)]) (n := 3) (Nat.le_of_ble_eq_true rfl)
  rw [lg_entry_eq]
  generalize (lg_sl ([.ref (z 0)]) ++ List.replicate (3 - (lg_sl ([.ref (z 0)])).length) Slot.unset).toArray = ls at hl ⊢
  have hl : lv_has ls 3 [(0, .ref (z 0))] := hl
  have k_31 : ∀ (n_31 : Nat), ∀ (v : MS) (H : Heap) (locs : List Loc) (x0 : Int32) (x1 : Int32), va_P D vwCl (mW c4 z v) H → va_D A (mW c4 z v) → va_S A s.heap H locs → ∀ (ls : Array Slot), lv_has ls 3 [(0, .ref (z 0)), (1, .int x0), (2, .int x1)] → pX6_same_31 n_31 v x0 x1 = some res → W p l e ({ frames := 0, cells := 0, slots := 0, locals := 0 } : Room) s m ([.ref (z 0)] : List Value).toArray below meth c H locs 0 0 (MQ below (va_Qi (fun q w => res = (w, q)) (fun w t => wPre D c4 A (mW c4 z w) t) A) ([.ref (z 0)] : List Value).toArray s 0 0 A) (F0 m 31 ls []) := by
    intro n_31
    induction n_31 with
    | zero =>
      intro v H locs x0 x1 hP hD hS ls hl h
      exact nomatch h
    | succ n_31 ih_31 =>
      intro v H locs x0 x1 hP hD hS ls hl h
      rw [pX6_same_31_s] at h
      refine lv_iload_n hx hb dX6_same_31 rfl (lv_at hl 2 rfl) ?_
      refine lv_aload_n hx hb dX6_same_32 rfl (lv_at hl 0 rfl) ?_
      refine va_get (D := D) (ci := 5) (v := .int (Vi v 23)) (C := RX6) (T := TX6) (N := 33) hx hb hts (fun w h => wm (zin_X6 w h)) hown hK hP 0 rfl rfl 23 (by decide) (hts _ (wm zw_660)) (fun _ h9 => h9) rfl dX6_same_33 ?_
      refine lv_icmp_ge (tgt := 71) hx hb dX6_same_36 (by decide) (fun c_1 => ?_) (fun c_1 => ?_)
      · skip
        rw [if_pos c_1] at h
        refine lv_iload_n hx hb dX6_same_71 rfl (lv_at hl 1 rfl) ?_
        obtain ⟨hi_2, h⟩ := zb_if h
        exact W.zret (v := x0) (ty := .boolean) hx hb hr (znb hi_2) (fun t ht hW => ⟨⟨x0, v, rfl, (Option.some.inj h).symm, wPre_go hP hD hK hA hS ht hW.alike⟩, hS.F ht⟩) hS.2.2 dX6_same_72
      · skip
        rw [if_neg c_1] at h
        refine lv_iload_n hx hb dX6_same_39 rfl (lv_at hl 1 rfl) ?_
        refine lv_if_eq (tgt := 63) hx hb dX6_same_40 (by decide) (fun c_3 => ?_) (fun c_3 => ?_)
        · skip
          rw [if_pos c_3] at h
          refine lv_iconst (v := (0 : Int32)) hx hb dX6_same_63 (by decide) ?_
          refine lv_istore_n (lv' := [(1, .int (0 : Int32)), (0, .ref (z 0)), (2, .int x1)]) hx hb dX6_same_64 rfl hl (by decide) rfl (fun ls hl => ?_)
          refine lv_iinc (v := (x1 + (1 : Int32))) (lv' := [(2, .int (x1 + (1 : Int32))), (1, .int (0 : Int32)), (0, .ref (z 0))]) hx hb dX6_same_65 hl (k := 2) rfl rfl (by decide) rfl (fun ls hl => ?_)
          refine lv_goto (tgt := 31) hx hb dX6_same_68 (by decide) ?_
          exact ih_31 v _ _ (0 : Int32) (x1 + (1 : Int32)) hP hD hS ls (lv_sub hl [2, 1, 0] rfl) h
        · skip
          rw [if_neg c_3] at h
          refine lv_aload_n hx hb dX6_same_43 rfl (lv_at hl 0 rfl) ?_
          refine va_get (D := D) (ci := 5) (v := .ref (z 24)) (C := RX6) (T := TX6) (N := 33) hx hb hts (fun w h => wm (zin_X6 w h)) hown hK hP 0 rfl rfl 24 (by decide) (hts _ (wm zw_661)) (fun _ h9 => h9) rfl dX6_same_44 ?_
          refine lv_iload_n hx hb dX6_same_47 rfl (lv_at hl 2 rfl) ?_
          obtain ⟨hi_4, h⟩ := zb_if h
          refine va_lald hx hb hK hP 11 0 rfl rfl (inb_in hi_4) dX6_same_48 ?_
          refine W.eq (g2 := F0 m 49 ls ([.long (Vr v 24 x1.toNatClampNeg)])) rfl ?_
          refine lv_aload_n hx hb dX6_same_49 rfl (lv_at hl 0 rfl) ?_
          refine va_get (D := D) (ci := 5) (v := .ref (z 26)) (C := RX6) (T := TX6) (N := 33) hx hb hts (fun w h => wm (zin_X6 w h)) hown hK hP 0 rfl rfl 26 (by decide) (hts _ (wm zw_663)) (fun _ h9 => h9) rfl dX6_same_50 ?_
          refine lv_iload_n hx hb dX6_same_53 rfl (lv_at hl 2 rfl) ?_
          obtain ⟨hi_5, h⟩ := zb_if h
          refine va_lald hx hb hK hP 12 0 rfl rfl (inb_in hi_5) dX6_same_54 ?_
          refine W.eq (g2 := F0 m 55 ls ([.long (Vr v 26 x1.toNatClampNeg), .long (Vr v 24 x1.toNatClampNeg)])) rfl ?_
          refine W.lcmp hx hb dX6_same_55 ?_
          refine lv_if_ne (tgt := 63) hx hb dX6_same_56 (by decide) (fun c_6 => ?_) (fun c_6 => ?_)
          · skip
            have c_6 := mt (lg_cmp_eq _ _).mpr c_6
            rw [if_neg c_6] at h
            refine lv_iconst (v := (0 : Int32)) hx hb dX6_same_63 (by decide) ?_
            refine lv_istore_n (lv' := [(1, .int (0 : Int32)), (0, .ref (z 0)), (2, .int x1)]) hx hb dX6_same_64 rfl hl (by decide) rfl (fun ls hl => ?_)
            refine lv_iinc (v := (x1 + (1 : Int32))) (lv' := [(2, .int (x1 + (1 : Int32))), (1, .int (0 : Int32)), (0, .ref (z 0))]) hx hb dX6_same_65 hl (k := 2) rfl rfl (by decide) rfl (fun ls hl => ?_)
            refine lv_goto (tgt := 31) hx hb dX6_same_68 (by decide) ?_
            exact ih_31 v _ _ (0 : Int32) (x1 + (1 : Int32)) hP hD hS ls (lv_sub hl [2, 1, 0] rfl) h
          · skip
            have c_6 := (lg_cmp_eq _ _).mp c_6
            rw [if_pos c_6] at h
            refine lv_iconst (v := (1 : Int32)) hx hb dX6_same_59 (by decide) ?_
            refine lv_goto (tgt := 64) hx hb dX6_same_60 (by decide) ?_
            refine lv_istore_n (lv' := [(1, .int (1 : Int32)), (0, .ref (z 0)), (2, .int x1)]) hx hb dX6_same_64 rfl hl (by decide) rfl (fun ls hl => ?_)
            refine lv_iinc (v := (x1 + (1 : Int32))) (lv' := [(2, .int (x1 + (1 : Int32))), (1, .int (1 : Int32)), (0, .ref (z 0))]) hx hb dX6_same_65 hl (k := 2) rfl rfl (by decide) rfl (fun ls hl => ?_)
            refine lv_goto (tgt := 31) hx hb dX6_same_68 (by decide) ?_
            exact ih_31 v _ _ (1 : Int32) (x1 + (1 : Int32)) hP hD hS ls (lv_sub hl [2, 1, 0] rfl) h
  unfold pX6_same at h
  refine lv_aload_n hx hb dX6_same_0 rfl (lv_at hl 0 rfl) ?_
  refine lv_iconst (v := (0 : Int32)) hx hb dX6_same_1 (by decide) ?_
  refine va_put (D := D) (ci := 5) (v := .int (0 : Int32)) (ty := .int) (C := RX6) (T := TX6) (N := 33) hx hb hts (fun w h => wm (zin_X6 w h)) tyX6 tyX6_ok nmX6 hown hK hP hD hS 0 rfl rfl 0 (by decide) (hts _ (wm zw_637)) (fun _ h9 => h9) rfl (by decide +kernel) rfl rfl (Nat.le_of_ble_eq_true rfl) dX6_same_2 (fun H locs hP hD hS => ?_)
  have hP : va_P D vwCl (mW c4 z (tI v 0 (0 : Int32))) H := hP
  have hD : va_D A (mW c4 z (tI v 0 (0 : Int32))) := hD
  refine lv_aload_n hx hb dX6_same_5 rfl (lv_at hl 0 rfl) ?_
  refine va_get (D := D) (ci := 5) (v := .int (Vi v 23)) (C := RX6) (T := TX6) (N := 33) hx hb hts (fun w h => wm (zin_X6 w h)) hown hK hP 0 rfl rfl 23 (by decide) (hts _ (wm zw_660)) (fun _ h9 => h9) rfl dX6_same_6 ?_
  refine lv_if_lt (tgt := 27) hx hb dX6_same_9 (by decide) (fun c_7 => ?_) (fun c_7 => ?_)
  · skip
    rw [if_pos c_7] at h
    refine lv_iconst (v := (0 : Int32)) hx hb dX6_same_27 (by decide) ?_
    refine lv_istore_n (lv' := [(1, .int (0 : Int32)), (0, .ref (z 0))]) hx hb dX6_same_28 rfl hl (by decide) rfl (fun ls hl => ?_)
    refine lv_iconst (v := (0 : Int32)) hx hb dX6_same_29 (by decide) ?_
    refine lv_istore_n (lv' := [(2, .int (0 : Int32)), (1, .int (0 : Int32)), (0, .ref (z 0))]) hx hb dX6_same_30 rfl hl (by decide) rfl (fun ls hl => ?_)
    exact k_31 300 (tI v 0 (0 : Int32)) _ _ (0 : Int32) (0 : Int32) hP hD hS ls (lv_sub hl [2, 1, 0] rfl) h
  · skip
    rw [if_neg c_7] at h
    refine lv_aload_n hx hb dX6_same_12 rfl (lv_at hl 0 rfl) ?_
    refine va_get (D := D) (ci := 5) (v := .int (Vi v 23)) (C := RX6) (T := TX6) (N := 33) hx hb hts (fun w h => wm (zin_X6 w h)) hown hK hP 0 rfl rfl 23 (by decide) (hts _ (wm zw_660)) (fun _ h9 => h9) rfl dX6_same_13 ?_
    refine lv_aload_n hx hb dX6_same_16 rfl (lv_at hl 0 rfl) ?_
    refine va_get (D := D) (ci := 5) (v := .int (Vi v 25)) (C := RX6) (T := TX6) (N := 33) hx hb hts (fun w h => wm (zin_X6 w h)) hown hK hP 0 rfl rfl 25 (by decide) (hts _ (wm zw_662)) (fun _ h9 => h9) rfl dX6_same_17 ?_
    refine lv_icmp_ne (tgt := 27) hx hb dX6_same_20 (by decide) (fun c_8 => ?_) (fun c_8 => ?_)
    · skip
      rw [if_neg c_8] at h
      refine lv_iconst (v := (0 : Int32)) hx hb dX6_same_27 (by decide) ?_
      refine lv_istore_n (lv' := [(1, .int (0 : Int32)), (0, .ref (z 0))]) hx hb dX6_same_28 rfl hl (by decide) rfl (fun ls hl => ?_)
      refine lv_iconst (v := (0 : Int32)) hx hb dX6_same_29 (by decide) ?_
      refine lv_istore_n (lv' := [(2, .int (0 : Int32)), (1, .int (0 : Int32)), (0, .ref (z 0))]) hx hb dX6_same_30 rfl hl (by decide) rfl (fun ls hl => ?_)
      exact k_31 300 (tI v 0 (0 : Int32)) _ _ (0 : Int32) (0 : Int32) hP hD hS ls (lv_sub hl [2, 1, 0] rfl) h
    · skip
      rw [if_pos c_8] at h
      refine lv_iconst (v := (1 : Int32)) hx hb dX6_same_23 (by decide) ?_
      refine lv_goto (tgt := 28) hx hb dX6_same_24 (by decide) ?_
      refine lv_istore_n (lv' := [(1, .int (1 : Int32)), (0, .ref (z 0))]) hx hb dX6_same_28 rfl hl (by decide) rfl (fun ls hl => ?_)
      refine lv_iconst (v := (0 : Int32)) hx hb dX6_same_29 (by decide) ?_
      refine lv_istore_n (lv' := [(2, .int (0 : Int32)), (1, .int (1 : Int32)), (0, .ref (z 0))]) hx hb dX6_same_30 rfl hl (by decide) rfl (fun ls hl => ?_)
      exact k_31 300 (tI v 0 (0 : Int32)) _ _ (1 : Int32) (0 : Int32) hP hD hS ls (lv_sub hl [2, 1, 0] rfl) h
