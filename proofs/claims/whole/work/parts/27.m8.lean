def pX6_write (v : MS) (a1 : Int32) (a2 : Int32) : Option (MS × Unit) := ((some ((Vi v 27) - ((Vl v 12).toInt32))).bind fun y_1 => (if (Vi v 5) = 0 then ((pX6_writeStruct (tI v 27 y_1) a1 a2).bind fun x_6 => some ((x_6.1), ())) else (if (8 : Int32) ≤ (Vi v 5) then ((pX6_writeElements (tI v 27 y_1) a1 a2).bind fun x_4 => some ((x_4.1), ())) else ((pX6_writeList (tI v 27 y_1) a1 a2).bind fun x_5 => some ((x_5.1), ())))))
set_option maxHeartbeats 4000000 in
set_option maxRecDepth 100000 in
theorem ct_X6_write (l : Launch) (D : va_G) (c4 : Nat → ClassId) (A : Nat → Prop) (z : Nat → Nat) (v : MS) (a1 : Int32) (a2 : Int32) (res : MS × Unit) (h : pX6_write v a1 a2 = some res) : Met l yX6_write (wz yX6_write cX6_write 3 none) ({ frames := 2, cells := 0, slots := 0, locals := 54 } : Room) (va_Pc [.ref (z 0), .int a1, .int a2] (fun U => mPre D c4 A z v U)) (va_Qv (fun w => res = (w, ())) (fun w t => wPre D c4 A (mW c4 z w) t) A) 0 0 A := by
  refine Met.ofW (cc := cX6_write) (maxL := 3) (ret := none) (by decide) rfl ?_
  intro p e s m args below meth c s₁ B hml hv
  obtain ⟨rfl, hP, hD, hK, hA⟩ := hv
  have hx := B.exec
  have hb := B.bytes
  have hr := B.returns
  have hts := atoms_spec (ws := (wz yX6_write cX6_write 3 none)) B.pre
  have hown : s.vm.findClass RX6 = some m.cls := findClass_of_methodNamed B.named
  have hlocks := B.notSynchronized
  have hS : va_S A s.heap s.heap [] := va_S.rf
  have hl := lv_entry ([.ref (z 0), .int a1, .int a2]) (n := 3) (Nat.le_of_ble_eq_true rfl)
  rw [lg_entry_eq]
  generalize (lg_sl ([.ref (z 0), .int a1, .int a2]) ++ List.replicate (3 - (lg_sl ([.ref (z 0), .int a1, .int a2])).length) Slot.unset).toArray = ls at hl ⊢
  have hl : lv_has ls 3 [(0, .ref (z 0)), (1, .int a1), (2, .int a2)] := hl
  unfold pX6_write at h
  refine lv_aload_n hx hb dX6_write_0 rfl (lv_at hl 0 rfl) ?_
  refine lv_aload_n hx hb dX6_write_1 rfl (lv_at hl 0 rfl) ?_
  refine va_get (D := D) (ci := 5) (v := .int (Vi v 27)) (C := RX6) (T := TX6) (N := 33) hx hb hts (fun w h => wm (zin_X6 w h)) hown hK hP 0 rfl rfl 27 (by decide) (hts _ (wm zw_664)) (fun _ h9 => h9) rfl dX6_write_2 ?_
  refine lv_aload_n hx hb dX6_write_5 rfl (lv_at hl 0 rfl) ?_
  refine va_get (D := D) (ci := 5) (v := .long (Vl v 12)) (C := RX6) (T := TX6) (N := 33) hx hb hts (fun w h => wm (zin_X6 w h)) hown hK hP 0 rfl rfl 12 (by decide) (hts _ (wm zw_649)) (fun _ h9 => h9) rfl dX6_write_6 ?_
  refine lv_l2i hx hb dX6_write_9 rfl ?_
  refine lv_isub hx hb dX6_write_10 ?_
  obtain ⟨y_1, e_1, h⟩ := zb_bind h
  try dsimp only at h
  refine zt_i (Option.some.inj e_1) ?_
  refine va_put (D := D) (ci := 5) (v := .int y_1) (ty := .int) (C := RX6) (T := TX6) (N := 33) hx hb hts (fun w h => wm (zin_X6 w h)) tyX6 tyX6_ok nmX6 hown hK hP hD hS 0 rfl rfl 27 (by decide) (hts _ (wm zw_664)) (fun _ h9 => h9) rfl (by decide +kernel) rfl rfl (Nat.le_of_ble_eq_true rfl) dX6_write_11 (fun H locs hP hD hS => ?_)
  have hP : va_P D vwCl (mW c4 z (tI v 27 y_1)) H := hP
  have hD : va_D A (mW c4 z (tI v 27 y_1)) := hD
  refine lv_aload_n hx hb dX6_write_14 rfl (lv_at hl 0 rfl) ?_
  refine va_get (D := D) (ci := 5) (v := .int (Vi v 5)) (C := RX6) (T := TX6) (N := 33) hx hb hts (fun w h => wm (zin_X6 w h)) hown hK hP 0 rfl rfl 5 (by decide) (hts _ (wm zw_642)) (fun _ h9 => h9) rfl dX6_write_15 ?_
  refine lv_if_ne (tgt := 30) hx hb dX6_write_18 (by decide) (fun c_2 => ?_) (fun c_2 => ?_)
  · skip
    rw [if_neg c_2] at h
    refine lv_aload_n hx hb dX6_write_30 rfl (lv_at hl 0 rfl) ?_
    refine va_get (D := D) (ci := 5) (v := .int (Vi v 5)) (C := RX6) (T := TX6) (N := 33) hx hb hts (fun w h => wm (zin_X6 w h)) hown hK hP 0 rfl rfl 5 (by decide) (hts _ (wm zw_642)) (fun _ h9 => h9) rfl dX6_write_31 ?_
    refine lv_bipush (v := (8 : Int32)) hx hb dX6_write_34 (by decide) ?_
    refine lv_icmp_ge (tgt := 48) hx hb dX6_write_36 (by decide) (fun c_3 => ?_) (fun c_3 => ?_)
    · skip
      rw [if_pos c_3] at h
      refine lv_aload_n hx hb dX6_write_48 rfl (lv_at hl 0 rfl) ?_
      refine lv_iload_n hx hb dX6_write_49 rfl (lv_at hl 1 rfl) ?_
      refine lv_iload_n hx hb dX6_write_50 rfl (lv_at hl 2 rfl) ?_
      obtain ⟨x_4, hc_4, h⟩ := zb_bind h
      try dsimp only at h
      refine va_callv (va_runV (As := [.int a1, .int a2]) (rest := []) ⟨hx, hb, hml, hown, hts⟩ (ct_X6_writeElements l D c4 A z (tI v 27 y_1) a1 a2 _ hc_4) (cwV 2 hts (wz_V zw_881 zw_883 zs_33 zw_6 zw_884) rfl rfl rfl (by decide +kernel) ⟨Nat.le_of_ble_eq_true rfl, Nat.le_of_ble_eq_true rfl⟩) ⟨fbM, va_recv hK hP (ci := 5) (q0 := 0) rfl rfl, fun U9 hU hW => ⟨rfl, wPre_go hP hD hK hA hS hU hW.alike⟩⟩ rfl rfl hl.1 rfl (lv_room (Nat.le_of_ble_eq_true rfl)) dX6_write_51 ⟨Nat.le_of_ble_eq_true rfl, Nat.le_of_ble_eq_true rfl⟩) hS (fun q _ h => h) (fun q h => h) (fun u_4 t H1 locs ht hvm e_4 hB hz1 hk1 hS => ?_)
      subst e_4
      try dsimp only at h
      obtain ⟨hP, hD, -, -⟩ := hB
      rw [ht] at hP
      generalize H1 = H at hP hS ⊢
      exact W.vret hx hb hr (fun t ht hW => ⟨⟨u_4, rfl, (Option.some.inj h).symm, wPre_go hP hD hK hA hS ht hW.alike⟩, hS.F ht⟩) hS.2.2 dX6_write_54
    · skip
      rw [if_neg c_3] at h
      refine lv_aload_n hx hb dX6_write_39 rfl (lv_at hl 0 rfl) ?_
      refine lv_iload_n hx hb dX6_write_40 rfl (lv_at hl 1 rfl) ?_
      refine lv_iload_n hx hb dX6_write_41 rfl (lv_at hl 2 rfl) ?_
      obtain ⟨x_5, hc_5, h⟩ := zb_bind h
      try dsimp only at h
      refine va_callv (va_runV (As := [.int a1, .int a2]) (rest := []) ⟨hx, hb, hml, hown, hts⟩ (ct_X6_writeList l D c4 A z (tI v 27 y_1) a1 a2 _ hc_5) (cwV 2 hts (wz_V zw_877 zw_879 zs_32 zw_6 zw_880) rfl rfl rfl (by decide +kernel) ⟨Nat.le_of_ble_eq_true rfl, Nat.le_of_ble_eq_true rfl⟩) ⟨fbM, va_recv hK hP (ci := 5) (q0 := 0) rfl rfl, fun U9 hU hW => ⟨rfl, wPre_go hP hD hK hA hS hU hW.alike⟩⟩ rfl rfl hl.1 rfl (lv_room (Nat.le_of_ble_eq_true rfl)) dX6_write_42 ⟨Nat.le_of_ble_eq_true rfl, Nat.le_of_ble_eq_true rfl⟩) hS (fun q _ h => h) (fun q h => h) (fun u_5 t H1 locs ht hvm e_5 hB hz1 hk1 hS => ?_)
      subst e_5
      try dsimp only at h
      obtain ⟨hP, hD, -, -⟩ := hB
      rw [ht] at hP
      generalize H1 = H at hP hS ⊢
      refine lv_goto (tgt := 54) hx hb dX6_write_45 (by decide) ?_
      exact W.vret hx hb hr (fun t ht hW => ⟨⟨u_5, rfl, (Option.some.inj h).symm, wPre_go hP hD hK hA hS ht hW.alike⟩, hS.F ht⟩) hS.2.2 dX6_write_54
  · skip
    rw [if_pos c_2] at h
    refine lv_aload_n hx hb dX6_write_21 rfl (lv_at hl 0 rfl) ?_
    refine lv_iload_n hx hb dX6_write_22 rfl (lv_at hl 1 rfl) ?_
    refine lv_iload_n hx hb dX6_write_23 rfl (lv_at hl 2 rfl) ?_
    obtain ⟨x_6, hc_6, h⟩ := zb_bind h
    try dsimp only at h
    refine va_callv (va_runV (As := [.int a1, .int a2]) (rest := []) ⟨hx, hb, hml, hown, hts⟩ (ct_X6_writeStruct l D c4 A z (tI v 27 y_1) a1 a2 _ hc_6) (cwV 2 hts (wz_V zw_860 zw_862 zs_29 zw_6 zw_863) rfl rfl rfl (by decide +kernel) ⟨Nat.le_of_ble_eq_true rfl, Nat.le_of_ble_eq_true rfl⟩) ⟨fbM, va_recv hK hP (ci := 5) (q0 := 0) rfl rfl, fun U9 hU hW => ⟨rfl, wPre_go hP hD hK hA hS hU hW.alike⟩⟩ rfl rfl hl.1 rfl (lv_room (Nat.le_of_ble_eq_true rfl)) dX6_write_24 ⟨Nat.le_of_ble_eq_true rfl, Nat.le_of_ble_eq_true rfl⟩) hS (fun q _ h => h) (fun q h => h) (fun u_6 t H1 locs ht hvm e_6 hB hz1 hk1 hS => ?_)
    subst e_6
    try dsimp only at h
    obtain ⟨hP, hD, -, -⟩ := hB
    rw [ht] at hP
    generalize H1 = H at hP hS ⊢
    refine lv_goto (tgt := 54) hx hb dX6_write_27 (by decide) ?_
    exact W.vret hx hb hr (fun t ht hW => ⟨⟨u_6, rfl, (Option.some.inj h).symm, wPre_go hP hD hK hA hS ht hW.alike⟩, hS.F ht⟩) hS.2.2 dX6_write_54
def pX6_form_185 : Nat → MS → Int32 → Option (MS × Int32)
  | 0, _, _ => none
  | n + 1, v, x0 => (if (Vi v 21) ≤ x0 then some (v, (Vi v 21)) else (if inb x0 160 = true then ((some (Vr v 22 x0.toNatClampNeg)).bind fun y_3 => (if inb x0 160 = true then pX6_form_185 n (tR v 24 x0.toNatClampNeg y_3) (x0 + (1 : Int32)) else none)) else none))
theorem pX6_form_185_s (n : Nat) (v : MS) (x0 : Int32) : pX6_form_185 (n + 1) v x0 = (if (Vi v 21) ≤ x0 then some (v, (Vi v 21)) else (if inb x0 160 = true then ((some (Vr v 22 x0.toNatClampNeg)).bind fun y_3 => (if inb x0 160 = true then pX6_form_185 n (tR v 24 x0.toNatClampNeg y_3) (x0 + (1 : Int32)) else none)) else none)) := rfl
def pX6_form_172 (kf_46 : MS → Option (MS × Int32)) (v : MS) : Option (MS × Int32) := kf_46 v
def pX6_form_46 : Nat → MS → Option (MS × Int32)
  | 0, _ => none
  | n + 1, v => (if (Vi v 28) ≤ 0 then ((some (Vi v 21)).bind fun y_6 => pX6_form_185 300 (tI v 23 y_6) (0 : Int32)) else ((some ((Vi v 28) - (1 : Int32))).bind fun y_7 => (if inb y_7 200 = true then ((some (Va v 29 y_7.toNatClampNeg)).bind fun y_9 => (if inb y_7 200 = true then ((some (Va v 30 y_7.toNatClampNeg)).bind fun y_11 => (if inb y_7 200 = true then ((some (Va v 31 y_7.toNatClampNeg)).bind fun y_13 => (if inb y_7 200 = true then ((some (Va v 32 y_7.toNatClampNeg)).bind fun y_15 => (if inb (((64 : Int32) * y_11) + y_13) 256 = true then (if (Vr v 1 (((64 : Int32) * y_11) + y_13).toNatClampNeg) = (0 : Int64) then pX6_form_172 (fun u9 => pX6_form_46 n u9) (tI v 28 y_7) else ((pX6_find (tI v 28 y_7) y_11 y_13 y_15 (Vi v 27)).bind fun x_18 => (if (x_18.2) = 0 then ((pX6_write (x_18.1) y_9 y_15).bind fun x_20 => pX6_form_172 (fun u9 => pX6_form_46 n u9) (x_20.1)) else (if (x_18.2) = (1 : Int32) then ((pX6_fail (x_18.1) (1 : Int32)).bind fun x_25 => some ((x_25.1), (x_25.2))) else (if (x_18.2) = (2 : Int32) then ((pX6_fail (x_18.1) (3 : Int32)).bind fun x_24 => some ((x_24.1), (x_24.2))) else ((pX6_fail (x_18.1) (4 : Int32)).bind fun x_23 => some ((x_23.1), (x_23.2)))))))) else none)) else none)) else none)) else none)) else none)))
theorem pX6_form_46_s (n : Nat) (v : MS) : pX6_form_46 (n + 1) v = (if (Vi v 28) ≤ 0 then ((some (Vi v 21)).bind fun y_6 => pX6_form_185 300 (tI v 23 y_6) (0 : Int32)) else ((some ((Vi v 28) - (1 : Int32))).bind fun y_7 => (if inb y_7 200 = true then ((some (Va v 29 y_7.toNatClampNeg)).bind fun y_9 => (if inb y_7 200 = true then ((some (Va v 30 y_7.toNatClampNeg)).bind fun y_11 => (if inb y_7 200 = true then ((some (Va v 31 y_7.toNatClampNeg)).bind fun y_13 => (if inb y_7 200 = true then ((some (Va v 32 y_7.toNatClampNeg)).bind fun y_15 => (if inb (((64 : Int32) * y_11) + y_13) 256 = true then (if (Vr v 1 (((64 : Int32) * y_11) + y_13).toNatClampNeg) = (0 : Int64) then pX6_form_172 (fun u9 => pX6_form_46 n u9) (tI v 28 y_7) else ((pX6_find (tI v 28 y_7) y_11 y_13 y_15 (Vi v 27)).bind fun x_18 => (if (x_18.2) = 0 then ((pX6_write (x_18.1) y_9 y_15).bind fun x_20 => pX6_form_172 (fun u9 => pX6_form_46 n u9) (x_20.1)) else (if (x_18.2) = (1 : Int32) then ((pX6_fail (x_18.1) (1 : Int32)).bind fun x_25 => some ((x_25.1), (x_25.2))) else (if (x_18.2) = (2 : Int32) then ((pX6_fail (x_18.1) (3 : Int32)).bind fun x_24 => some ((x_24.1), (x_24.2))) else ((pX6_fail (x_18.1) (4 : Int32)).bind fun x_23 => some ((x_23.1), (x_23.2)))))))) else none)) else none)) else none)) else none)) else none))) := rfl
def pX6_form (v : MS) : Option (MS × Int32) := ((pX6_findRoot v).bind fun x_26 => (if (x_26.2) = 0 then ((some (Vi (x_26.1) 3)).bind fun y_28 => ((pX6_put (tI (tI (tI (tI (x_26.1) 0 (x_26.2)) 27 y_28) 28 (0 : Int32)) 21 (0 : Int32)) (0 : Int64)).bind fun x_29 => ((pX6_write (x_29.1) (0 : Int32) (1 : Int32)).bind fun x_30 => pX6_form_46 300 (x_30.1)))) else some ((tI (x_26.1) 0 (x_26.2)), (0 : Int32))))
set_option maxHeartbeats 4000000 in
set_option maxRecDepth 100000 in
theorem ct_X6_form (l : Launch) (D : va_G) (c4 : Nat → ClassId) (A : Nat → Prop) (z : Nat → Nat) (v : MS) (res : MS × Int32) (h : pX6_form v = some res) : Met l yX6_form (wz yX6_form cX6_form 6 (some .int)) ({ frames := 4, cells := 0, slots := 0, locals := 101 } : Room) (va_Pc [.ref (z 0)] (fun U => mPre D c4 A z v U)) (va_Qi (fun q w => res = (w, q)) (fun w t => wPre D c4 A (mW c4 z w) t) A) 0 0 A := by
  refine Met.ofW (cc := cX6_form) (maxL := 6) (ret := (some .int)) (by decide) rfl ?_
  intro p e s m args below meth c s₁ B hml hv
  obtain ⟨rfl, hP, hD, hK, hA⟩ := hv
  have hx := B.exec
  have hb := B.bytes
  have hr := B.returns
  have hts := atoms_spec (ws := (wz yX6_form cX6_form 6 (some .int))) B.pre
  have hown : s.vm.findClass RX6 = some m.cls := findClass_of_methodNamed B.named
  have hlocks := B.notSynchronized
  have hS : va_S A s.heap s.heap [] := va_S.rf
  have hl := lv_entry ([.ref (z 0)]) (n := 6) (Nat.le_of_ble_eq_true rfl)
  rw [lg_entry_eq]
  generalize (lg_sl ([.ref (z 0)]) ++ List.replicate (6 - (lg_sl ([.ref (z 0)])).length) Slot.unset).toArray = ls at hl ⊢
  have hl : lv_has ls 6 [(0, .ref (z 0))] := hl
  have k_185 : ∀ (n_185 : Nat), ∀ (v : MS) (H : Heap) (locs : List Loc) (x0 : Int32), va_P D vwCl (mW c4 z v) H → va_D A (mW c4 z v) → va_S A s.heap H locs → ∀ (ls : Array Slot), lv_has ls 6 [(0, .ref (z 0)), (1, .int x0)] → pX6_form_185 n_185 v x0 = some res → W p l e ({ frames := 4, cells := 0, slots := 0, locals := 101 } : Room) s m ([.ref (z 0)] : List Value).toArray below meth c H locs 0 0 (MQ below (va_Qi (fun q w => res = (w, q)) (fun w t => wPre D c4 A (mW c4 z w) t) A) ([.ref (z 0)] : List Value).toArray s 0 0 A) (F0 m 185 ls []) := by
    intro n_185
    induction n_185 with
    | zero =>
      intro v H locs x0 hP hD hS ls hl h
      exact nomatch h
    | succ n_185 ih_185 =>
      intro v H locs x0 hP hD hS ls hl h
      rw [pX6_form_185_s] at h
      refine lv_iload_n hx hb dX6_form_185 rfl (lv_at hl 1 rfl) ?_
      refine lv_aload_n hx hb dX6_form_186 rfl (lv_at hl 0 rfl) ?_
      refine va_get (D := D) (ci := 5) (v := .int (Vi v 21)) (C := RX6) (T := TX6) (N := 33) hx hb hts (fun w h => wm (zin_X6 w h)) hown hK hP 0 rfl rfl 21 (by decide) (hts _ (wm zw_658)) (fun _ h9 => h9) rfl dX6_form_187 ?_
      refine lv_icmp_ge (tgt := 211) hx hb dX6_form_190 (by decide) (fun c_1 => ?_) (fun c_1 => ?_)
      · skip
        rw [if_pos c_1] at h
        refine lv_aload_n hx hb dX6_form_211 rfl (lv_at hl 0 rfl) ?_
        refine va_get (D := D) (ci := 5) (v := .int (Vi v 21)) (C := RX6) (T := TX6) (N := 33) hx hb hts (fun w h => wm (zin_X6 w h)) hown hK hP 0 rfl rfl 21 (by decide) (hts _ (wm zw_658)) (fun _ h9 => h9) rfl dX6_form_212 ?_
        exact W.iret (v := (Vi v 21)) hx hb hr (fun t ht hW => ⟨⟨(Vi v 21), v, rfl, (Option.some.inj h).symm, wPre_go hP hD hK hA hS ht hW.alike⟩, hS.F ht⟩) hS.2.2 dX6_form_215
      · skip
        rw [if_neg c_1] at h
        refine lv_aload_n hx hb dX6_form_193 rfl (lv_at hl 0 rfl) ?_
        refine va_get (D := D) (ci := 5) (v := .ref (z 24)) (C := RX6) (T := TX6) (N := 33) hx hb hts (fun w h => wm (zin_X6 w h)) hown hK hP 0 rfl rfl 24 (by decide) (hts _ (wm zw_661)) (fun _ h9 => h9) rfl dX6_form_194 ?_
        refine lv_iload_n hx hb dX6_form_197 rfl (lv_at hl 1 rfl) ?_
        refine lv_aload_n hx hb dX6_form_198 rfl (lv_at hl 0 rfl) ?_
        refine va_get (D := D) (ci := 5) (v := .ref (z 22)) (C := RX6) (T := TX6) (N := 33) hx hb hts (fun w h => wm (zin_X6 w h)) hown hK hP 0 rfl rfl 22 (by decide) (hts _ (wm zw_659)) (fun _ h9 => h9) rfl dX6_form_199 ?_
        refine lv_iload_n hx hb dX6_form_202 rfl (lv_at hl 1 rfl) ?_
        obtain ⟨hi_2, h⟩ := zb_if h
        refine va_lald hx hb hK hP 10 0 rfl rfl (inb_in hi_2) dX6_form_203 ?_
        refine W.eq (g2 := F0 m 204 ls ([.long (Vr v 22 x0.toNatClampNeg), .int x0, .ref (z 24)])) rfl ?_
        obtain ⟨y_3, e_3, h⟩ := zb_bind h
        try dsimp only at h
        refine zt_l (Option.some.inj e_3) ?_
        obtain ⟨hi_4, h⟩ := zb_if h
        refine va_last hx hb hK hP hD hS 11 0 rfl rfl (inb_in hi_4) dX6_form_204 (fun H locs hP hD hS => ?_)
        have hP : va_P D vwCl (mW c4 z (tR v 24 x0.toNatClampNeg y_3)) H := hP
        have hD : va_D A (mW c4 z (tR v 24 x0.toNatClampNeg y_3)) := hD
        refine lv_iinc (v := (x0 + (1 : Int32))) (lv' := [(1, .int (x0 + (1 : Int32))), (0, .ref (z 0))]) hx hb dX6_form_205 hl (k := 1) rfl rfl (by decide) rfl (fun ls hl => ?_)
        refine lv_goto (tgt := 185) hx hb dX6_form_208 (by decide) ?_
        exact ih_185 (tR v 24 x0.toNatClampNeg y_3) _ _ (x0 + (1 : Int32)) hP hD hS ls (lv_sub hl [1, 0] rfl) h
  have k_46 : ∀ (n_46 : Nat), ∀ (v : MS) (H : Heap) (locs : List Loc), va_P D vwCl (mW c4 z v) H → va_D A (mW c4 z v) → va_S A s.heap H locs → ∀ (ls : Array Slot), lv_has ls 6 [(0, .ref (z 0))] → pX6_form_46 n_46 v = some res → W p l e ({ frames := 4, cells := 0, slots := 0, locals := 101 } : Room) s m ([.ref (z 0)] : List Value).toArray below meth c H locs 0 0 (MQ below (va_Qi (fun q w => res = (w, q)) (fun w t => wPre D c4 A (mW c4 z w) t) A) ([.ref (z 0)] : List Value).toArray s 0 0 A) (F0 m 46 ls []) := by
    intro n_46
    induction n_46 with
    | zero =>
      intro v H locs hP hD hS ls hl h
      exact nomatch h
    | succ n_46 ih_46 =>
      have k_172 : ∀ (v : MS) (H : Heap) (locs : List Loc), va_P D vwCl (mW c4 z v) H → va_D A (mW c4 z v) → va_S A s.heap H locs → ∀ (ls : Array Slot), lv_has ls 6 [(0, .ref (z 0))] → pX6_form_172 (fun u9 => pX6_form_46 n_46 u9) v = some res → W p l e ({ frames := 4, cells := 0, slots := 0, locals := 101 } : Room) s m ([.ref (z 0)] : List Value).toArray below meth c H locs 0 0 (MQ below (va_Qi (fun q w => res = (w, q)) (fun w t => wPre D c4 A (mW c4 z w) t) A) ([.ref (z 0)] : List Value).toArray s 0 0 A) (F0 m 172 ls []) := by
        intro v H locs hP hD hS ls hl h
        unfold pX6_form_172 at h
        refine lv_goto (tgt := 46) hx hb dX6_form_172 (by decide) ?_
        exact ih_46 v _ _  hP hD hS ls (lv_sub hl [0] rfl) h
      intro v H locs hP hD hS ls hl h
      rw [pX6_form_46_s] at h
      refine lv_aload_n hx hb dX6_form_46 rfl (lv_at hl 0 rfl) ?_
      refine va_get (D := D) (ci := 5) (v := .int (Vi v 28)) (C := RX6) (T := TX6) (N := 33) hx hb hts (fun w h => wm (zin_X6 w h)) hown hK hP 0 rfl rfl 28 (by decide) (hts _ (wm zw_665)) (fun _ h9 => h9) rfl dX6_form_47 ?_
      refine lv_if_le (tgt := 175) hx hb dX6_form_50 (by decide) (fun c_5 => ?_) (fun c_5 => ?_)
      · skip
        rw [if_pos c_5] at h
        refine lv_aload_n hx hb dX6_form_175 rfl (lv_at hl 0 rfl) ?_
        refine lv_aload_n hx hb dX6_form_176 rfl (lv_at hl 0 rfl) ?_
        refine va_get (D := D) (ci := 5) (v := .int (Vi v 21)) (C := RX6) (T := TX6) (N := 33) hx hb hts (fun w h => wm (zin_X6 w h)) hown hK hP 0 rfl rfl 21 (by decide) (hts _ (wm zw_658)) (fun _ h9 => h9) rfl dX6_form_177 ?_
        obtain ⟨y_6, e_6, h⟩ := zb_bind h
        try dsimp only at h
        refine zt_i (Option.some.inj e_6) ?_
        refine va_put (D := D) (ci := 5) (v := .int y_6) (ty := .int) (C := RX6) (T := TX6) (N := 33) hx hb hts (fun w h => wm (zin_X6 w h)) tyX6 tyX6_ok nmX6 hown hK hP hD hS 0 rfl rfl 23 (by decide) (hts _ (wm zw_660)) (fun _ h9 => h9) rfl (by decide +kernel) rfl rfl (Nat.le_of_ble_eq_true rfl) dX6_form_180 (fun H locs hP hD hS => ?_)
        have hP : va_P D vwCl (mW c4 z (tI v 23 y_6)) H := hP
        have hD : va_D A (mW c4 z (tI v 23 y_6)) := hD
        refine lv_iconst (v := (0 : Int32)) hx hb dX6_form_183 (by decide) ?_
        refine lv_istore_n (lv' := [(1, .int (0 : Int32)), (0, .ref (z 0))]) hx hb dX6_form_184 rfl hl (by decide) rfl (fun ls hl => ?_)
        exact k_185 300 (tI v 23 y_6) _ _ (0 : Int32) hP hD hS ls (lv_sub hl [1, 0] rfl) h
      · skip
        rw [if_neg c_5] at h
        refine lv_aload_n hx hb dX6_form_53 rfl (lv_at hl 0 rfl) ?_
        refine lv_dup hx hb dX6_form_54 rfl ?_
        refine va_get (D := D) (ci := 5) (v := .int (Vi v 28)) (C := RX6) (T := TX6) (N := 33) hx hb hts (fun w h => wm (zin_X6 w h)) hown hK hP 0 rfl rfl 28 (by decide) (hts _ (wm zw_665)) (fun _ h9 => h9) rfl dX6_form_55 ?_
        refine lv_iconst (v := (1 : Int32)) hx hb dX6_form_58 (by decide) ?_
        refine lv_isub hx hb dX6_form_59 ?_
        obtain ⟨y_7, e_7, h⟩ := zb_bind h
        try dsimp only at h
        refine zt_i (Option.some.inj e_7) ?_
        refine va_put (D := D) (ci := 5) (v := .int y_7) (ty := .int) (C := RX6) (T := TX6) (N := 33) hx hb hts (fun w h => wm (zin_X6 w h)) tyX6 tyX6_ok nmX6 hown hK hP hD hS 0 rfl rfl 28 (by decide) (hts _ (wm zw_665)) (fun _ h9 => h9) rfl (by decide +kernel) rfl rfl (Nat.le_of_ble_eq_true rfl) dX6_form_60 (fun H locs hP hD hS => ?_)
        have hP : va_P D vwCl (mW c4 z (tI v 28 y_7)) H := hP
        have hD : va_D A (mW c4 z (tI v 28 y_7)) := hD
        refine lv_aload_n hx hb dX6_form_63 rfl (lv_at hl 0 rfl) ?_
        refine va_get (D := D) (ci := 5) (v := .ref (z 29)) (C := RX6) (T := TX6) (N := 33) hx hb hts (fun w h => wm (zin_X6 w h)) hown hK hP 0 rfl rfl 29 (by decide) (hts _ (wm zw_666)) (fun _ h9 => h9) rfl dX6_form_64 ?_
        refine lv_aload_n hx hb dX6_form_67 rfl (lv_at hl 0 rfl) ?_
        refine va_get (D := D) (ci := 5) (v := .int y_7) (C := RX6) (T := TX6) (N := 33) hx hb hts (fun w h => wm (zin_X6 w h)) hown hK hP 0 rfl rfl 28 (by decide) (hts _ (wm zw_665)) (fun _ h9 => h9) rfl dX6_form_68 ?_
        obtain ⟨hi_8, h⟩ := zb_if h
        refine va_iald hx hb hK hP 13 3 rfl rfl (inb_in hi_8) dX6_form_71 ?_
        refine W.eq (g2 := F0 m 72 ls ([.int (Va v 29 y_7.toNatClampNeg)])) rfl ?_
        obtain ⟨y_9, e_9, h⟩ := zb_bind h
        try dsimp only at h
        refine zt_i (Option.some.inj e_9) ?_
        refine lv_istore_n (lv' := [(1, .int y_9), (0, .ref (z 0))]) hx hb dX6_form_72 rfl hl (by decide) rfl (fun ls hl => ?_)
        refine lv_aload_n hx hb dX6_form_73 rfl (lv_at hl 1 rfl) ?_
        refine va_get (D := D) (ci := 5) (v := .ref (z 30)) (C := RX6) (T := TX6) (N := 33) hx hb hts (fun w h => wm (zin_X6 w h)) hown hK hP 0 rfl rfl 30 (by decide) (hts _ (wm zw_667)) (fun _ h9 => h9) rfl dX6_form_74 ?_
        refine lv_aload_n hx hb dX6_form_77 rfl (lv_at hl 1 rfl) ?_
        refine va_get (D := D) (ci := 5) (v := .int y_7) (C := RX6) (T := TX6) (N := 33) hx hb hts (fun w h => wm (zin_X6 w h)) hown hK hP 0 rfl rfl 28 (by decide) (hts _ (wm zw_665)) (fun _ h9 => h9) rfl dX6_form_78 ?_
        obtain ⟨hi_10, h⟩ := zb_if h
        refine va_iald hx hb hK hP 14 3 rfl rfl (inb_in hi_10) dX6_form_81 ?_
        refine W.eq (g2 := F0 m 82 ls ([.int (Va v 30 y_7.toNatClampNeg)])) rfl ?_
        obtain ⟨y_11, e_11, h⟩ := zb_bind h
        try dsimp only at h
        refine zt_i (Option.some.inj e_11) ?_
        refine lv_istore_n (lv' := [(2, .int y_11), (1, .int y_9), (0, .ref (z 0))]) hx hb dX6_form_82 rfl hl (by decide) rfl (fun ls hl => ?_)
        refine lv_aload_n hx hb dX6_form_83 rfl (lv_at hl 2 rfl) ?_
        refine va_get (D := D) (ci := 5) (v := .ref (z 31)) (C := RX6) (T := TX6) (N := 33) hx hb hts (fun w h => wm (zin_X6 w h)) hown hK hP 0 rfl rfl 31 (by decide) (hts _ (wm zw_668)) (fun _ h9 => h9) rfl dX6_form_84 ?_
        refine lv_aload_n hx hb dX6_form_87 rfl (lv_at hl 2 rfl) ?_
        refine va_get (D := D) (ci := 5) (v := .int y_7) (C := RX6) (T := TX6) (N := 33) hx hb hts (fun w h => wm (zin_X6 w h)) hown hK hP 0 rfl rfl 28 (by decide) (hts _ (wm zw_665)) (fun _ h9 => h9) rfl dX6_form_88 ?_
        obtain ⟨hi_12, h⟩ := zb_if h
        refine va_iald hx hb hK hP 15 3 rfl rfl (inb_in hi_12) dX6_form_91 ?_
        refine W.eq (g2 := F0 m 92 ls ([.int (Va v 31 y_7.toNatClampNeg)])) rfl ?_
        obtain ⟨y_13, e_13, h⟩ := zb_bind h
        try dsimp only at h
        refine zt_i (Option.some.inj e_13) ?_
        refine lv_istore_n (lv' := [(3, .int y_13), (2, .int y_11), (1, .int y_9), (0, .ref (z 0))]) hx hb dX6_form_92 rfl hl (by decide) rfl (fun ls hl => ?_)
        refine lv_aload_n hx hb dX6_form_93 rfl (lv_at hl 3 rfl) ?_
        refine va_get (D := D) (ci := 5) (v := .ref (z 32)) (C := RX6) (T := TX6) (N := 33) hx hb hts (fun w h => wm (zin_X6 w h)) hown hK hP 0 rfl rfl 32 (by decide) (hts _ (wm zw_669)) (fun _ h9 => h9) rfl dX6_form_94 ?_
        refine lv_aload_n hx hb dX6_form_97 rfl (lv_at hl 3 rfl) ?_
        refine va_get (D := D) (ci := 5) (v := .int y_7) (C := RX6) (T := TX6) (N := 33) hx hb hts (fun w h => wm (zin_X6 w h)) hown hK hP 0 rfl rfl 28 (by decide) (hts _ (wm zw_665)) (fun _ h9 => h9) rfl dX6_form_98 ?_
        obtain ⟨hi_14, h⟩ := zb_if h
        refine va_iald hx hb hK hP 16 3 rfl rfl (inb_in hi_14) dX6_form_101 ?_
        refine W.eq (g2 := F0 m 102 ls ([.int (Va v 32 y_7.toNatClampNeg)])) rfl ?_
        obtain ⟨y_15, e_15, h⟩ := zb_bind h
        try dsimp only at h
        refine zt_i (Option.some.inj e_15) ?_
        refine lv_istore (lv' := [(4, .int y_15), (3, .int y_13), (2, .int y_11), (1, .int y_9), (0, .ref (z 0))]) hx hb dX6_form_102 hl (by decide) rfl (fun ls hl => ?_)
        refine lv_aload_n hx hb dX6_form_104 rfl (lv_at hl 4 rfl) ?_
        refine va_get (D := D) (ci := 5) (v := .ref (z 1)) (C := RX6) (T := TX6) (N := 33) hx hb hts (fun w h => wm (zin_X6 w h)) hown hK hP 0 rfl rfl 1 (by decide) (hts _ (wm zw_638)) (fun _ h9 => h9) rfl dX6_form_105 ?_
        refine lv_bipush (v := (64 : Int32)) hx hb dX6_form_108 (by decide) ?_
        refine lv_iload_n hx hb dX6_form_110 rfl (lv_at hl 2 rfl) ?_
        refine lv_imul hx hb dX6_form_111 ?_
        refine lv_iload_n hx hb dX6_form_112 rfl (lv_at hl 1 rfl) ?_
        refine lv_iadd hx hb dX6_form_113 ?_
        obtain ⟨hi_16, h⟩ := zb_if h
        refine va_lald hx hb hK hP 1 0 rfl rfl (inb_in hi_16) dX6_form_114 ?_
        refine W.eq (g2 := F0 m 115 ls ([.long (Vr v 1 (((64 : Int32) * y_11) + y_13).toNatClampNeg)])) rfl ?_
        refine lv_lconst (v := (0 : Int64)) hx hb dX6_form_115 (by decide) ?_
        refine W.lcmp hx hb dX6_form_116 ?_
        refine lv_if_eq (tgt := 172) hx hb dX6_form_117 (by decide) (fun c_17 => ?_) (fun c_17 => ?_)
        · skip
          have c_17 := (lg_cmp_eq _ _).mp c_17
          rw [if_pos c_17] at h
          exact k_172 (tI v 28 y_7) _ _  hP hD hS ls (lv_sub hl [4] rfl) h
        · skip
          have c_17 := mt (lg_cmp_eq _ _).mpr c_17
          rw [if_neg c_17] at h
          refine lv_aload_n hx hb dX6_form_120 rfl (lv_at hl 4 rfl) ?_
          refine lv_iload_n hx hb dX6_form_121 rfl (lv_at hl 2 rfl) ?_
          refine lv_iload_n hx hb dX6_form_122 rfl (lv_at hl 1 rfl) ?_
          refine lv_iload hx hb dX6_form_123 (lv_at hl 0 rfl) ?_
          refine lv_aload_n hx hb dX6_form_125 rfl (lv_at hl 4 rfl) ?_
          refine va_get (D := D) (ci := 5) (v := .int (Vi v 27)) (C := RX6) (T := TX6) (N := 33) hx hb hts (fun w h => wm (zin_X6 w h)) hown hK hP 0 rfl rfl 27 (by decide) (hts _ (wm zw_664)) (fun _ h9 => h9) rfl dX6_form_126 ?_
          obtain ⟨x_18, hc_18, h⟩ := zb_bind h
          try dsimp only at h
          refine va_calli (va_runV (As := [.int y_11, .int y_13, .int y_15, .int (Vi v 27)]) (rest := []) ⟨hx, hb, hml, hown, hts⟩ (ct_X6_find l D c4 A z (tI v 28 y_7) y_11 y_13 y_15 (Vi v 27) _ hc_18) (cwV 4 hts (wz_V zw_832 zw_834 zs_26 zw_6 zw_835) rfl rfl rfl (by decide +kernel) ⟨Nat.le_of_ble_eq_true rfl, Nat.le_of_ble_eq_true rfl⟩) ⟨fbM, va_recv hK hP (ci := 5) (q0 := 0) rfl rfl, fun U9 hU hW => ⟨rfl, wPre_go hP hD hK hA hS hU hW.alike⟩⟩ rfl rfl hl.1 rfl (lv_room (Nat.le_of_ble_eq_true rfl)) dX6_form_129 ⟨Nat.le_of_ble_eq_true rfl, Nat.le_of_ble_eq_true rfl⟩) hS (fun q _ h => h) (fun q h => h) (fun r_18 u_18 t H1 locs ht hvm e_18 hB hz1 hk1 hS => ?_)
          subst e_18
          try dsimp only at h
          obtain ⟨hP, hD, -, -⟩ := hB
          rw [ht] at hP
          generalize H1 = H at hP hS ⊢
          refine lv_istore (lv' := [(5, .int r_18), (4, .int y_15), (3, .int y_13), (2, .int y_11), (1, .int y_9), (0, .ref (z 0))]) hx hb dX6_form_132 hl (by decide) rfl (fun ls hl => ?_)
          refine lv_iload hx hb dX6_form_134 (lv_at hl 0 rfl) ?_
          refine lv_if_eq (tgt := 165) hx hb dX6_form_136 (by decide) (fun c_19 => ?_) (fun c_19 => ?_)
          · skip
            rw [if_pos c_19] at h
            refine lv_aload_n hx hb dX6_form_165 rfl (lv_at hl 5 rfl) ?_
            refine lv_iload_n hx hb dX6_form_166 rfl (lv_at hl 4 rfl) ?_
            refine lv_iload hx hb dX6_form_167 (lv_at hl 1 rfl) ?_
            obtain ⟨x_20, hc_20, h⟩ := zb_bind h
            try dsimp only at h
            refine va_callv (va_runV (As := [.int y_9, .int y_15]) (rest := []) ⟨hx, hb, hml, hown, hts⟩ (ct_X6_write l D c4 A z u_18 y_9 y_15 _ hc_20) (cwV 2 hts (wz_V zw_856 zw_858 zs_28 zw_6 zw_859) rfl rfl rfl (by decide +kernel) ⟨Nat.le_of_ble_eq_true rfl, Nat.le_of_ble_eq_true rfl⟩) ⟨fbM, va_recv hK hP (ci := 5) (q0 := 0) rfl rfl, fun U9 hU hW => ⟨rfl, wPre_go hP hD hK hA hS hU hW.alike⟩⟩ rfl rfl hl.1 rfl (lv_room (Nat.le_of_ble_eq_true rfl)) dX6_form_169 ⟨Nat.le_of_ble_eq_true rfl, Nat.le_of_ble_eq_true rfl⟩) hS (fun q _ h => h) (fun q h => h) (fun u_20 t H1 locs ht hvm e_20 hB hz1 hk1 hS => ?_)
            subst e_20
            try dsimp only at h
            obtain ⟨hP, hD, -, -⟩ := hB
            rw [ht] at hP
            generalize H1 = H at hP hS ⊢
            exact k_172 u_20 _ _  hP hD hS ls (lv_sub hl [5] rfl) h
          · skip
            rw [if_neg c_19] at h
            refine lv_aload_n hx hb dX6_form_139 rfl (lv_at hl 5 rfl) ?_
            refine lv_iload hx hb dX6_form_140 (lv_at hl 0 rfl) ?_
            refine lv_iconst (v := (1 : Int32)) hx hb dX6_form_142 (by decide) ?_
            refine lv_icmp_ne (tgt := 150) hx hb dX6_form_143 (by decide) (fun c_21 => ?_) (fun c_21 => ?_)
            · skip
              rw [if_neg c_21] at h
              refine lv_iload hx hb dX6_form_150 (lv_at hl 0 rfl) ?_
              refine lv_iconst (v := (2 : Int32)) hx hb dX6_form_152 (by decide) ?_
              refine lv_icmp_ne (tgt := 160) hx hb dX6_form_153 (by decide) (fun c_22 => ?_) (fun c_22 => ?_)
              · skip
                rw [if_neg c_22] at h
                refine lv_iconst (v := (4 : Int32)) hx hb dX6_form_160 (by decide) ?_
                obtain ⟨x_23, hc_23, h⟩ := zb_bind h
                try dsimp only at h
                refine va_calli (va_runV (As := [.int (4 : Int32)]) (rest := []) ⟨hx, hb, hml, hown, hts⟩ (ct_X6_fail l D c4 A z u_18 (4 : Int32) _ hc_23) (cwV 1 hts (wz_V zw_828 zw_830 zs_25 zw_6 zw_831) rfl rfl rfl (by decide +kernel) ⟨Nat.le_of_ble_eq_true rfl, Nat.le_of_ble_eq_true rfl⟩) ⟨fbM, va_recv hK hP (ci := 5) (q0 := 0) rfl rfl, fun U9 hU hW => ⟨rfl, wPre_go hP hD hK hA hS hU hW.alike⟩⟩ rfl rfl hl.1 rfl (lv_room (Nat.le_of_ble_eq_true rfl)) dX6_form_161 ⟨Nat.le_of_ble_eq_true rfl, Nat.le_of_ble_eq_true rfl⟩) hS (fun q _ h => h) (fun q h => h) (fun r_23 u_23 t H1 locs ht hvm e_23 hB hz1 hk1 hS => ?_)
                subst e_23
                try dsimp only at h
                obtain ⟨hP, hD, -, -⟩ := hB
                rw [ht] at hP
                generalize H1 = H at hP hS ⊢
                exact W.iret (v := r_23) hx hb hr (fun t ht hW => ⟨⟨r_23, u_23, rfl, (Option.some.inj h).symm, wPre_go hP hD hK hA hS ht hW.alike⟩, hS.F ht⟩) hS.2.2 dX6_form_164
              · skip
                rw [if_pos c_22] at h
                refine lv_iconst (v := (3 : Int32)) hx hb dX6_form_156 (by decide) ?_
                refine lv_goto (tgt := 161) hx hb dX6_form_157 (by decide) ?_
                obtain ⟨x_24, hc_24, h⟩ := zb_bind h
                try dsimp only at h
                refine va_calli (va_runV (As := [.int (3 : Int32)]) (rest := []) ⟨hx, hb, hml, hown, hts⟩ (ct_X6_fail l D c4 A z u_18 (3 : Int32) _ hc_24) (cwV 1 hts (wz_V zw_828 zw_830 zs_25 zw_6 zw_831) rfl rfl rfl (by decide +kernel) ⟨Nat.le_of_ble_eq_true rfl, Nat.le_of_ble_eq_true rfl⟩) ⟨fbM, va_recv hK hP (ci := 5) (q0 := 0) rfl rfl, fun U9 hU hW => ⟨rfl, wPre_go hP hD hK hA hS hU hW.alike⟩⟩ rfl rfl hl.1 rfl (lv_room (Nat.le_of_ble_eq_true rfl)) dX6_form_161 ⟨Nat.le_of_ble_eq_true rfl, Nat.le_of_ble_eq_true rfl⟩) hS (fun q _ h => h) (fun q h => h) (fun r_24 u_24 t H1 locs ht hvm e_24 hB hz1 hk1 hS => ?_)
                subst e_24
                try dsimp only at h
                obtain ⟨hP, hD, -, -⟩ := hB
                rw [ht] at hP
                generalize H1 = H at hP hS ⊢
                exact W.iret (v := r_24) hx hb hr (fun t ht hW => ⟨⟨r_24, u_24, rfl, (Option.some.inj h).symm, wPre_go hP hD hK hA hS ht hW.alike⟩, hS.F ht⟩) hS.2.2 dX6_form_164
            · skip
              rw [if_pos c_21] at h
              refine lv_iconst (v := (1 : Int32)) hx hb dX6_form_146 (by decide) ?_
              refine lv_goto (tgt := 161) hx hb dX6_form_147 (by decide) ?_
              obtain ⟨x_25, hc_25, h⟩ := zb_bind h
              try dsimp only at h
              refine va_calli (va_runV (As := [.int (1 : Int32)]) (rest := []) ⟨hx, hb, hml, hown, hts⟩ (ct_X6_fail l D c4 A z u_18 (1 : Int32) _ hc_25) (cwV 1 hts (wz_V zw_828 zw_830 zs_25 zw_6 zw_831) rfl rfl rfl (by decide +kernel) ⟨Nat.le_of_ble_eq_true rfl, Nat.le_of_ble_eq_true rfl⟩) ⟨fbM, va_recv hK hP (ci := 5) (q0 := 0) rfl rfl, fun U9 hU hW => ⟨rfl, wPre_go hP hD hK hA hS hU hW.alike⟩⟩ rfl rfl hl.1 rfl (lv_room (Nat.le_of_ble_eq_true rfl)) dX6_form_161 ⟨Nat.le_of_ble_eq_true rfl, Nat.le_of_ble_eq_true rfl⟩) hS (fun q _ h => h) (fun q h => h) (fun r_25 u_25 t H1 locs ht hvm e_25 hB hz1 hk1 hS => ?_)
              subst e_25
              try dsimp only at h
              obtain ⟨hP, hD, -, -⟩ := hB
              rw [ht] at hP
              generalize H1 = H at hP hS ⊢
              exact W.iret (v := r_25) hx hb hr (fun t ht hW => ⟨⟨r_25, u_25, rfl, (Option.some.inj h).symm, wPre_go hP hD hK hA hS ht hW.alike⟩, hS.F ht⟩) hS.2.2 dX6_form_164
  unfold pX6_form at h
  refine lv_aload_n hx hb dX6_form_0 rfl (lv_at hl 0 rfl) ?_
  refine lv_aload_n hx hb dX6_form_1 rfl (lv_at hl 0 rfl) ?_
  obtain ⟨x_26, hc_26, h⟩ := zb_bind h
  try dsimp only at h
  refine va_calli (va_runV (As := []) (rest := [.ref (z 0)]) ⟨hx, hb, hml, hown, hts⟩ (ct_X6_findRoot l D c4 A z v _ hc_26) (cwV 0 hts (wz_V zw_774 zw_776 zs_18 zw_6 zw_777) rfl rfl rfl (by decide +kernel) ⟨Nat.le_of_ble_eq_true rfl, Nat.le_of_ble_eq_true rfl⟩) ⟨fbM, va_recv hK hP (ci := 5) (q0 := 0) rfl rfl, fun U9 hU hW => ⟨rfl, wPre_go hP hD hK hA hS hU hW.alike⟩⟩ rfl rfl hl.1 rfl (lv_room (Nat.le_of_ble_eq_true rfl)) dX6_form_2 ⟨Nat.le_of_ble_eq_true rfl, Nat.le_of_ble_eq_true rfl⟩) hS (fun q _ h => h) (fun q h => h) (fun r_26 u_26 t H1 locs ht hvm e_26 hB hz1 hk1 hS => ?_)
  subst e_26
  try dsimp only at h
  obtain ⟨hP, hD, -, -⟩ := hB
  rw [ht] at hP
  generalize H1 = H at hP hS ⊢
  refine va_put (D := D) (ci := 5) (v := .int r_26) (ty := .int) (C := RX6) (T := TX6) (N := 33) hx hb hts (fun w h => wm (zin_X6 w h)) tyX6 tyX6_ok nmX6 hown hK hP hD hS 0 rfl rfl 0 (by decide) (hts _ (wm zw_637)) (fun _ h9 => h9) rfl (by decide +kernel) rfl rfl (Nat.le_of_ble_eq_true rfl) dX6_form_5 (fun H locs hP hD hS => ?_)
  have hP : va_P D vwCl (mW c4 z (tI u_26 0 r_26)) H := hP
  have hD : va_D A (mW c4 z (tI u_26 0 r_26)) := hD
  refine lv_aload_n hx hb dX6_form_8 rfl (lv_at hl 0 rfl) ?_
  refine va_get (D := D) (ci := 5) (v := .int r_26) (C := RX6) (T := TX6) (N := 33) hx hb hts (fun w h => wm (zin_X6 w h)) hown hK hP 0 rfl rfl 0 (by decide) (hts _ (wm zw_637)) (fun _ h9 => h9) rfl dX6_form_9 ?_
  refine lv_if_eq (tgt := 17) hx hb dX6_form_12 (by decide) (fun c_27 => ?_) (fun c_27 => ?_)
  · skip
    rw [if_pos c_27] at h
    refine lv_aload_n hx hb dX6_form_17 rfl (lv_at hl 0 rfl) ?_
    refine lv_aload_n hx hb dX6_form_18 rfl (lv_at hl 0 rfl) ?_
    refine va_get (D := D) (ci := 5) (v := .int (Vi u_26 3)) (C := RX6) (T := TX6) (N := 33) hx hb hts (fun w h => wm (zin_X6 w h)) hown hK hP 0 rfl rfl 3 (by decide) (hts _ (wm zw_640)) (fun _ h9 => h9) rfl dX6_form_19 ?_
    obtain ⟨y_28, e_28, h⟩ := zb_bind h
    try dsimp only at h
    refine zt_i (Option.some.inj e_28) ?_
    refine va_put (D := D) (ci := 5) (v := .int y_28) (ty := .int) (C := RX6) (T := TX6) (N := 33) hx hb hts (fun w h => wm (zin_X6 w h)) tyX6 tyX6_ok nmX6 hown hK hP hD hS 0 rfl rfl 27 (by decide) (hts _ (wm zw_664)) (fun _ h9 => h9) rfl (by decide +kernel) rfl rfl (Nat.le_of_ble_eq_true rfl) dX6_form_22 (fun H locs hP hD hS => ?_)
    have hP : va_P D vwCl (mW c4 z (tI (tI u_26 0 r_26) 27 y_28)) H := hP
    have hD : va_D A (mW c4 z (tI (tI u_26 0 r_26) 27 y_28)) := hD
    refine lv_aload_n hx hb dX6_form_25 rfl (lv_at hl 0 rfl) ?_
    refine lv_iconst (v := (0 : Int32)) hx hb dX6_form_26 (by decide) ?_
    refine va_put (D := D) (ci := 5) (v := .int (0 : Int32)) (ty := .int) (C := RX6) (T := TX6) (N := 33) hx hb hts (fun w h => wm (zin_X6 w h)) tyX6 tyX6_ok nmX6 hown hK hP hD hS 0 rfl rfl 28 (by decide) (hts _ (wm zw_665)) (fun _ h9 => h9) rfl (by decide +kernel) rfl rfl (Nat.le_of_ble_eq_true rfl) dX6_form_27 (fun H locs hP hD hS => ?_)
    have hP : va_P D vwCl (mW c4 z (tI (tI (tI u_26 0 r_26) 27 y_28) 28 (0 : Int32))) H := hP
    have hD : va_D A (mW c4 z (tI (tI (tI u_26 0 r_26) 27 y_28) 28 (0 : Int32))) := hD
    refine lv_aload_n hx hb dX6_form_30 rfl (lv_at hl 0 rfl) ?_
    refine lv_iconst (v := (0 : Int32)) hx hb dX6_form_31 (by decide) ?_
    refine va_put (D := D) (ci := 5) (v := .int (0 : Int32)) (ty := .int) (C := RX6) (T := TX6) (N := 33) hx hb hts (fun w h => wm (zin_X6 w h)) tyX6 tyX6_ok nmX6 hown hK hP hD hS 0 rfl rfl 21 (by decide) (hts _ (wm zw_658)) (fun _ h9 => h9) rfl (by decide +kernel) rfl rfl (Nat.le_of_ble_eq_true rfl) dX6_form_32 (fun H locs hP hD hS => ?_)
    have hP : va_P D vwCl (mW c4 z (tI (tI (tI (tI u_26 0 r_26) 27 y_28) 28 (0 : Int32)) 21 (0 : Int32))) H := hP
    have hD : va_D A (mW c4 z (tI (tI (tI (tI u_26 0 r_26) 27 y_28) 28 (0 : Int32)) 21 (0 : Int32))) := hD
    refine lv_aload_n hx hb dX6_form_35 rfl (lv_at hl 0 rfl) ?_
    refine lv_lconst (v := (0 : Int64)) hx hb dX6_form_36 (by decide) ?_
    obtain ⟨x_29, hc_29, h⟩ := zb_bind h
    try dsimp only at h
    refine va_callv (va_runV (As := [.long (0 : Int64)]) (rest := []) ⟨hx, hb, hml, hown, hts⟩ (ct_X6_put l D c4 A z (tI (tI (tI (tI u_26 0 r_26) 27 y_28) 28 (0 : Int32)) 21 (0 : Int32)) (0 : Int64) _ hc_29) (cwV 1 hts (wz_V zw_852 zw_854 zs_27 zw_6 zw_855) rfl rfl rfl (by decide +kernel) ⟨Nat.le_of_ble_eq_true rfl, Nat.le_of_ble_eq_true rfl⟩) ⟨fbM, va_recv hK hP (ci := 5) (q0 := 0) rfl rfl, fun U9 hU hW => ⟨rfl, wPre_go hP hD hK hA hS hU hW.alike⟩⟩ rfl rfl hl.1 rfl (lv_room (Nat.le_of_ble_eq_true rfl)) dX6_form_37 ⟨Nat.le_of_ble_eq_true rfl, Nat.le_of_ble_eq_true rfl⟩) hS (fun q _ h => h) (fun q h => h) (fun u_29 t H1 locs ht hvm e_29 hB hz1 hk1 hS => ?_)
    subst e_29
    try dsimp only at h
    obtain ⟨hP, hD, -, -⟩ := hB
    rw [ht] at hP
    generalize H1 = H at hP hS ⊢
    refine lv_aload_n hx hb dX6_form_40 rfl (lv_at hl 0 rfl) ?_
    refine lv_iconst (v := (0 : Int32)) hx hb dX6_form_41 (by decide) ?_
    refine lv_iconst (v := (1 : Int32)) hx hb dX6_form_42 (by decide) ?_
    obtain ⟨x_30, hc_30, h⟩ := zb_bind h
    try dsimp only at h
    refine va_callv (va_runV (As := [.int (0 : Int32), .int (1 : Int32)]) (rest := []) ⟨hx, hb, hml, hown, hts⟩ (ct_X6_write l D c4 A z u_29 (0 : Int32) (1 : Int32) _ hc_30) (cwV 2 hts (wz_V zw_856 zw_858 zs_28 zw_6 zw_859) rfl rfl rfl (by decide +kernel) ⟨Nat.le_of_ble_eq_true rfl, Nat.le_of_ble_eq_true rfl⟩) ⟨fbM, va_recv hK hP (ci := 5) (q0 := 0) rfl rfl, fun U9 hU hW => ⟨rfl, wPre_go hP hD hK hA hS hU hW.alike⟩⟩ rfl rfl hl.1 rfl (lv_room (Nat.le_of_ble_eq_true rfl)) dX6_form_43 ⟨Nat.le_of_ble_eq_true rfl, Nat.le_of_ble_eq_true rfl⟩) hS (fun q _ h => h) (fun q h => h) (fun u_30 t H1 locs ht hvm e_30 hB hz1 hk1 hS => ?_)
    subst e_30
    try dsimp only at h
    obtain ⟨hP, hD, -, -⟩ := hB
    rw [ht] at hP
    generalize H1 = H at hP hS ⊢
    exact k_46 300 u_30 _ _  hP hD hS ls (lv_sub hl [0] rfl) h
  · skip
    rw [if_neg c_27] at h
    refine lv_iconst (v := (0 : Int32)) hx hb dX6_form_15 (by decide) ?_
    exact W.iret (v := (0 : Int32)) hx hb hr (fun t ht hW => ⟨⟨(0 : Int32), (tI u_26 0 r_26), rfl, (Option.some.inj h).symm, wPre_go hP hD hK hA hS ht hW.alike⟩, hS.F ht⟩) hS.2.2 dX6_form_16
