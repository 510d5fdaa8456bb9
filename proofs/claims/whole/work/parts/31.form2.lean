abbrev zRT : Type := CZ → CS → Nat → Int32 → Option (CS × (Nat ⊕ Unit))
def zRec (l : Launch) (D : va_G) (c4 : Nat → ClassId) (A : Nat → Prop) (Z : CZ) (R : zRT) (d : Nat) : Prop := ∀ (u : CS) (a2 : Nat) (ha2 : isF Z a2) (a3 : Int32) (res : CS × (Nat ⊕ Unit)), R Z u a2 a3 = some res → vx_Met l yX1_writeObject (wz yX1_writeObject cX1_writeObject 4 none) ({ frames := 3 * d + 40, cells := 1, slots := 6, locals := 120 * d + 2000 } : Room) (va_Pc [.ref (Zz Z 3), .ref (Zz Z 1), .ref a2, .int a3] (fun U => cPre D c4 A Z u U)) (va_Qv (fun w => res = (w, .inr ())) (fun w t => wPre D c4 A (cW c4 Z w) t) A) (vx_X (fun kw : Nat × CS => res = (kw.2, .inl kw.1)) (fun E kw t => E = zEx kw.1 ∧ wPre D c4 A (cW c4 Z kw.2) t) A) 1 6 A
def pX1_writePointers_3 (R : zRT) (Z : CZ) (a2 : Nat) : Nat → CS → Int32 → Int32 → Int32 → Int32 → Option (CS × (Nat ⊕ Unit))
  | 0, _, _, _, _, _ => none
  | n + 1, u, x0, x1, x2, x3 => (if x1 ≤ x3 then some (u, .inr ()) else ((pX3_at Z u (Uf u 4 a2) (x0 + x3)).bind fun r_3 => (if r_3 = (0 : Int64) then pX1_writePointers_3 R Z a2 n u x0 x1 x2 (x3 + (1 : Int32)) else (if inb ((Uf u 6 a2) + (1 : Int32)) 10 = true then ((pX3_find Z u a2 (x0 + x3) (Ui u 0) (Zl Z ((Uf u 6 a2) + (1 : Int32)).toNatClampNeg)).bind fun x_7 => match x_7.2 with | .inl j => some (x_7.1, .inl j) | .inr r_7 => ((some ((Ui u 0) - r_7)).bind fun y_8 => ((R Z (sI (x_7.1) 0 y_8) (Zl Z ((Uf u 6 a2) + (1 : Int32)).toNatClampNeg) (x2 + x3)).bind fun x_9 => match x_9.2 with | .inl j => some (x_9.1, .inl j) | .inr r_9 => pX1_writePointers_3 R Z a2 n (x_9.1) x0 x1 x2 (x3 + (1 : Int32))))) else none))))
theorem pX1_writePointers_3_s (R : zRT) (Z : CZ) (a2 : Nat) (n : Nat) (u : CS) (x0 : Int32) (x1 : Int32) (x2 : Int32) (x3 : Int32) : pX1_writePointers_3 R Z a2 (n + 1) u x0 x1 x2 x3 = (if x1 ≤ x3 then some (u, .inr ()) else ((pX3_at Z u (Uf u 4 a2) (x0 + x3)).bind fun r_3 => (if r_3 = (0 : Int64) then pX1_writePointers_3 R Z a2 n u x0 x1 x2 (x3 + (1 : Int32)) else (if inb ((Uf u 6 a2) + (1 : Int32)) 10 = true then ((pX3_find Z u a2 (x0 + x3) (Ui u 0) (Zl Z ((Uf u 6 a2) + (1 : Int32)).toNatClampNeg)).bind fun x_7 => match x_7.2 with | .inl j => some (x_7.1, .inl j) | .inr r_7 => ((some ((Ui u 0) - r_7)).bind fun y_8 => ((R Z (sI (x_7.1) 0 y_8) (Zl Z ((Uf u 6 a2) + (1 : Int32)).toNatClampNeg) (x2 + x3)).bind fun x_9 => match x_9.2 with | .inl j => some (x_9.1, .inl j) | .inr r_9 => pX1_writePointers_3 R Z a2 n (x_9.1) x0 x1 x2 (x3 + (1 : Int32))))) else none)))) := rfl
def pX1_writePointers (R : zRT) (Z : CZ) (u : CS) (a2 : Nat) (a3 : Int32) (a4 : Int32) (a5 : Int32) : Option (CS × (Nat ⊕ Unit)) := pX1_writePointers_3 R Z a2 300 u a3 a4 a5 (0 : Int32)
set_option maxHeartbeats 4000000 in
set_option maxRecDepth 100000 in
theorem ct_X1_writePointers (l : Launch) (hl0 : l.stackTraces = false) (D : va_G) (c4 : Nat → ClassId) (A : Nat → Prop) (Z : CZ) (hZ : cok Z) (R : zRT) (d : Nat) (hrec : zRec l D c4 A Z R d) (u : CS) (a2 : Nat) (ha2 : isF Z a2) (a3 : Int32) (a4 : Int32) (a5 : Int32) (res : CS × (Nat ⊕ Unit)) (h : pX1_writePointers R Z u a2 a3 a4 a5 = some res) : vx_Met l yX1_writePointers (wz yX1_writePointers cX1_writePointers 8 none) ({ frames := (3 * d + 41), cells := 1, slots := 6, locals := (120 * d + 2040) } : Room) (va_Pc [.ref (Zz Z 3), .ref (Zz Z 1), .ref a2, .int a3, .int a4, .int a5] (fun U => cPre D c4 A Z u U)) (va_Qv (fun w => res = (w, .inr ())) (fun w t => wPre D c4 A (cW c4 Z w) t) A) (vx_X (fun kw : Nat × CS => res = (kw.2, .inl kw.1)) (fun E kw t => E = zEx kw.1 ∧ wPre D c4 A (cW c4 Z kw.2) t) A) 1 6 A := by
  refine vx_ofW (cc := cX1_writePointers) (maxL := 8) (ret := none) (by decide) rfl ?_
  intro p e s m args below meth c s₁ B hml htb hv
  obtain ⟨rfl, ⟨hP, hD, hK, hA⟩, hE⟩ := hv
  have hx := B.exec
  have hb := B.bytes
  have hr := B.returns
  have hts := atoms_spec (ws := (wz yX1_writePointers cX1_writePointers 8 none)) B.pre
  have hown : s.vm.findClass RX1 = some m.cls := findClass_of_methodNamed B.named
  have hlocks := B.notSynchronized
  have hS : va_S A s.heap s.heap [] := va_S.rf
  have hl := lv_entry ([.ref (Zz Z 3), .ref (Zz Z 1), .ref a2, .int a3, .int a4, .int a5]) (n := 8) (Nat.le_of_ble_eq_true rfl)
  rw [lg_entry_eq]
  generalize (lg_sl ([.ref (Zz Z 3), .ref (Zz Z 1), .ref a2, .int a3, .int a4, .int a5]) ++ List.replicate (8 - (lg_sl ([.ref (Zz Z 3), .ref (Zz Z 1), .ref a2, .int a3, .int a4, .int a5])).length) Slot.unset).toArray = ls at hl ⊢
  have hl : lv_has ls 8 [(0, .ref (Zz Z 3)), (1, .ref (Zz Z 1)), (2, .ref a2), (3, .int a3), (4, .int a4), (5, .int a5)] := hl
  have k_3 : ∀ (n_3 : Nat), ∀ (u : CS) (H : Heap) (locs : List Loc) (x0 : Int32) (x1 : Int32) (x2 : Int32) (x3 : Int32), va_P D vwCl (cW c4 Z u) H → va_D A (cW c4 Z u) → va_S A s.heap H locs → ∀ (ls : Array Slot), lv_has ls 8 [(0, .ref (Zz Z 3)), (1, .ref (Zz Z 1)), (2, .ref a2), (3, .int x0), (4, .int x1), (5, .int x2), (6, .int x3)] → pX1_writePointers_3 R Z a2 n_3 u x0 x1 x2 x3 = some res → W p l e ({ frames := (3 * d + 41), cells := 1, slots := 6, locals := (120 * d + 2040) } : Room) s m ([.ref (Zz Z 3), .ref (Zz Z 1), .ref a2, .int a3, .int a4, .int a5] : List Value).toArray below meth c H locs 0 0 (vx_MQ below (va_Qv (fun w => res = (w, .inr ())) (fun w t => wPre D c4 A (cW c4 Z w) t) A) (vx_X (fun kw : Nat × CS => res = (kw.2, .inl kw.1)) (fun E kw t => E = zEx kw.1 ∧ wPre D c4 A (cW c4 Z kw.2) t) A) ([.ref (Zz Z 3), .ref (Zz Z 1), .ref a2, .int a3, .int a4, .int a5] : List Value).toArray s 1 6 A) (F0 m 3 ls []) := by
    intro n_3
    induction n_3 with
    | zero =>
      intro u H locs x0 x1 x2 x3 hP hD hS ls hl h
      exact nomatch h
    | succ n_3 ih_3 =>
      intro u H locs x0 x1 x2 x3 hP hD hS ls hl h
      rw [pX1_writePointers_3_s] at h
      refine lv_iload hx hb dX1_writePointers_3 (lv_at hl 6 rfl) ?_
      refine lv_iload hx hb dX1_writePointers_5 (lv_at hl 4 rfl) ?_
      refine lv_icmp_ge (tgt := 82) hx hb dX1_writePointers_7 (by decide) (fun c_1 => ?_) (fun c_1 => ?_)
      · skip
        rw [if_pos c_1] at h
        refine vx_ret ?_
        exact W.vret hx hb hr (fun t ht hW => ⟨⟨u, rfl, (Option.some.inj h).symm, wPre_go hP hD hK hA hS ht hW.alike⟩, hS.F ht⟩) hS.2.2 dX1_writePointers_82
      · skip
        rw [if_neg c_1] at h
        refine lv_aload_n hx hb dX1_writePointers_10 rfl (lv_at hl 1 rfl) ?_
        refine lv_aload_n hx hb dX1_writePointers_11 rfl (lv_at hl 2 rfl) ?_
        obtain ⟨n_2, hn_2⟩ := cW_F (c4 := c4) (u := u) ha2
        refine va_get (D := D) (ci := 1) (v := .int (Uf u 4 a2)) (C := RX2) (T := TX2) (N := 7) hx hb hts (fun w h => wm (zin_X2 w h)) hown hK hP n_2 hn_2 rfl 4 (by decide) (hts _ (wm zw_86)) (fun _ h9 => h9) rfl dX1_writePointers_12 ?_
        refine lv_iload_n hx hb dX1_writePointers_15 rfl (lv_at hl 3 rfl) ?_
        refine lv_iload hx hb dX1_writePointers_16 (lv_at hl 6 rfl) ?_
        refine lv_iadd hx hb dX1_writePointers_18 ?_
        obtain ⟨q_3, hc_3, h⟩ := zb_bind h
        try dsimp only at h
        refine vp_callSl (W.runV (As := [.int (Uf u 4 a2), .int (x0 + x3)]) (rest := []) ⟨hx, hb, hml, hown, hts⟩ (ct_X3_at l D c4 A Z hZ u (Uf u 4 a2) (x0 + x3) _ hc_3) (cwV 2 hts (wz_V zw_600 zw_201 zw_202 zw_2 zw_203) rfl rfl rfl (by decide +kernel) ⟨(show 0 + 1 ≤ (3 * d + 41) by omega), (show 8 + (4 + 11) + 0 ≤ (120 * d + 2040) by omega)⟩) ⟨fbC, va_recv hK hP (ci := 2) (q0 := 1) rfl rfl, fun U9 hU hW => ⟨rfl, goC hP hD hK hA hE hS hU hW⟩⟩ rfl rfl hl.1 rfl (lv_room (Nat.le_of_ble_eq_true rfl)) dX1_writePointers_19 ⟨Nat.le_of_ble_eq_true rfl, Nat.le_of_ble_eq_true rfl⟩) (fun r_3 e_3 => ?_)
        subst e_3
        refine lv_lconst (v := (0 : Int64)) hx hb dX1_writePointers_22 (by decide) ?_
        refine W.lcmp hx hb dX1_writePointers_23 ?_
        refine lv_if_eq (tgt := 76) hx hb dX1_writePointers_24 (by decide) (fun c_4 => ?_) (fun c_4 => ?_)
        · skip
          have c_4 := (lg_cmp_eq _ _).mp c_4
          rw [if_pos c_4] at h
          refine lv_iinc (v := (x3 + (1 : Int32))) (lv' := [(6, .int (x3 + (1 : Int32))), (0, .ref (Zz Z 3)), (1, .ref (Zz Z 1)), (2, .ref a2), (3, .int x0), (4, .int x1), (5, .int x2)]) hx hb dX1_writePointers_76 hl (k := 6) rfl rfl (by decide) rfl (fun ls hl => ?_)
          refine lv_goto (tgt := 3) hx hb dX1_writePointers_79 (by decide) ?_
          exact ih_3 u _ _ x0 x1 x2 (x3 + (1 : Int32)) hP hD hS ls (lv_sub hl [1, 2, 3, 4, 5, 6, 0] rfl) h
        · skip
          have c_4 := mt (lg_cmp_eq _ _).mpr c_4
          rw [if_neg c_4] at h
          refine lv_aload_n hx hb dX1_writePointers_27 rfl (lv_at hl 0 rfl) ?_
          refine va_get (D := D) (ci := 0) (v := .ref (Zz Z 5)) (C := RX1) (T := TX1) (N := 3) hx hb hts (fun w h => wm (zin_X1 w h)) hown hK hP 3 rfl rfl 2 (by decide) (hts _ (wm zw_116)) (fun _ h9 => h9) rfl dX1_writePointers_28 ?_
          refine lv_aload_n hx hb dX1_writePointers_31 rfl (lv_at hl 2 rfl) ?_
          obtain ⟨n_5, hn_5⟩ := cW_F (c4 := c4) (u := u) ha2
          refine va_get (D := D) (ci := 1) (v := .int (Uf u 6 a2)) (C := RX2) (T := TX2) (N := 7) hx hb hts (fun w h => wm (zin_X2 w h)) hown hK hP n_5 hn_5 rfl 6 (by decide) (hts _ (wm zw_94)) (fun _ h9 => h9) rfl dX1_writePointers_32 ?_
          refine lv_iconst (v := (1 : Int32)) hx hb dX1_writePointers_35 (by decide) ?_
          refine lv_iadd hx hb dX1_writePointers_36 ?_
          obtain ⟨hi_6, h⟩ := zb_if h
          refine va_aldq hx hb hK hP 5 1 rfl rfl (inb_in hi_6) dX1_writePointers_37 ?_
          refine W.eq (g2 := F0 m 38 ls ([.ref (Zl Z ((Uf u 6 a2) + (1 : Int32)).toNatClampNeg)])) rfl ?_
          refine lv_astore (lv' := [(7, .ref (Zl Z ((Uf u 6 a2) + (1 : Int32)).toNatClampNeg)), (0, .ref (Zz Z 3)), (1, .ref (Zz Z 1)), (2, .ref a2), (3, .int x0), (4, .int x1), (5, .int x2), (6, .int x3)]) hx hb dX1_writePointers_38 hl (by decide) rfl (fun ls hl => ?_)
          refine lv_aload_n hx hb dX1_writePointers_40 rfl (lv_at hl 1 rfl) ?_
          refine lv_dup hx hb dX1_writePointers_41 rfl ?_
          refine va_get (D := D) (ci := 0) (v := .int (Ui u 0)) (C := RX1) (T := TX1) (N := 3) hx hb hts (fun w h => wm (zin_X1 w h)) hown hK hP 3 rfl rfl 1 (by decide) (hts _ (wm zw_115)) (fun _ h9 => h9) rfl dX1_writePointers_42 ?_
          refine lv_aload_n hx hb dX1_writePointers_45 rfl (lv_at hl 2 rfl) ?_
          refine lv_aload_n hx hb dX1_writePointers_46 rfl (lv_at hl 3 rfl) ?_
          refine lv_iload_n hx hb dX1_writePointers_47 rfl (lv_at hl 4 rfl) ?_
          refine lv_iload hx hb dX1_writePointers_48 (lv_at hl 7 rfl) ?_
          refine lv_iadd hx hb dX1_writePointers_50 ?_
          refine lv_aload_n hx hb dX1_writePointers_51 rfl (lv_at hl 1 rfl) ?_
          refine va_get (D := D) (ci := 0) (v := .int (Ui u 0)) (C := RX1) (T := TX1) (N := 3) hx hb hts (fun w h => wm (zin_X1 w h)) hown hK hP 3 rfl rfl 1 (by decide) (hts _ (wm zw_115)) (fun _ h9 => h9) rfl dX1_writePointers_52 ?_
          refine lv_aload hx hb dX1_writePointers_55 (lv_at hl 0 rfl) ?_
          obtain ⟨x_7, hc_7, h⟩ := zb_bind h
          try dsimp only at h
          refine vx_calli (vx_runV (As := [.ref a2, .int (x0 + x3), .int (Ui u 0), .ref (Zl Z ((Uf u 6 a2) + (1 : Int32)).toNatClampNeg)]) (rest := [.int (Ui u 0), .ref (Zz Z 3)]) ⟨hx, hb, hml, hown, hts⟩ (ct_X3_find l hl0 D c4 A Z hZ u a2 ha2 (x0 + x3) (Ui u 0) (Zl Z ((Uf u 6 a2) + (1 : Int32)).toNatClampNeg) (cok_l hZ hi_6) _ hc_7) (cwV 4 hts (wz_V zw_605 zw_521 zw_522 zw_2 zw_523) rfl rfl rfl (by decide +kernel) ⟨(show 8 + 1 ≤ (3 * d + 41) by omega), (show 8 + (8 + 11) + 144 ≤ (120 * d + 2040) by omega)⟩) ⟨fbC, va_recv hK hP (ci := 2) (q0 := 1) rfl rfl, fun U9 hU hW => ⟨rfl, goC hP hD hK hA hE hS hU hW⟩⟩ rfl rfl hl.1 rfl (lv_room (Nat.le_of_ble_eq_true rfl)) dX1_writePointers_57 ⟨Nat.le_of_ble_eq_true rfl, Nat.le_of_ble_eq_true rfl⟩) hS (fun q _ h => h) (fun q h => h) (fun q _ h => h) (fun E9 ce9 q9 kw_7 t H1 locs ht hvm e_7 hB hz1 hk1 hS hc9 hv9 hcl9 => ?_) (fun r_7 u_7 t H1 locs ht hvm e_7 hB hz1 hk1 hS => ?_)
          · subst e_7
            try dsimp only at h
            obtain ⟨rfl, hP, hD, -, -⟩ := hB
            rw [ht] at hP
            exact vx_out (fun x9 hx9 => (htb x9 hx9).elim) hlocks hc9 hv9 hcl9 (fun t ht hal => ⟨kw_7, (Option.some.inj h).symm, ⟨rfl, wPre_go hP hD hK hA hS ht hal⟩, hS.F ht⟩) hS.2.2 (Nat.le_of_ble_eq_true rfl) (Nat.le_of_ble_eq_true rfl)
          subst e_7
          try dsimp only at h
          obtain ⟨hP, hD, -, -⟩ := hB
          rw [ht] at hP
          generalize H1 = H at hP hS ⊢
          refine lv_isub hx hb dX1_writePointers_60 ?_
          obtain ⟨y_8, e_8, h⟩ := zb_bind h
          try dsimp only at h
          refine zt_i (Option.some.inj e_8) ?_
          refine va_put (D := D) (ci := 0) (v := .int y_8) (ty := .int) (C := RX1) (T := TX1) (N := 3) hx hb hts (fun w h => wm (zin_X1 w h)) tyX1 tyX1_ok nmX1 hown hK hP hD hS 3 rfl rfl 1 (by decide) (hts _ (wm zw_115)) (fun _ h9 => h9) rfl (by decide +kernel) rfl rfl (Nat.le_of_ble_eq_true rfl) dX1_writePointers_61 (fun H locs hP hD hS => ?_)
          have hP : va_P D vwCl (cW c4 Z (sI u_7 0 y_8)) H := hP
          have hD : va_D A (cW c4 Z (sI u_7 0 y_8)) := hD
          refine lv_aload_n hx hb dX1_writePointers_64 rfl (lv_at hl 1 rfl) ?_
          refine lv_aload_n hx hb dX1_writePointers_65 rfl (lv_at hl 2 rfl) ?_
          refine lv_aload hx hb dX1_writePointers_66 (lv_at hl 0 rfl) ?_
          refine lv_iload hx hb dX1_writePointers_68 (lv_at hl 6 rfl) ?_
          refine lv_iload hx hb dX1_writePointers_70 (lv_at hl 7 rfl) ?_
          refine lv_iadd hx hb dX1_writePointers_72 ?_
          obtain ⟨x_9, hc_9, h⟩ := zb_bind h
          try dsimp only at h
          refine vx_callv (vx_runV (As := [.ref (Zz Z 1), .ref (Zl Z ((Uf u 6 a2) + (1 : Int32)).toNatClampNeg), .int (x2 + x3)]) (rest := []) ⟨hx, hb, hml, hown, hts⟩ (hrec (sI u_7 0 y_8) (Zl Z ((Uf u 6 a2) + (1 : Int32)).toNatClampNeg) (cok_l hZ hi_6) (x2 + x3) _ hc_9) (cwV 3 hts (wz_V zw_606 zw_608 zs_13 zw_4 zw_609) rfl rfl rfl (by decide +kernel) ⟨(show (3 * d + 40) + 1 ≤ (3 * d + 41) by omega), (show 8 + (4 + 11) + (120 * d + 2000) ≤ (120 * d + 2040) by omega)⟩) ⟨fbC, va_recv hK hP (ci := 0) (q0 := 3) rfl rfl, fun U9 hU hW => ⟨rfl, goC hP hD hK hA hE hS hU hW⟩⟩ rfl rfl hl.1 rfl (lv_room (Nat.le_of_ble_eq_true rfl)) dX1_writePointers_73 ⟨Nat.le_of_ble_eq_true rfl, Nat.le_of_ble_eq_true rfl⟩) hS (fun q _ h => h) (fun q h => h) (fun q _ h => h) (fun E9 ce9 q9 kw_9 t H1 locs ht hvm e_9 hB hz1 hk1 hS hc9 hv9 hcl9 => ?_) (fun u_9 t H1 locs ht hvm e_9 hB hz1 hk1 hS => ?_)
          · subst e_9
            try dsimp only at h
            obtain ⟨rfl, hP, hD, -, -⟩ := hB
            rw [ht] at hP
            exact vx_out (fun x9 hx9 => (htb x9 hx9).elim) hlocks hc9 hv9 hcl9 (fun t ht hal => ⟨kw_9, (Option.some.inj h).symm, ⟨rfl, wPre_go hP hD hK hA hS ht hal⟩, hS.F ht⟩) hS.2.2 (Nat.le_of_ble_eq_true rfl) (Nat.le_of_ble_eq_true rfl)
          subst e_9
          try dsimp only at h
          obtain ⟨hP, hD, -, -⟩ := hB
          rw [ht] at hP
          generalize H1 = H at hP hS ⊢
          refine lv_iinc (v := (x3 + (1 : Int32))) (lv' := [(6, .int (x3 + (1 : Int32))), (7, .ref (Zl Z ((Uf u 6 a2) + (1 : Int32)).toNatClampNeg)), (0, .ref (Zz Z 3)), (1, .ref (Zz Z 1)), (2, .ref a2), (3, .int x0), (4, .int x1), (5, .int x2)]) hx hb dX1_writePointers_76 hl (k := 7) rfl rfl (by decide) rfl (fun ls hl => ?_)
          refine lv_goto (tgt := 3) hx hb dX1_writePointers_79 (by decide) ?_
          exact ih_3 u_9 _ _ x0 x1 x2 (x3 + (1 : Int32)) hP hD hS ls (lv_sub hl [2, 3, 4, 5, 6, 7, 0] rfl) h
  unfold pX1_writePointers at h
  refine lv_iconst (v := (0 : Int32)) hx hb dX1_writePointers_0 (by decide) ?_
  refine lv_istore (lv' := [(6, .int (0 : Int32)), (0, .ref (Zz Z 3)), (1, .ref (Zz Z 1)), (2, .ref a2), (3, .int a3), (4, .int a4), (5, .int a5)]) hx hb dX1_writePointers_1 hl (by decide) rfl (fun ls hl => ?_)
  exact k_3 300 u _ _ a3 a4 a5 (0 : Int32) hP hD hS ls (lv_sub hl [1, 2, 3, 4, 5, 6, 0] rfl) h
