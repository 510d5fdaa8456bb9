def pX1_writeObject : Nat → CZ → CS → Nat → Int32 → Option (CS × (Nat ⊕ Unit))
  | 0, _, _, _, _ => none
  | d + 1, Z, u, a2, a3 => (if (Uf u 0 a2) = (0 : Int32) then ((pX1_writeStruct (pX1_writeObject d) Z u a2 a3).bind fun x_3 => match x_3.2 with | .inl j => some (x_3.1, .inl j) | .inr r_3 => some ((x_3.1), .inr ())) else (if (Uf u 0 a2) = (7 : Int32) then ((pX1_writePointerList (pX1_writeObject d) Z u a2 a3).bind fun x_5 => match x_5.2 with | .inl j => some (x_5.1, .inl j) | .inr r_5 => some ((x_5.1), .inr ())) else (if (Uf u 0 a2) = (8 : Int32) then ((pX1_writeStructList (pX1_writeObject d) Z u a2 a3).bind fun x_7 => match x_7.2 with | .inl j => some (x_7.1, .inl j) | .inr r_7 => some ((x_7.1), .inr ())) else ((pX1_writeFlatList Z u a2 a3).bind fun x_8 => some ((x_8.1), .inr ())))))
theorem pX1_writeObject_s (d : Nat) (Z : CZ) (u : CS) (a2 : Nat) (a3 : Int32) : pX1_writeObject (d + 1) Z u a2 a3 = (if (Uf u 0 a2) = (0 : Int32) then ((pX1_writeStruct (pX1_writeObject d) Z u a2 a3).bind fun x_3 => match x_3.2 with | .inl j => some (x_3.1, .inl j) | .inr r_3 => some ((x_3.1), .inr ())) else (if (Uf u 0 a2) = (7 : Int32) then ((pX1_writePointerList (pX1_writeObject d) Z u a2 a3).bind fun x_5 => match x_5.2 with | .inl j => some (x_5.1, .inl j) | .inr r_5 => some ((x_5.1), .inr ())) else (if (Uf u 0 a2) = (8 : Int32) then ((pX1_writeStructList (pX1_writeObject d) Z u a2 a3).bind fun x_7 => match x_7.2 with | .inl j => some (x_7.1, .inl j) | .inr r_7 => some ((x_7.1), .inr ())) else ((pX1_writeFlatList Z u a2 a3).bind fun x_8 => some ((x_8.1), .inr ()))))) := rfl
set_option maxHeartbeats 4000000 in
set_option maxRecDepth 100000 in
theorem ct_X1_writeObject (l : Launch) (hl0 : l.stackTraces = false) (D : va_G) (c4 : Nat → ClassId) (A : Nat → Prop) (Z : CZ) (hZ : cok Z) : ∀ d : Nat, zRec l D c4 A Z (pX1_writeObject d) d := by
  intro d
  induction d with
  | zero =>
    intro u a2 ha2 a3 res h
    exact nomatch h
  | succ d ih =>
    intro u a2 ha2 a3 res h
    refine vx_ofW (cc := cX1_writeObject) (maxL := 4) (ret := none) (by decide) rfl ?_
    intro p e s m args below meth c s₁ B hml htb hv
    obtain ⟨rfl, ⟨hP, hD, hK, hA⟩, hE⟩ := hv
    have hx := B.exec
    have hb := B.bytes
    have hr := B.returns
    have hts := atoms_spec (ws := (wz yX1_writeObject cX1_writeObject 4 none)) B.pre
    have hown : s.vm.findClass RX1 = some m.cls := findClass_of_methodNamed B.named
    have hlocks := B.notSynchronized
    have hS : va_S A s.heap s.heap [] := va_S.rf
    have hl := lv_entry ([.ref (Zz Z 3), .ref (Zz Z 1), .ref a2, .int a3]) (n := 4) (Nat.le_of_ble_eq_true rfl)
    rw [lg_entry_eq]
    generalize (lg_sl ([.ref (Zz Z 3), .ref (Zz Z 1), .ref a2, .int a3]) ++ List.replicate (4 - (lg_sl ([.ref (Zz Z 3), .ref (Zz Z 1), .ref a2, .int a3])).length) Slot.unset).toArray = ls at hl ⊢
    have hl : lv_has ls 4 [(0, .ref (Zz Z 3)), (1, .ref (Zz Z 1)), (2, .ref a2), (3, .int a3)] := hl
    rw [pX1_writeObject_s] at h
    refine lv_aload_n hx hb dX1_writeObject_0 rfl (lv_at hl 2 rfl) ?_
    obtain ⟨n_1, hn_1⟩ := cW_F (c4 := c4) (u := u) ha2
    refine va_get (D := D) (ci := 1) (v := .int (Uf u 0 a2)) (C := RX2) (T := TX2) (N := 7) hx hb hts (fun w h => wm (zin_X2 w h)) hown hK hP n_1 hn_1 rfl 0 (by decide) (hts _ (wm zw_71)) (fun _ h9 => h9) rfl dX1_writeObject_1 ?_
    by_cases c_2 : (Uf u 0 a2) = (0 : Int32)
    · rw [if_pos c_2] at h
      refine lv_lookup (tgt := 40) (off := 36) hx hb dX1_writeObject_4 (by decide) (by rw [c_2] <;> rfl) (by decide) ?_
      refine lv_aload_n hx hb dX1_writeObject_40 rfl (lv_at hl 0 rfl) ?_
      refine lv_aload_n hx hb dX1_writeObject_41 rfl (lv_at hl 1 rfl) ?_
      refine lv_aload_n hx hb dX1_writeObject_42 rfl (lv_at hl 2 rfl) ?_
      refine lv_iload_n hx hb dX1_writeObject_43 rfl (lv_at hl 3 rfl) ?_
      obtain ⟨x_3, hc_3, h⟩ := zb_bind h
      try dsimp only at h
      refine vx_callv (vx_runV (As := [.ref (Zz Z 1), .ref a2, .int a3]) (rest := []) ⟨hx, hb, hml, hown, hts⟩ (ct_X1_writeStruct l hl0 D c4 A Z hZ (pX1_writeObject d) d ih u a2 ha2 a3 _ hc_3) (cwV 3 hts (wz_V zw_578 zw_580 zs_9 zw_4 zw_581) rfl rfl rfl (by decide +kernel) ⟨(show (3 * d + 42) + 1 ≤ (3 * (d + 1) + 40) by omega), (show 8 + (9 + 11) + (120 * d + 2080) ≤ (120 * (d + 1) + 2000) by omega)⟩) ⟨fbC, va_recv hK hP (ci := 0) (q0 := 3) rfl rfl, fun U9 hU hW => ⟨rfl, goC hP hD hK hA hE hS hU hW⟩⟩ rfl rfl hl.1 rfl (lv_room (Nat.le_of_ble_eq_true rfl)) dX1_writeObject_44 ⟨Nat.le_of_ble_eq_true rfl, Nat.le_of_ble_eq_true rfl⟩) hS (fun q _ h => h) (fun q h => h) (fun q _ h => h) (fun E9 ce9 q9 kw_3 t H1 locs ht hvm e_3 hB hz1 hk1 hS hc9 hv9 hcl9 => ?_) (fun u_3 t H1 locs ht hvm e_3 hB hz1 hk1 hS => ?_)
      · subst e_3
        try dsimp only at h
        obtain ⟨rfl, hP, hD, -, -⟩ := hB
        rw [ht] at hP
        exact vx_out (fun x9 hx9 => (htb x9 hx9).elim) hlocks hc9 hv9 hcl9 (fun t ht hal => ⟨kw_3, (Option.some.inj h).symm, ⟨rfl, wPre_go hP hD hK hA hS ht hal⟩, hS.F ht⟩) hS.2.2 (Nat.le_of_ble_eq_true rfl) (Nat.le_of_ble_eq_true rfl)
      subst e_3
      try dsimp only at h
      obtain ⟨hP, hD, -, -⟩ := hB
      rw [ht] at hP
      generalize H1 = H at hP hS ⊢
      refine lv_goto (tgt := 77) hx hb dX1_writeObject_47 (by decide) ?_
      refine vx_ret ?_
      exact W.vret hx hb hr (fun t ht hW => ⟨⟨u_3, rfl, (Option.some.inj h).symm, wPre_go hP hD hK hA hS ht hW.alike⟩, hS.F ht⟩) hS.2.2 dX1_writeObject_77
    rw [if_neg c_2] at h
    by_cases c_4 : (Uf u 0 a2) = (7 : Int32)
    · rw [if_pos c_4] at h
      refine lv_lookup (tgt := 50) (off := 46) hx hb dX1_writeObject_4 (by decide) (by rw [c_4] <;> rfl) (by decide) ?_
      refine lv_aload_n hx hb dX1_writeObject_50 rfl (lv_at hl 0 rfl) ?_
      refine lv_aload_n hx hb dX1_writeObject_51 rfl (lv_at hl 1 rfl) ?_
      refine lv_aload_n hx hb dX1_writeObject_52 rfl (lv_at hl 2 rfl) ?_
      refine lv_iload_n hx hb dX1_writeObject_53 rfl (lv_at hl 3 rfl) ?_
      obtain ⟨x_5, hc_5, h⟩ := zb_bind h
      try dsimp only at h
      refine vx_callv (vx_runV (As := [.ref (Zz Z 1), .ref a2, .int a3]) (rest := []) ⟨hx, hb, hml, hown, hts⟩ (ct_X1_writePointerList l hl0 D c4 A Z hZ (pX1_writeObject d) d ih u a2 ha2 a3 _ hc_5) (cwV 3 hts (wz_V zw_610 zw_612 zs_14 zw_4 zw_613) rfl rfl rfl (by decide +kernel) ⟨(show (3 * d + 42) + 1 ≤ (3 * (d + 1) + 40) by omega), (show 8 + (6 + 11) + (120 * d + 2080) ≤ (120 * (d + 1) + 2000) by omega)⟩) ⟨fbC, va_recv hK hP (ci := 0) (q0 := 3) rfl rfl, fun U9 hU hW => ⟨rfl, goC hP hD hK hA hE hS hU hW⟩⟩ rfl rfl hl.1 rfl (lv_room (Nat.le_of_ble_eq_true rfl)) dX1_writeObject_54 ⟨Nat.le_of_ble_eq_true rfl, Nat.le_of_ble_eq_true rfl⟩) hS (fun q _ h => h) (fun q h => h) (fun q _ h => h) (fun E9 ce9 q9 kw_5 t H1 locs ht hvm e_5 hB hz1 hk1 hS hc9 hv9 hcl9 => ?_) (fun u_5 t H1 locs ht hvm e_5 hB hz1 hk1 hS => ?_)
      · subst e_5
        try dsimp only at h
        obtain ⟨rfl, hP, hD, -, -⟩ := hB
        rw [ht] at hP
        exact vx_out (fun x9 hx9 => (htb x9 hx9).elim) hlocks hc9 hv9 hcl9 (fun t ht hal => ⟨kw_5, (Option.some.inj h).symm, ⟨rfl, wPre_go hP hD hK hA hS ht hal⟩, hS.F ht⟩) hS.2.2 (Nat.le_of_ble_eq_true rfl) (Nat.le_of_ble_eq_true rfl)
      subst e_5
      try dsimp only at h
      obtain ⟨hP, hD, -, -⟩ := hB
      rw [ht] at hP
      generalize H1 = H at hP hS ⊢
      refine lv_goto (tgt := 77) hx hb dX1_writeObject_57 (by decide) ?_
      refine vx_ret ?_
      exact W.vret hx hb hr (fun t ht hW => ⟨⟨u_5, rfl, (Option.some.inj h).symm, wPre_go hP hD hK hA hS ht hW.alike⟩, hS.F ht⟩) hS.2.2 dX1_writeObject_77
    rw [if_neg c_4] at h
    by_cases c_6 : (Uf u 0 a2) = (8 : Int32)
    · rw [if_pos c_6] at h
      refine lv_lookup (tgt := 60) (off := 56) hx hb dX1_writeObject_4 (by decide) (by rw [c_6] <;> rfl) (by decide) ?_
      refine lv_aload_n hx hb dX1_writeObject_60 rfl (lv_at hl 0 rfl) ?_
      refine lv_aload_n hx hb dX1_writeObject_61 rfl (lv_at hl 1 rfl) ?_
      refine lv_aload_n hx hb dX1_writeObject_62 rfl (lv_at hl 2 rfl) ?_
      refine lv_iload_n hx hb dX1_writeObject_63 rfl (lv_at hl 3 rfl) ?_
      obtain ⟨x_7, hc_7, h⟩ := zb_bind h
      try dsimp only at h
      refine vx_callv (vx_runV (As := [.ref (Zz Z 1), .ref a2, .int a3]) (rest := []) ⟨hx, hb, hml, hown, hts⟩ (ct_X1_writeStructList l hl0 D c4 A Z hZ (pX1_writeObject d) d ih u a2 ha2 a3 _ hc_7) (cwV 3 hts (wz_V zw_617 zw_619 zs_15 zw_4 zw_620) rfl rfl rfl (by decide +kernel) ⟨(show (3 * d + 42) + 1 ≤ (3 * (d + 1) + 40) by omega), (show 8 + (12 + 11) + (120 * d + 2080) ≤ (120 * (d + 1) + 2000) by omega)⟩) ⟨fbC, va_recv hK hP (ci := 0) (q0 := 3) rfl rfl, fun U9 hU hW => ⟨rfl, goC hP hD hK hA hE hS hU hW⟩⟩ rfl rfl hl.1 rfl (lv_room (Nat.le_of_ble_eq_true rfl)) dX1_writeObject_64 ⟨Nat.le_of_ble_eq_true rfl, Nat.le_of_ble_eq_true rfl⟩) hS (fun q _ h => h) (fun q h => h) (fun q _ h => h) (fun E9 ce9 q9 kw_7 t H1 locs ht hvm e_7 hB hz1 hk1 hS hc9 hv9 hcl9 => ?_) (fun u_7 t H1 locs ht hvm e_7 hB hz1 hk1 hS => ?_)
      · subst e_7
        try dsimp only at h
        obtain ⟨rfl, hP, hD, -, -⟩ := hB
        rw [ht] at hP
        exact vx_out (fun x9 hx9 => (htb x9 hx9).elim) hlocks hc9 hv9 hcl9 (fun t ht hal => ⟨kw_7, (Option.some.inj h).symm, ⟨rfl, wPre_go hP hD hK hA hS ht hal⟩, hS.F ht⟩) hS.2.2 (Nat.le_of_ble_eq_true rfl) (Nat.le_of_ble_eq_true rfl)
      subst e_7
      try dsimp only at h
      obtain ⟨hP, hD, -, -⟩ := hB
      rw [ht] at hP
      generalize H1 = H at hP hS ⊢
      refine lv_goto (tgt := 77) hx hb dX1_writeObject_67 (by decide) ?_
      refine vx_ret ?_
      exact W.vret hx hb hr (fun t ht hW => ⟨⟨u_7, rfl, (Option.some.inj h).symm, wPre_go hP hD hK hA hS ht hW.alike⟩, hS.F ht⟩) hS.2.2 dX1_writeObject_77
    rw [if_neg c_6] at h
    refine lv_lookup (tgt := 70) (off := 66) hx hb dX1_writeObject_4 (by decide) ((lv_osw c_2 (by decide)).trans ((lv_osw c_4 (by decide)).trans ((lv_osw c_6 (by decide)).trans (rfl)))) (by decide) ?_
    refine lv_aload_n hx hb dX1_writeObject_70 rfl (lv_at hl 0 rfl) ?_
    refine lv_aload_n hx hb dX1_writeObject_71 rfl (lv_at hl 1 rfl) ?_
    refine lv_aload_n hx hb dX1_writeObject_72 rfl (lv_at hl 2 rfl) ?_
    refine lv_iload_n hx hb dX1_writeObject_73 rfl (lv_at hl 3 rfl) ?_
    obtain ⟨x_8, hc_8, h⟩ := zb_bind h
    try dsimp only at h
    refine va_callv (va_runV (As := [.ref (Zz Z 1), .ref a2, .int a3]) (rest := []) ⟨hx, hb, hml, hown, hts⟩ (ct_X1_writeFlatList l D c4 A Z hZ u a2 ha2 a3 _ hc_8) (cwV 3 hts (wz_V zw_623 zw_625 zs_16 zw_4 zw_626) rfl rfl rfl (by decide +kernel) ⟨(show 2 + 1 ≤ (3 * (d + 1) + 40) by omega), (show 8 + (10 + 11) + 49 ≤ (120 * (d + 1) + 2000) by omega)⟩) ⟨fbC, va_recv hK hP (ci := 0) (q0 := 3) rfl rfl, fun U9 hU hW => ⟨rfl, goC hP hD hK hA hE hS hU hW⟩⟩ rfl rfl hl.1 rfl (lv_room (Nat.le_of_ble_eq_true rfl)) dX1_writeObject_74 ⟨Nat.le_of_ble_eq_true rfl, Nat.le_of_ble_eq_true rfl⟩) hS (fun q _ h => h) (fun q h => h) (fun u_8 t H1 locs ht hvm e_8 hB hz1 hk1 hS => ?_)
    subst e_8
    try dsimp only at h
    obtain ⟨hP, hD, -, -⟩ := hB
    rw [ht] at hP
    generalize H1 = H at hP hS ⊢
    refine vx_ret ?_
    exact W.vret hx hb hr (fun t ht hW => ⟨⟨u_8, rfl, (Option.some.inj h).symm, wPre_go hP hD hK hA hS ht hW.alike⟩, hS.F ht⟩) hS.2.2 dX1_writeObject_77
def pX1_writeRoot (Z : CZ) (u : CS) (a2 : Int32) : Option (CS × (Nat ⊕ Unit)) := (if inb (1 : Int32) 10 = true then ((pX3_findRoot Z u a2 (Zl Z (1 : Int32).toNatClampNeg)).bind fun x_2 => match x_2.2 with | .inl j => some (x_2.1, .inl j) | .inr r_2 => ((some (a2 - r_2)).bind fun y_3 => ((pX4_append Z (sS (sI (x_2.1) 0 y_3) (Zz Z 9) (0 : Int32)) (Zz Z 9) (0 : Int64)).bind fun x_6 => ((pX1_writeStruct (pX1_writeObject 9) Z (x_6.1) (Zl Z (1 : Int32).toNatClampNeg) (0 : Int32)).bind fun x_8 => match x_8.2 with | .inl j => some (x_8.1, .inl j) | .inr r_8 => some ((x_8.1), .inr ()))))) else none)
set_option maxHeartbeats 4000000 in
set_option maxRecDepth 100000 in
theorem ct_X1_writeRoot (l : Launch) (hl0 : l.stackTraces = false) (D : va_G) (c4 : Nat → ClassId) (A : Nat → Prop) (Z : CZ) (hZ : cok Z) (u : CS) (a2 : Int32) (res : CS × (Nat ⊕ Unit)) (h : pX1_writeRoot Z u a2 = some res) : vx_Met l yX1_writeRoot (wz yX1_writeRoot cX1_writeRoot 4 none) ({ frames := 100, cells := 1, slots := 6, locals := 4000 } : Room) (va_Pc [.ref (Zz Z 3), .ref (Zz Z 1), .int a2] (fun U => cPre D c4 A Z u U)) (va_Qv (fun w => res = (w, .inr ())) (fun w t => wPre D c4 A (cW c4 Z w) t) A) (vx_X (fun kw : Nat × CS => res = (kw.2, .inl kw.1)) (fun E kw t => E = zEx kw.1 ∧ wPre D c4 A (cW c4 Z kw.2) t) A) 1 6 A := by
  refine vx_ofW (cc := cX1_writeRoot) (maxL := 4) (ret := none) (by decide) rfl ?_
  intro p e s m args below meth c s₁ B hml htb hv
  obtain ⟨rfl, ⟨hP, hD, hK, hA⟩, hE⟩ := hv
  have hx := B.exec
  have hb := B.bytes
  have hr := B.returns
  have hts := atoms_spec (ws := (wz yX1_writeRoot cX1_writeRoot 4 none)) B.pre
  have hown : s.vm.findClass RX1 = some m.cls := findClass_of_methodNamed B.named
  have hlocks := B.notSynchronized
  have hS : va_S A s.heap s.heap [] := va_S.rf
  have hl := lv_entry ([.ref (Zz Z 3), .ref (Zz Z 1), .int a2]) (n := 4) (Nat.le_of_ble_eq_true rfl)
  rw [lg_entry_eq]
  generalize (lg_sl ([.ref (Zz Z 3), .ref (Zz Z 1), .int a2]) ++ List.replicate (4 - (lg_sl ([.ref (Zz Z 3), .ref (Zz Z 1), .int a2])).length) Slot.unset).toArray = ls at hl ⊢
  have hl : lv_has ls 4 [(0, .ref (Zz Z 3)), (1, .ref (Zz Z 1)), (2, .int a2)] := hl
  unfold pX1_writeRoot at h
  refine lv_aload_n hx hb dX1_writeRoot_0 rfl (lv_at hl 0 rfl) ?_
  refine va_get (D := D) (ci := 0) (v := .ref (Zz Z 5)) (C := RX1) (T := TX1) (N := 3) hx hb hts (fun w h => wm (zin_X1 w h)) hown hK hP 3 rfl rfl 2 (by decide) (hts _ (wm zw_116)) (fun _ h9 => h9) rfl dX1_writeRoot_1 ?_
  refine lv_iconst (v := (1 : Int32)) hx hb dX1_writeRoot_4 (by decide) ?_
  obtain ⟨hi_1, h⟩ := zb_if h
  refine va_aldq hx hb hK hP 5 1 rfl rfl (inb_in hi_1) dX1_writeRoot_5 ?_
  refine W.eq (g2 := F0 m 6 ls ([.ref (Zl Z (1 : Int32).toNatClampNeg)])) rfl ?_
  refine lv_astore_n (lv' := [(3, .ref (Zl Z (1 : Int32).toNatClampNeg)), (0, .ref (Zz Z 3)), (1, .ref (Zz Z 1)), (2, .int a2)]) hx hb dX1_writeRoot_6 rfl hl (by decide) rfl (fun ls hl => ?_)
  refine lv_aload_n hx hb dX1_writeRoot_7 rfl (lv_at hl 1 rfl) ?_
  refine lv_iload_n hx hb dX1_writeRoot_8 rfl (lv_at hl 3 rfl) ?_
  refine lv_aload_n hx hb dX1_writeRoot_9 rfl (lv_at hl 2 rfl) ?_
  refine lv_iload_n hx hb dX1_writeRoot_10 rfl (lv_at hl 3 rfl) ?_
  refine lv_aload_n hx hb dX1_writeRoot_11 rfl (lv_at hl 0 rfl) ?_
  obtain ⟨x_2, hc_2, h⟩ := zb_bind h
  try dsimp only at h
  refine vx_calli (vx_runV (As := [.int a2, .ref (Zl Z (1 : Int32).toNatClampNeg)]) (rest := [.int a2, .ref (Zz Z 3)]) ⟨hx, hb, hml, hown, hts⟩ (ct_X3_findRoot l hl0 D c4 A Z hZ u a2 (Zl Z (1 : Int32).toNatClampNeg) (cok_l hZ hi_1) _ hc_2) (cwV 2 hts (wz_V zw_576 zw_255 zw_256 zw_2 zw_257) rfl rfl rfl (by decide +kernel) ⟨Nat.le_of_ble_eq_true rfl, Nat.le_of_ble_eq_true rfl⟩) ⟨fbC, va_recv hK hP (ci := 2) (q0 := 1) rfl rfl, fun U9 hU hW => ⟨rfl, goC hP hD hK hA hE hS hU hW⟩⟩ rfl rfl hl.1 rfl (lv_room (Nat.le_of_ble_eq_true rfl)) dX1_writeRoot_12 ⟨Nat.le_of_ble_eq_true rfl, Nat.le_of_ble_eq_true rfl⟩) hS (fun q _ h => h) (fun q h => h) (fun q _ h => h) (fun E9 ce9 q9 kw_2 t H1 locs ht hvm e_2 hB hz1 hk1 hS hc9 hv9 hcl9 => ?_) (fun r_2 u_2 t H1 locs ht hvm e_2 hB hz1 hk1 hS => ?_)
  · subst e_2
    try dsimp only at h
    obtain ⟨rfl, hP, hD, -, -⟩ := hB
    rw [ht] at hP
    exact vx_out (fun x9 hx9 => (htb x9 hx9).elim) hlocks hc9 hv9 hcl9 (fun t ht hal => ⟨kw_2, (Option.some.inj h).symm, ⟨rfl, wPre_go hP hD hK hA hS ht hal⟩, hS.F ht⟩) hS.2.2 (Nat.le_of_ble_eq_true rfl) (Nat.le_of_ble_eq_true rfl)
  subst e_2
  try dsimp only at h
  obtain ⟨hP, hD, -, -⟩ := hB
  rw [ht] at hP
  generalize H1 = H at hP hS ⊢
  refine lv_isub hx hb dX1_writeRoot_15 ?_
  obtain ⟨y_3, e_3, h⟩ := zb_bind h
  try dsimp only at h
  refine zt_i (Option.some.inj e_3) ?_
  refine va_put (D := D) (ci := 0) (v := .int y_3) (ty := .int) (C := RX1) (T := TX1) (N := 3) hx hb hts (fun w h => wm (zin_X1 w h)) tyX1 tyX1_ok nmX1 hown hK hP hD hS 3 rfl rfl 1 (by decide) (hts _ (wm zw_115)) (fun _ h9 => h9) rfl (by decide +kernel) rfl rfl (Nat.le_of_ble_eq_true rfl) dX1_writeRoot_16 (fun H locs hP hD hS => ?_)
  have hP : va_P D vwCl (cW c4 Z (sI u_2 0 y_3)) H := hP
  have hD : va_D A (cW c4 Z (sI u_2 0 y_3)) := hD
  refine lv_aload_n hx hb dX1_writeRoot_19 rfl (lv_at hl 1 rfl) ?_
  refine va_get (D := D) (ci := 0) (v := .ref (Zz Z 9)) (C := RX1) (T := TX1) (N := 3) hx hb hts (fun w h => wm (zin_X1 w h)) hown hK hP 3 rfl rfl 0 (by decide) (hts _ (wm zw_113)) (fun _ h9 => h9) rfl dX1_writeRoot_20 ?_
  refine lv_iconst (v := (0 : Int32)) hx hb dX1_writeRoot_23 (by decide) ?_
  obtain ⟨n_4, hn_4⟩ := cW_R (c4 := c4) (u := (sI u_2 0 y_3)) hZ.2.2.2.2.2.2
  refine va_put (D := D) (ci := 3) (v := .int (0 : Int32)) (ty := .int) (C := RX4) (T := TX4) (N := 2) hx hb hts (fun w h => wm (zin_X4 w h)) tyX4 tyX4_ok nmX4 hown hK hP hD hS n_4 hn_4 rfl 1 (by decide) (hts _ (wm zw_42)) (fun _ h9 => h9) rfl (by decide +kernel) rfl rfl (Nat.le_of_ble_eq_true rfl) dX1_writeRoot_24 (fun H locs hP hD hS => ?_)
  have hq := fun (hd : va_D A (cW c4 Z (sI u_2 0 y_3))) => cW_setS (A := A) (v := (0 : Int32)) hd hZ.2.2.2.2.2.2 hn_4 
  have hD0 : va_D A (cW c4 Z (sI u_2 0 y_3)) := by assumption
  have hP : va_P D vwCl (cW c4 Z (sS (sI u_2 0 y_3) (Zz Z 9) (0 : Int32))) H := by rw [← hq hD0]; exact hP
  have hD : va_D A (cW c4 Z (sS (sI u_2 0 y_3) (Zz Z 9) (0 : Int32))) := by rw [← hq hD0]; exact hD
  refine lv_aload_n hx hb dX1_writeRoot_27 rfl (lv_at hl 1 rfl) ?_
  refine va_get (D := D) (ci := 0) (v := .ref (Zz Z 9)) (C := RX1) (T := TX1) (N := 3) hx hb hts (fun w h => wm (zin_X1 w h)) hown hK hP 3 rfl rfl 0 (by decide) (hts _ (wm zw_113)) (fun _ h9 => h9) rfl dX1_writeRoot_28 ?_
  refine lv_lconst (v := (0 : Int64)) hx hb dX1_writeRoot_31 (by decide) ?_
  obtain ⟨n_7, hn_7⟩ := cW_R (c4 := c4) (u := (sS (sI u_2 0 y_3) (Zz Z 9) (0 : Int32))) hZ.2.2.2.2.2.2
  obtain ⟨x_6, hc_6, h⟩ := zb_bind h
  try dsimp only at h
  refine va_calli (va_runV (As := [.long (0 : Int64)]) (rest := []) ⟨hx, hb, hml, hown, hts⟩ (ct_X4_append l D c4 A Z hZ (sS (sI u_2 0 y_3) (Zz Z 9) (0 : Int32)) (Zz Z 9) hZ.2.2.2.2.2.2 (0 : Int64) _ hc_6) (cwV 1 hts (wz_V zw_577 zw_169 zw_170 zw_3 zw_171) rfl rfl rfl (by decide +kernel) ⟨Nat.le_of_ble_eq_true rfl, Nat.le_of_ble_eq_true rfl⟩) ⟨fbC, va_recv hK hP (ci := 3) (q0 := n_7) rfl hn_7, fun U9 hU hW => ⟨rfl, goC hP hD hK hA hE hS hU hW⟩⟩ rfl rfl hl.1 rfl (lv_room (Nat.le_of_ble_eq_true rfl)) dX1_writeRoot_32 ⟨Nat.le_of_ble_eq_true rfl, Nat.le_of_ble_eq_true rfl⟩) hS (fun q _ h => h) (fun q h => h) (fun r_6 u_6 t H1 locs ht hvm e_6 hB hz1 hk1 hS => ?_)
  subst e_6
  try dsimp only at h
  obtain ⟨hP, hD, -, -⟩ := hB
  rw [ht] at hP
  generalize H1 = H at hP hS ⊢
  refine lv_pop hx hb dX1_writeRoot_35 rfl ?_
  refine lv_aload_n hx hb dX1_writeRoot_36 rfl (lv_at hl 1 rfl) ?_
  refine lv_aload_n hx hb dX1_writeRoot_37 rfl (lv_at hl 2 rfl) ?_
  refine lv_aload_n hx hb dX1_writeRoot_38 rfl (lv_at hl 0 rfl) ?_
  refine lv_iconst (v := (0 : Int32)) hx hb dX1_writeRoot_39 (by decide) ?_
  obtain ⟨x_8, hc_8, h⟩ := zb_bind h
  try dsimp only at h
  refine vx_callv (vx_runV (As := [.ref (Zz Z 1), .ref (Zl Z (1 : Int32).toNatClampNeg), .int (0 : Int32)]) (rest := []) ⟨hx, hb, hml, hown, hts⟩ (ct_X1_writeStruct l hl0 D c4 A Z hZ (pX1_writeObject 9) 9 (ct_X1_writeObject l hl0 D c4 A Z hZ 9) u_6 (Zl Z (1 : Int32).toNatClampNeg) (cok_l hZ hi_1) (0 : Int32) _ hc_8) (cwV 3 hts (wz_V zw_578 zw_580 zs_9 zw_4 zw_581) rfl rfl rfl (by decide +kernel) ⟨(show (3 * 9 + 42) + 1 ≤ 100 by omega), (show 8 + (9 + 11) + (120 * 9 + 2080) ≤ 4000 by omega)⟩) ⟨fbC, va_recv hK hP (ci := 0) (q0 := 3) rfl rfl, fun U9 hU hW => ⟨rfl, goC hP hD hK hA hE hS hU hW⟩⟩ rfl rfl hl.1 rfl (lv_room (Nat.le_of_ble_eq_true rfl)) dX1_writeRoot_40 ⟨Nat.le_of_ble_eq_true rfl, Nat.le_of_ble_eq_true rfl⟩) hS (fun q _ h => h) (fun q h => h) (fun q _ h => h) (fun E9 ce9 q9 kw_8 t H1 locs ht hvm e_8 hB hz1 hk1 hS hc9 hv9 hcl9 => ?_) (fun u_8 t H1 locs ht hvm e_8 hB hz1 hk1 hS => ?_)
  · subst e_8
    try dsimp only at h
    obtain ⟨rfl, hP, hD, -, -⟩ := hB
    rw [ht] at hP
    exact vx_out (fun x9 hx9 => (htb x9 hx9).elim) hlocks hc9 hv9 hcl9 (fun t ht hal => ⟨kw_8, (Option.some.inj h).symm, ⟨rfl, wPre_go hP hD hK hA hS ht hal⟩, hS.F ht⟩) hS.2.2 (Nat.le_of_ble_eq_true rfl) (Nat.le_of_ble_eq_true rfl)
  subst e_8
  try dsimp only at h
  obtain ⟨hP, hD, -, -⟩ := hB
  rw [ht] at hP
  generalize H1 = H at hP hS ⊢
  refine vx_ret ?_
  exact W.vret hx hb hr (fun t ht hW => ⟨⟨u_8, rfl, (Option.some.inj h).symm, wPre_go hP hD hK hA hS ht hW.alike⟩, hS.F ht⟩) hS.2.2 dX1_writeRoot_43
def pX5_form (Z : CZ) (u : CS) : Option (CS × (Nat ⊕ Int32)) := ((pX1_writeRoot Z u (Ui u 3)).bind fun x_1 => match x_1.2 with | .inl j => some (x_1.1, .inl j) | .inr r_1 => ((pX4_become Z (x_1.1) (Zz Z 7) (Zz Z 9)).bind fun x_2 => some ((x_2.1), .inr (Us (x_2.1) (Zz Z 7)))))
set_option maxHeartbeats 4000000 in
set_option maxRecDepth 100000 in
theorem ct_X5_form (l : Launch) (hl0 : l.stackTraces = false) (D : va_G) (c4 : Nat → ClassId) (A : Nat → Prop) (Z : CZ) (hZ : cok Z) (u : CS) (res : CS × (Nat ⊕ Int32)) (h : pX5_form Z u = some res) : vx_Met l yX5_form (wz yX5_form cX5_form 1 (some .int)) ({ frames := 101, cells := 1, slots := 6, locals := 4023 } : Room) (va_Pc [.ref (Zz Z 0)] (fun U => cPre D c4 A Z u U)) (va_Qi (fun q w => res = (w, .inr q)) (fun w t => wPre D c4 A (cW c4 Z w) t) A) (vx_X (fun kw : Nat × CS => res = (kw.2, .inl kw.1)) (fun E kw t => E = zEx kw.1 ∧ wPre D c4 A (cW c4 Z kw.2) t) A) 1 6 A := by
  refine vx_ofW (cc := cX5_form) (maxL := 1) (ret := (some .int)) (by decide) rfl ?_
  intro p e s m args below meth c s₁ B hml htb hv
  obtain ⟨rfl, ⟨hP, hD, hK, hA⟩, hE⟩ := hv
  have hx := B.exec
  have hb := B.bytes
  have hr := B.returns
  have hts := atoms_spec (ws := (wz yX5_form cX5_form 1 (some .int))) B.pre
  have hown : s.vm.findClass RX5 = some m.cls := findClass_of_methodNamed B.named
  have hlocks := B.notSynchronized
  have hS : va_S A s.heap s.heap [] := va_S.rf
  have hl := lv_entry ([.ref (Zz Z 0)]) (n := 1) (Nat.le_of_ble_eq_true rfl)
  rw [lg_entry_eq]
  generalize (lg_sl ([.ref (Zz Z 0)]) ++ List.replicate (1 - (lg_sl ([.ref (Zz Z 0)])).length) Slot.unset).toArray = ls at hl ⊢
  have hl : lv_has ls 1 [(0, .ref (Zz Z 0))] := hl
  unfold pX5_form at h
  refine lv_aload_n hx hb dX5_form_0 rfl (lv_at hl 0 rfl) ?_
  refine va_get (D := D) (ci := 4) (v := .ref (Zz Z 3)) (C := RX5) (T := TX5) (N := 9) hx hb hts (fun w h => wm (zin_X5 w h)) hown hK hP 0 rfl rfl 1 (by decide) (hts _ (wm zw_129)) (fun _ h9 => h9) rfl dX5_form_1 ?_
  refine lv_aload_n hx hb dX5_form_4 rfl (lv_at hl 0 rfl) ?_
  refine va_get (D := D) (ci := 4) (v := .ref (Zz Z 1)) (C := RX5) (T := TX5) (N := 9) hx hb hts (fun w h => wm (zin_X5 w h)) hown hK hP 0 rfl rfl 0 (by decide) (hts _ (wm zw_128)) (fun _ h9 => h9) rfl dX5_form_5 ?_
  refine lv_aload_n hx hb dX5_form_8 rfl (lv_at hl 0 rfl) ?_
  refine va_get (D := D) (ci := 4) (v := .int (Ui u 3)) (C := RX5) (T := TX5) (N := 9) hx hb hts (fun w h => wm (zin_X5 w h)) hown hK hP 0 rfl rfl 8 (by decide) (hts _ (wm zw_136)) (fun _ h9 => h9) rfl dX5_form_9 ?_
  obtain ⟨x_1, hc_1, h⟩ := zb_bind h
  try dsimp only at h
  refine vx_callv (vx_runV (As := [.ref (Zz Z 1), .int (Ui u 3)]) (rest := []) ⟨hx, hb, hml, hown, hts⟩ (ct_X1_writeRoot l hl0 D c4 A Z hZ u (Ui u 3) _ hc_1) (cwV 2 hts (wz_V zw_572 zw_573 zw_574 zw_4 zw_575) rfl rfl rfl (by decide +kernel) ⟨Nat.le_of_ble_eq_true rfl, Nat.le_of_ble_eq_true rfl⟩) ⟨fbC, va_recv hK hP (ci := 0) (q0 := 3) rfl rfl, fun U9 hU hW => ⟨rfl, goC hP hD hK hA hE hS hU hW⟩⟩ rfl rfl hl.1 rfl (lv_room (Nat.le_of_ble_eq_true rfl)) dX5_form_12 ⟨Nat.le_of_ble_eq_true rfl, Nat.le_of_ble_eq_true rfl⟩) hS (fun q _ h => h) (fun q h => h) (fun q _ h => h) (fun E9 ce9 q9 kw_1 t H1 locs ht hvm e_1 hB hz1 hk1 hS hc9 hv9 hcl9 => ?_) (fun u_1 t H1 locs ht hvm e_1 hB hz1 hk1 hS => ?_)
  · subst e_1
    try dsimp only at h
    obtain ⟨rfl, hP, hD, -, -⟩ := hB
    rw [ht] at hP
    exact vx_out (fun x9 hx9 => (htb x9 hx9).elim) hlocks hc9 hv9 hcl9 (fun t ht hal => ⟨kw_1, (Option.some.inj h).symm, ⟨rfl, wPre_go hP hD hK hA hS ht hal⟩, hS.F ht⟩) hS.2.2 (Nat.le_of_ble_eq_true rfl) (Nat.le_of_ble_eq_true rfl)
  subst e_1
  try dsimp only at h
  obtain ⟨hP, hD, -, -⟩ := hB
  rw [ht] at hP
  generalize H1 = H at hP hS ⊢
  refine lv_aload_n hx hb dX5_form_15 rfl (lv_at hl 0 rfl) ?_
  refine va_get (D := D) (ci := 4) (v := .ref (Zz Z 7)) (C := RX5) (T := TX5) (N := 9) hx hb hts (fun w h => wm (zin_X5 w h)) hown hK hP 0 rfl rfl 4 (by decide) (hts _ (wm zw_132)) (fun _ h9 => h9) rfl dX5_form_16 ?_
  refine lv_aload_n hx hb dX5_form_19 rfl (lv_at hl 0 rfl) ?_
  refine va_get (D := D) (ci := 4) (v := .ref (Zz Z 3)) (C := RX5) (T := TX5) (N := 9) hx hb hts (fun w h => wm (zin_X5 w h)) hown hK hP 0 rfl rfl 1 (by decide) (hts _ (wm zw_129)) (fun _ h9 => h9) rfl dX5_form_20 ?_
  refine va_get (D := D) (ci := 0) (v := .ref (Zz Z 9)) (C := RX1) (T := TX1) (N := 3) hx hb hts (fun w h => wm (zin_X1 w h)) hown hK hP 3 rfl rfl 0 (by decide) (hts _ (wm zw_114)) (fun _ h9 => h9) rfl dX5_form_23 ?_
  obtain ⟨n_3, hn_3⟩ := cW_R (c4 := c4) (u := u_1) hZ.2.2.2.2.1
  obtain ⟨x_2, hc_2, h⟩ := zb_bind h
  try dsimp only at h
  refine va_callv (va_runV (As := [.ref (Zz Z 9)]) (rest := []) ⟨hx, hb, hml, hown, hts⟩ (ct_X4_become l D c4 A Z hZ u_1 (Zz Z 7) hZ.2.2.2.2.1 (Zz Z 9) hZ.2.2.2.2.2.2 _ hc_2) (cwV 1 hts (wz_V zw_224 zw_225 zw_226 zw_3 zw_227) rfl rfl rfl (by decide +kernel) ⟨Nat.le_of_ble_eq_true rfl, Nat.le_of_ble_eq_true rfl⟩) ⟨fbC, va_recv hK hP (ci := 3) (q0 := n_3) rfl hn_3, fun U9 hU hW => ⟨rfl, goC hP hD hK hA hE hS hU hW⟩⟩ rfl rfl hl.1 rfl (lv_room (Nat.le_of_ble_eq_true rfl)) dX5_form_26 ⟨Nat.le_of_ble_eq_true rfl, Nat.le_of_ble_eq_true rfl⟩) hS (fun q _ h => h) (fun q h => h) (fun u_2 t H1 locs ht hvm e_2 hB hz1 hk1 hS => ?_)
  subst e_2
  try dsimp only at h
  obtain ⟨hP, hD, -, -⟩ := hB
  rw [ht] at hP
  generalize H1 = H at hP hS ⊢
  refine lv_aload_n hx hb dX5_form_29 rfl (lv_at hl 0 rfl) ?_
  refine va_get (D := D) (ci := 4) (v := .ref (Zz Z 7)) (C := RX5) (T := TX5) (N := 9) hx hb hts (fun w h => wm (zin_X5 w h)) hown hK hP 0 rfl rfl 4 (by decide) (hts _ (wm zw_132)) (fun _ h9 => h9) rfl dX5_form_30 ?_
  obtain ⟨n_4, hn_4⟩ := cW_R (c4 := c4) (u := u_2) hZ.2.2.2.2.1
  refine va_get (D := D) (ci := 3) (v := .int (Us u_2 (Zz Z 7))) (C := RX4) (T := TX4) (N := 2) hx hb hts (fun w h => wm (zin_X4 w h)) hown hK hP n_4 hn_4 rfl 1 (by decide) (hts _ (wm zw_43)) (fun _ h9 => h9) rfl dX5_form_33 ?_
  refine vx_ret ?_
  exact W.iret (v := (Us u_2 (Zz Z 7))) hx hb hr (fun t ht hW => ⟨⟨(Us u_2 (Zz Z 7)), u_2, rfl, (Option.some.inj h).symm, wPre_go hP hD hK hA hS ht hW.alike⟩, hS.F ht⟩) hS.2.2 dX5_form_36
