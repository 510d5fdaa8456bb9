def pX1_grow_10 (Z : CZ) : Nat → CS → Int32 → Int32 → Int32 → Option (CS × Int32)
  | 0, _, _, _, _ => none
  | n + 1, u, x0, x1, x2 => (if x0 ≤ x2 then some (u, x1) else ((pX4_append Z u (Zz Z 9) (0 : Int64)).bind fun x_2 => pX1_grow_10 Z n (x_2.1) x0 x1 (x2 + (1 : Int32))))
theorem pX1_grow_10_s (Z : CZ) (n : Nat) (u : CS) (x0 : Int32) (x1 : Int32) (x2 : Int32) : pX1_grow_10 Z (n + 1) u x0 x1 x2 = (if x0 ≤ x2 then some (u, x1) else ((pX4_append Z u (Zz Z 9) (0 : Int64)).bind fun x_2 => pX1_grow_10 Z n (x_2.1) x0 x1 (x2 + (1 : Int32)))) := rfl
def pX1_grow (Z : CZ) (u : CS) (a1 : Int32) : Option (CS × Int32) := ((some (Us u (Zz Z 9))).bind fun y_5 => pX1_grow_10 Z 300 u a1 y_5 (0 : Int32))
set_option maxHeartbeats 4000000 in
set_option maxRecDepth 100000 in
theorem ct_X1_grow (l : Launch) (D : va_G) (c4 : Nat → ClassId) (A : Nat → Prop) (Z : CZ) (hZ : cok Z) (u : CS) (a1 : Int32) (res : CS × Int32) (h : pX1_grow Z u a1 = some res) : Met l yX1_grow (wz yX1_grow cX1_grow 4 (some .int)) ({ frames := 1, cells := 0, slots := 0, locals := 22 } : Room) (va_Pc [.ref (Zz Z 3), .int a1] (fun U => cPre D c4 A Z u U)) (va_Qi (fun q w => res = (w, q)) (fun w t => wPre D c4 A (cW c4 Z w) t) A) 0 0 A := by
  refine Met.ofW (cc := cX1_grow) (maxL := 4) (ret := (some .int)) (by decide) rfl ?_
  intro p e s m args below meth c s₁ B hml hv
  obtain ⟨rfl, ⟨hP, hD, hK, hA⟩, hE⟩ := hv
  have hx := B.exec
  have hb := B.bytes
  have hr := B.returns
  have hts := atoms_spec (ws := (wz yX1_grow cX1_grow 4 (some .int))) B.pre
  have hown : s.vm.findClass RX1 = some m.cls := findClass_of_methodNamed B.named
  have hlocks := B.notSynchronized
  have hS : va_S A s.heap s.heap [] := va_S.rf
  have hl := lv_entry ([.ref (Zz Z 3), .int a1]) (n := 4) (Nat.le_of_ble_eq_true rfl)
  rw [lg_entry_eq]
  generalize (lg_sl ([.ref (Zz Z 3), .int a1]) ++ List.replicate (4 - (lg_sl ([.ref (Zz Z 3), .int a1])).length) Slot.unset).toArray = ls at hl ⊢
  have hl : lv_has ls 4 [(0, .ref (Zz Z 3)), (1, .int a1)] := hl
  have k_10 : ∀ (n_10 : Nat), ∀ (u : CS) (H : Heap) (locs : List Loc) (x0 : Int32) (x1 : Int32) (x2 : Int32), va_P D vwCl (cW c4 Z u) H → va_D A (cW c4 Z u) → va_S A s.heap H locs → ∀ (ls : Array Slot), lv_has ls 4 [(0, .ref (Zz Z 3)), (1, .int x0), (2, .int x1), (3, .int x2)] → pX1_grow_10 Z n_10 u x0 x1 x2 = some res → W p l e ({ frames := 1, cells := 0, slots := 0, locals := 22 } : Room) s m ([.ref (Zz Z 3), .int a1] : List Value).toArray below meth c H locs 0 0 (MQ below (va_Qi (fun q w => res = (w, q)) (fun w t => wPre D c4 A (cW c4 Z w) t) A) ([.ref (Zz Z 3), .int a1] : List Value).toArray s 0 0 A) (F0 m 10 ls []) := by
    intro n_10
    induction n_10 with
    | zero =>
      intro u H locs x0 x1 x2 hP hD hS ls hl h
      exact nomatch h
    | succ n_10 ih_10 =>
      intro u H locs x0 x1 x2 hP hD hS ls hl h
      rw [pX1_grow_10_s] at h
      refine lv_iload_n hx hb dX1_grow_10 rfl (lv_at hl 3 rfl) ?_
      refine lv_iload_n hx hb dX1_grow_11 rfl (lv_at hl 1 rfl) ?_
      refine lv_icmp_ge (tgt := 30) hx hb dX1_grow_12 (by decide) (fun c_1 => ?_) (fun c_1 => ?_)
      · skip
        rw [if_pos c_1] at h
        refine lv_iload_n hx hb dX1_grow_30 rfl (lv_at hl 2 rfl) ?_
        exact W.iret (v := x1) hx hb hr (fun t ht hW => ⟨⟨x1, u, rfl, (Option.some.inj h).symm, wPre_go hP hD hK hA hS ht hW.alike⟩, hS.F ht⟩) hS.2.2 dX1_grow_31
      · skip
        rw [if_neg c_1] at h
        refine lv_aload_n hx hb dX1_grow_15 rfl (lv_at hl 0 rfl) ?_
        refine va_get (D := D) (ci := 0) (v := .ref (Zz Z 9)) (C := RX1) (T := TX1) (N := 3) hx hb hts (fun w h => wm (zin_X1 w h)) hown hK hP 3 rfl rfl 0 (by decide) (hts _ (wm zw_113)) (fun _ h9 => h9) rfl dX1_grow_16 ?_
        refine lv_lconst (v := (0 : Int64)) hx hb dX1_grow_19 (by decide) ?_
        obtain ⟨n_3, hn_3⟩ := cW_R (c4 := c4) (u := u) hZ.2.2.2.2.2.2
        obtain ⟨x_2, hc_2, h⟩ := zb_bind h
        try dsimp only at h
        refine va_calli (va_runV (As := [.long (0 : Int64)]) (rest := []) ⟨hx, hb, hml, hown, hts⟩ (ct_X4_append l D c4 A Z hZ u (Zz Z 9) hZ.2.2.2.2.2.2 (0 : Int64) _ hc_2) (cwV 1 hts (wz_V zw_577 zw_169 zw_170 zw_3 zw_171) rfl rfl rfl (by decide +kernel) ⟨Nat.le_of_ble_eq_true rfl, Nat.le_of_ble_eq_true rfl⟩) ⟨fbC, va_recv hK hP (ci := 3) (q0 := n_3) rfl hn_3, fun U9 hU hW => ⟨rfl, goC hP hD hK hA hE hS hU hW⟩⟩ rfl rfl hl.1 rfl (lv_room (Nat.le_of_ble_eq_true rfl)) dX1_grow_20 ⟨Nat.le_of_ble_eq_true rfl, Nat.le_of_ble_eq_true rfl⟩) hS (fun q _ h => h) (fun q h => h) (fun r_2 u_2 t H1 locs ht hvm e_2 hB hz1 hk1 hS => ?_)
        subst e_2
        try dsimp only at h
        obtain ⟨hP, hD, -, -⟩ := hB
        rw [ht] at hP
        generalize H1 = H at hP hS ⊢
        refine lv_pop hx hb dX1_grow_23 rfl ?_
        refine lv_iinc (v := (x2 + (1 : Int32))) (lv' := [(3, .int (x2 + (1 : Int32))), (0, .ref (Zz Z 3)), (1, .int x0), (2, .int x1)]) hx hb dX1_grow_24 hl (k := 3) rfl rfl (by decide) rfl (fun ls hl => ?_)
        refine lv_goto (tgt := 10) hx hb dX1_grow_27 (by decide) ?_
        exact ih_10 u_2 _ _ x0 x1 (x2 + (1 : Int32)) hP hD hS ls (lv_sub hl [1, 2, 3, 0] rfl) h
  unfold pX1_grow at h
  refine lv_aload_n hx hb dX1_grow_0 rfl (lv_at hl 0 rfl) ?_
  refine va_get (D := D) (ci := 0) (v := .ref (Zz Z 9)) (C := RX1) (T := TX1) (N := 3) hx hb hts (fun w h => wm (zin_X1 w h)) hown hK hP 3 rfl rfl 0 (by decide) (hts _ (wm zw_113)) (fun _ h9 => h9) rfl dX1_grow_1 ?_
  obtain ⟨n_4, hn_4⟩ := cW_R (c4 := c4) (u := u) hZ.2.2.2.2.2.2
  refine va_get (D := D) (ci := 3) (v := .int (Us u (Zz Z 9))) (C := RX4) (T := TX4) (N := 2) hx hb hts (fun w h => wm (zin_X4 w h)) hown hK hP n_4 hn_4 rfl 1 (by decide) (hts _ (wm zw_42)) (fun _ h9 => h9) rfl dX1_grow_4 ?_
  obtain ⟨y_5, e_5, h⟩ := zb_bind h
  try dsimp only at h
  refine zt_i (Option.some.inj e_5) ?_
  refine lv_istore_n (lv' := [(2, .int y_5), (0, .ref (Zz Z 3)), (1, .int a1)]) hx hb dX1_grow_7 rfl hl (by decide) rfl (fun ls hl => ?_)
  refine lv_iconst (v := (0 : Int32)) hx hb dX1_grow_8 (by decide) ?_
  refine lv_istore_n (lv' := [(3, .int (0 : Int32)), (2, .int y_5), (0, .ref (Zz Z 3)), (1, .int a1)]) hx hb dX1_grow_9 rfl hl (by decide) rfl (fun ls hl => ?_)
  exact k_10 300 u _ _ a1 y_5 (0 : Int32) hP hD hS ls (lv_sub hl [2, 3, 1, 0] rfl) h
def pX1_copyWords_3 (Z : CZ) (a2 : Nat) : Nat → CS → Int32 → Int32 → Int32 → Int32 → Option (CS × Unit)
  | 0, _, _, _, _, _ => none
  | n + 1, u, x0, x1, x2, x3 => (if x1 ≤ x3 then some (u, ()) else ((pX3_at Z u (Uf u 4 a2) (x0 + x3)).bind fun r_3 => ((pX4_put Z u (Zz Z 9) (x2 + x3) r_3).bind fun x_4 => pX1_copyWords_3 Z a2 n (x_4.1) x0 x1 x2 (x3 + (1 : Int32)))))
theorem pX1_copyWords_3_s (Z : CZ) (a2 : Nat) (n : Nat) (u : CS) (x0 : Int32) (x1 : Int32) (x2 : Int32) (x3 : Int32) : pX1_copyWords_3 Z a2 (n + 1) u x0 x1 x2 x3 = (if x1 ≤ x3 then some (u, ()) else ((pX3_at Z u (Uf u 4 a2) (x0 + x3)).bind fun r_3 => ((pX4_put Z u (Zz Z 9) (x2 + x3) r_3).bind fun x_4 => pX1_copyWords_3 Z a2 n (x_4.1) x0 x1 x2 (x3 + (1 : Int32))))) := rfl
def pX1_copyWords (Z : CZ) (u : CS) (a2 : Nat) (a3 : Int32) (a4 : Int32) (a5 : Int32) : Option (CS × Unit) := pX1_copyWords_3 Z a2 300 u a3 a4 a5 (0 : Int32)
set_option maxHeartbeats 4000000 in
set_option maxRecDepth 100000 in
theorem ct_X1_copyWords (l : Launch) (D : va_G) (c4 : Nat → ClassId) (A : Nat → Prop) (Z : CZ) (hZ : cok Z) (u : CS) (a2 : Nat) (ha2 : isF Z a2) (a3 : Int32) (a4 : Int32) (a5 : Int32) (res : CS × Unit) (h : pX1_copyWords Z u a2 a3 a4 a5 = some res) : Met l yX1_copyWords (wz yX1_copyWords cX1_copyWords 7 none) ({ frames := 1, cells := 0, slots := 0, locals := 23 } : Room) (va_Pc [.ref (Zz Z 3), .ref (Zz Z 1), .ref a2, .int a3, .int a4, .int a5] (fun U => cPre D c4 A Z u U)) (va_Qv (fun w => res = (w, ())) (fun w t => wPre D c4 A (cW c4 Z w) t) A) 0 0 A := by
  refine Met.ofW (cc := cX1_copyWords) (maxL := 7) (ret := none) (by decide) rfl ?_
  intro p e s m args below meth c s₁ B hml hv
  obtain ⟨rfl, ⟨hP, hD, hK, hA⟩, hE⟩ := hv
  have hx := B.exec
  have hb := B.bytes
  have hr := B.returns
  have hts := atoms_spec (ws := (wz yX1_copyWords cX1_copyWords 7 none)) B.pre
  have hown : s.vm.findClass RX1 = some m.cls := findClass_of_methodNamed B.named
  have hlocks := B.notSynchronized
  have hS : va_S A s.heap s.heap [] := va_S.rf
  have hl := lv_entry ([.ref (Zz Z 3), .ref (Zz Z 1), .ref a2, .int a3, .int a4, .int a5]) (n := 7) (Nat.le_of_ble_eq_true rfl)
  rw [lg_entry_eq]
  generalize (lg_sl ([.ref (Zz Z 3), .ref (Zz Z 1), .ref a2, .int a3, .int a4, .int a5]) ++ List.replicate (7 - (lg_sl ([.ref (Zz Z 3), .ref (Zz Z 1), .ref a2, .int a3, .int a4, .int a5])).length) Slot.unset).toArray = ls at hl ⊢
  have hl : lv_has ls 7 [(0, .ref (Zz Z 3)), (1, .ref (Zz Z 1)), (2, .ref a2), (3, .int a3), (4, .int a4), (5, .int a5)] := hl
  have k_3 : ∀ (n_3 : Nat), ∀ (u : CS) (H : Heap) (locs : List Loc) (x0 : Int32) (x1 : Int32) (x2 : Int32) (x3 : Int32), va_P D vwCl (cW c4 Z u) H → va_D A (cW c4 Z u) → va_S A s.heap H locs → ∀ (ls : Array Slot), lv_has ls 7 [(0, .ref (Zz Z 3)), (1, .ref (Zz Z 1)), (2, .ref a2), (3, .int x0), (4, .int x1), (5, .int x2), (6, .int x3)] → pX1_copyWords_3 Z a2 n_3 u x0 x1 x2 x3 = some res → W p l e ({ frames := 1, cells := 0, slots := 0, locals := 23 } : Room) s m ([.ref (Zz Z 3), .ref (Zz Z 1), .ref a2, .int a3, .int a4, .int a5] : List Value).toArray below meth c H locs 0 0 (MQ below (va_Qv (fun w => res = (w, ())) (fun w t => wPre D c4 A (cW c4 Z w) t) A) ([.ref (Zz Z 3), .ref (Zz Z 1), .ref a2, .int a3, .int a4, .int a5] : List Value).toArray s 0 0 A) (F0 m 3 ls []) := by
    intro n_3
    induction n_3 with
    | zero =>
      intro u H locs x0 x1 x2 x3 hP hD hS ls hl h
      exact nomatch h
    | succ n_3 ih_3 =>
      intro u H locs x0 x1 x2 x3 hP hD hS ls hl h
      rw [pX1_copyWords_3_s] at h
      refine lv_iload hx hb dX1_copyWords_3 (lv_at hl 6 rfl) ?_
      refine lv_iload hx hb dX1_copyWords_5 (lv_at hl 4 rfl) ?_
      refine lv_icmp_ge (tgt := 40) hx hb dX1_copyWords_7 (by decide) (fun c_1 => ?_) (fun c_1 => ?_)
      · skip
        rw [if_pos c_1] at h
        exact W.vret hx hb hr (fun t ht hW => ⟨⟨u, rfl, (Option.some.inj h).symm, wPre_go hP hD hK hA hS ht hW.alike⟩, hS.F ht⟩) hS.2.2 dX1_copyWords_40
      · skip
        rw [if_neg c_1] at h
        refine lv_aload_n hx hb dX1_copyWords_10 rfl (lv_at hl 0 rfl) ?_
        refine va_get (D := D) (ci := 0) (v := .ref (Zz Z 9)) (C := RX1) (T := TX1) (N := 3) hx hb hts (fun w h => wm (zin_X1 w h)) hown hK hP 3 rfl rfl 0 (by decide) (hts _ (wm zw_113)) (fun _ h9 => h9) rfl dX1_copyWords_11 ?_
        refine lv_iload hx hb dX1_copyWords_14 (lv_at hl 5 rfl) ?_
        refine lv_iload hx hb dX1_copyWords_16 (lv_at hl 6 rfl) ?_
        refine lv_iadd hx hb dX1_copyWords_18 ?_
        refine lv_aload_n hx hb dX1_copyWords_19 rfl (lv_at hl 1 rfl) ?_
        refine lv_aload_n hx hb dX1_copyWords_20 rfl (lv_at hl 2 rfl) ?_
        obtain ⟨n_2, hn_2⟩ := cW_F (c4 := c4) (u := u) ha2
        refine va_get (D := D) (ci := 1) (v := .int (Uf u 4 a2)) (C := RX2) (T := TX2) (N := 7) hx hb hts (fun w h => wm (zin_X2 w h)) hown hK hP n_2 hn_2 rfl 4 (by decide) (hts _ (wm zw_86)) (fun _ h9 => h9) rfl dX1_copyWords_21 ?_
        refine lv_iload_n hx hb dX1_copyWords_24 rfl (lv_at hl 3 rfl) ?_
        refine lv_iload hx hb dX1_copyWords_25 (lv_at hl 6 rfl) ?_
        refine lv_iadd hx hb dX1_copyWords_27 ?_
        obtain ⟨q_3, hc_3, h⟩ := zb_bind h
        try dsimp only at h
        refine vp_callSl (W.runV (As := [.int (Uf u 4 a2), .int (x0 + x3)]) (rest := [.int (x2 + x3), .ref (Zz Z 9)]) ⟨hx, hb, hml, hown, hts⟩ (ct_X3_at l D c4 A Z hZ u (Uf u 4 a2) (x0 + x3) _ hc_3) (cwV 2 hts (wz_V zw_600 zw_201 zw_202 zw_2 zw_203) rfl rfl rfl (by decide +kernel) ⟨Nat.le_of_ble_eq_true rfl, Nat.le_of_ble_eq_true rfl⟩) ⟨fbC, va_recv hK hP (ci := 2) (q0 := 1) rfl rfl, fun U9 hU hW => ⟨rfl, goC hP hD hK hA hE hS hU hW⟩⟩ rfl rfl hl.1 rfl (lv_room (Nat.le_of_ble_eq_true rfl)) dX1_copyWords_28 ⟨Nat.le_of_ble_eq_true rfl, Nat.le_of_ble_eq_true rfl⟩) (fun r_3 e_3 => ?_)
        subst e_3
        obtain ⟨n_5, hn_5⟩ := cW_R (c4 := c4) (u := u) hZ.2.2.2.2.2.2
        obtain ⟨x_4, hc_4, h⟩ := zb_bind h
        try dsimp only at h
        refine va_callv (va_runV (As := [.int (x2 + x3), .long r_3]) (rest := []) ⟨hx, hb, hml, hown, hts⟩ (ct_X4_put l D c4 A Z hZ u (Zz Z 9) hZ.2.2.2.2.2.2 (x2 + x3) r_3 _ hc_4) (cwV 2 hts (wz_V zw_595 zw_185 zw_186 zw_3 zw_187) rfl rfl rfl (by decide +kernel) ⟨Nat.le_of_ble_eq_true rfl, Nat.le_of_ble_eq_true rfl⟩) ⟨fbC, va_recv hK hP (ci := 3) (q0 := n_5) rfl hn_5, fun U9 hU hW => ⟨rfl, goC hP hD hK hA hE hS hU hW⟩⟩ rfl rfl hl.1 rfl (lv_room (Nat.le_of_ble_eq_true rfl)) dX1_copyWords_31 ⟨Nat.le_of_ble_eq_true rfl, Nat.le_of_ble_eq_true rfl⟩) hS (fun q _ h => h) (fun q h => h) (fun u_4 t H1 locs ht hvm e_4 hB hz1 hk1 hS => ?_)
        subst e_4
        try dsimp only at h
        obtain ⟨hP, hD, -, -⟩ := hB
        rw [ht] at hP
        generalize H1 = H at hP hS ⊢
        refine lv_iinc (v := (x3 + (1 : Int32))) (lv' := [(6, .int (x3 + (1 : Int32))), (0, .ref (Zz Z 3)), (1, .ref (Zz Z 1)), (2, .ref a2), (3, .int x0), (4, .int x1), (5, .int x2)]) hx hb dX1_copyWords_34 hl (k := 6) rfl rfl (by decide) rfl (fun ls hl => ?_)
        refine lv_goto (tgt := 3) hx hb dX1_copyWords_37 (by decide) ?_
        exact ih_3 u_4 _ _ x0 x1 x2 (x3 + (1 : Int32)) hP hD hS ls (lv_sub hl [1, 2, 3, 4, 5, 6, 0] rfl) h
  unfold pX1_copyWords at h
  refine lv_iconst (v := (0 : Int32)) hx hb dX1_copyWords_0 (by decide) ?_
  refine lv_istore (lv' := [(6, .int (0 : Int32)), (0, .ref (Zz Z 3)), (1, .ref (Zz Z 1)), (2, .ref a2), (3, .int a3), (4, .int a4), (5, .int a5)]) hx hb dX1_copyWords_1 hl (by decide) rfl (fun ls hl => ?_)
  exact k_3 300 u _ _ a3 a4 a5 (0 : Int32) hP hD hS ls (lv_sub hl [1, 2, 3, 4, 5, 6, 0] rfl) h
def pX1_writeFlatList (Z : CZ) (u : CS) (a2 : Nat) (a3 : Int32) : Option (CS × Unit) := ((some ((Uf u 0 a2) - (1 : Int32))).bind fun y_2 => ((pX0_elementBits y_2).bind fun r_3 => ((some (pX0_wordsFor (Uf u 1 a2) r_3)).bind fun y_6 => ((pX1_grow Z u y_6).bind fun x_7 => ((pX4_put Z (x_7.1) (Zz Z 9) a3 (pX0_listPointer (((x_7.2) - a3) - (1 : Int32)) y_2 (Uf (x_7.1) 1 a2))).bind fun x_10 => ((pX1_copyWords Z (x_10.1) a2 (Uf (x_10.1) 5 a2) y_6 (x_7.2)).bind fun x_13 => ((some (((Uf (x_13.1) 1 a2) * r_3) - ((Uf (x_13.1) 1 a2) * r_3) / (64 : Int32) * (64 : Int32))).bind fun y_15 => (if y_15 = 0 then some ((x_13.1), ()) else ((some (((x_7.2) + y_6) - (1 : Int32))).bind fun y_17 => ((pX4_at Z (x_13.1) (Zz Z 9) y_17).bind fun r_18 => ((pX4_put Z (x_13.1) (Zz Z 9) y_17 (r_18 &&& (pX0_lowest y_15))).bind fun x_21 => some ((x_21.1), ()))))))))))))
set_option maxHeartbeats 4000000 in
set_option maxRecDepth 100000 in
theorem ct_X1_writeFlatList (l : Launch) (D : va_G) (c4 : Nat → ClassId) (A : Nat → Prop) (Z : CZ) (hZ : cok Z) (u : CS) (a2 : Nat) (ha2 : isF Z a2) (a3 : Int32) (res : CS × Unit) (h : pX1_writeFlatList Z u a2 a3 = some res) : Met l yX1_writeFlatList (wz yX1_writeFlatList cX1_writeFlatList 10 none) ({ frames := 2, cells := 0, slots := 0, locals := 49 } : Room) (va_Pc [.ref (Zz Z 3), .ref (Zz Z 1), .ref a2, .int a3] (fun U => cPre D c4 A Z u U)) (va_Qv (fun w => res = (w, ())) (fun w t => wPre D c4 A (cW c4 Z w) t) A) 0 0 A := by
  refine Met.ofW (cc := cX1_writeFlatList) (maxL := 10) (ret := none) (by decide) rfl ?_
  intro p e s m args below meth c s₁ B hml hv
  obtain ⟨rfl, ⟨hP, hD, hK, hA⟩, hE⟩ := hv
  have hx := B.exec
  have hb := B.bytes
  have hr := B.returns
  have hts := atoms_spec (ws := (wz yX1_writeFlatList cX1_writeFlatList 10 none)) B.pre
  have hown : s.vm.findClass RX1 = some m.cls := findClass_of_methodNamed B.named
  have hlocks := B.notSynchronized
  have hS : va_S A s.heap s.heap [] := va_S.rf
  have hl := lv_entry ([.ref (Zz Z 3), .ref (Zz Z 1), .ref a2, .int a3]) (n := 10) (Nat.le_of_ble_eq_true rfl)
  rw [lg_entry_eq]
  generalize (lg_sl ([.ref (Zz Z 3), .ref (Zz Z 1), .ref a2, .int a3]) ++ List.replicate (10 - (lg_sl ([.ref (Zz Z 3), .ref (Zz Z 1), .ref a2, .int a3])).length) Slot.unset).toArray = ls at hl ⊢
  have hl : lv_has ls 10 [(0, .ref (Zz Z 3)), (1, .ref (Zz Z 1)), (2, .ref a2), (3, .int a3)] := hl
  unfold pX1_writeFlatList at h
  refine lv_aload_n hx hb dX1_writeFlatList_0 rfl (lv_at hl 2 rfl) ?_
  obtain ⟨n_1, hn_1⟩ := cW_F (c4 := c4) (u := u) ha2
  refine va_get (D := D) (ci := 1) (v := .int (Uf u 0 a2)) (C := RX2) (T := TX2) (N := 7) hx hb hts (fun w h => wm (zin_X2 w h)) hown hK hP n_1 hn_1 rfl 0 (by decide) (hts _ (wm zw_71)) (fun _ h9 => h9) rfl dX1_writeFlatList_1 ?_
  refine lv_iconst (v := (1 : Int32)) hx hb dX1_writeFlatList_4 (by decide) ?_
  refine lv_isub hx hb dX1_writeFlatList_5 ?_
  obtain ⟨y_2, e_2, h⟩ := zb_bind h
  try dsimp only at h
  refine zt_i (Option.some.inj e_2) ?_
  refine lv_istore (lv' := [(4, .int y_2), (0, .ref (Zz Z 3)), (1, .ref (Zz Z 1)), (2, .ref a2), (3, .int a3)]) hx hb dX1_writeFlatList_6 hl (by decide) rfl (fun ls hl => ?_)
  refine lv_iload hx hb dX1_writeFlatList_8 (lv_at hl 0 rfl) ?_
  obtain ⟨q_3, hc_3, h⟩ := zb_bind h
  try dsimp only at h
  refine vp_callSi (W.runS (As := [.int y_2]) (rest := []) ⟨hx, hb, hml, hown, hts⟩ (ct_X0_elementBits l A y_2 _ hc_3) (va_cwS 1 hts (wz_S zw_627 zw_434 zw_12 zw_435) rfl rfl rfl (by decide +kernel) ⟨Nat.le_of_ble_eq_true rfl, Nat.le_of_ble_eq_true rfl⟩) ⟨fbE, fun U9 hU hW => ⟨rfl, goE hE hS hU hW⟩⟩ rfl rfl hl.1 rfl (lv_room (Nat.le_of_ble_eq_true rfl)) dX1_writeFlatList_10 ⟨Nat.le_of_ble_eq_true rfl, Nat.le_of_ble_eq_true rfl⟩) (fun r_3 e_3 => ?_)
  subst e_3
  refine lv_istore (lv' := [(5, .int r_3), (4, .int y_2), (0, .ref (Zz Z 3)), (1, .ref (Zz Z 1)), (2, .ref a2), (3, .int a3)]) hx hb dX1_writeFlatList_13 hl (by decide) rfl (fun ls hl => ?_)
  refine lv_aload_n hx hb dX1_writeFlatList_15 rfl (lv_at hl 4 rfl) ?_
  obtain ⟨n_4, hn_4⟩ := cW_F (c4 := c4) (u := u) ha2
  refine va_get (D := D) (ci := 1) (v := .int (Uf u 1 a2)) (C := RX2) (T := TX2) (N := 7) hx hb hts (fun w h => wm (zin_X2 w h)) hown hK hP n_4 hn_4 rfl 1 (by decide) (hts _ (wm zw_75)) (fun _ h9 => h9) rfl dX1_writeFlatList_16 ?_
  refine lv_iload hx hb dX1_writeFlatList_19 (lv_at hl 0 rfl) ?_
  refine vp_callSi (W.runS (As := [.int (Uf u 1 a2), .int r_3]) (rest := []) ⟨hx, hb, hml, hown, hts⟩ (ct_X0_wordsFor l (Uf u 1 a2) r_3 _ rfl) (va_cwS 2 hts (wz_S zw_628 zw_439 zw_12 zw_440) rfl rfl rfl (by decide +kernel) ⟨Nat.le_of_ble_eq_true rfl, Nat.le_of_ble_eq_true rfl⟩) ⟨fbN, fun U9 hU hW => ⟨rfl, trivial⟩⟩ rfl rfl hl.1 rfl (lv_room (Nat.le_of_ble_eq_true rfl)) dX1_writeFlatList_21 ⟨Nat.le_of_ble_eq_true rfl, Nat.le_of_ble_eq_true rfl⟩) (fun r_5 e_5 => ?_)
  subst e_5
  obtain ⟨y_6, e_6, h⟩ := zb_bind h
  try dsimp only at h
  refine zt_i (Option.some.inj e_6) ?_
  refine lv_istore (lv' := [(6, .int y_6), (5, .int r_3), (4, .int y_2), (0, .ref (Zz Z 3)), (1, .ref (Zz Z 1)), (2, .ref a2), (3, .int a3)]) hx hb dX1_writeFlatList_24 hl (by decide) rfl (fun ls hl => ?_)
  refine lv_aload_n hx hb dX1_writeFlatList_26 rfl (lv_at hl 3 rfl) ?_
  refine lv_iload hx hb dX1_writeFlatList_27 (lv_at hl 0 rfl) ?_
  obtain ⟨x_7, hc_7, h⟩ := zb_bind h
  try dsimp only at h
  refine va_calli (va_runV (As := [.int y_6]) (rest := []) ⟨hx, hb, hml, hown, hts⟩ (ct_X1_grow l D c4 A Z hZ u y_6 _ hc_7) (cwV 1 hts (wz_V zw_587 zw_589 zs_10 zw_4 zw_590) rfl rfl rfl (by decide +kernel) ⟨Nat.le_of_ble_eq_true rfl, Nat.le_of_ble_eq_true rfl⟩) ⟨fbC, va_recv hK hP (ci := 0) (q0 := 3) rfl rfl, fun U9 hU hW => ⟨rfl, goC hP hD hK hA hE hS hU hW⟩⟩ rfl rfl hl.1 rfl (lv_room (Nat.le_of_ble_eq_true rfl)) dX1_writeFlatList_29 ⟨Nat.le_of_ble_eq_true rfl, Nat.le_of_ble_eq_true rfl⟩) hS (fun q _ h => h) (fun q h => h) (fun r_7 u_7 t H1 locs ht hvm e_7 hB hz1 hk1 hS => ?_)
  subst e_7
  try dsimp only at h
  obtain ⟨hP, hD, -, -⟩ := hB
  rw [ht] at hP
  generalize H1 = H at hP hS ⊢
  refine lv_istore (lv' := [(7, .int r_7), (6, .int y_6), (5, .int r_3), (4, .int y_2), (0, .ref (Zz Z 3)), (1, .ref (Zz Z 1)), (2, .ref a2), (3, .int a3)]) hx hb dX1_writeFlatList_32 hl (by decide) rfl (fun ls hl => ?_)
  refine lv_aload_n hx hb dX1_writeFlatList_34 rfl (lv_at hl 4 rfl) ?_
  refine va_get (D := D) (ci := 0) (v := .ref (Zz Z 9)) (C := RX1) (T := TX1) (N := 3) hx hb hts (fun w h => wm (zin_X1 w h)) hown hK hP 3 rfl rfl 0 (by decide) (hts _ (wm zw_113)) (fun _ h9 => h9) rfl dX1_writeFlatList_35 ?_
  refine lv_iload_n hx hb dX1_writeFlatList_38 rfl (lv_at hl 7 rfl) ?_
  refine lv_iload hx hb dX1_writeFlatList_39 (lv_at hl 0 rfl) ?_
  refine lv_iload_n hx hb dX1_writeFlatList_41 rfl (lv_at hl 7 rfl) ?_
  refine lv_isub hx hb dX1_writeFlatList_42 ?_
  refine lv_iconst (v := (1 : Int32)) hx hb dX1_writeFlatList_43 (by decide) ?_
  refine lv_isub hx hb dX1_writeFlatList_44 ?_
  refine lv_iload hx hb dX1_writeFlatList_45 (lv_at hl 3 rfl) ?_
  refine lv_aload_n hx hb dX1_writeFlatList_47 rfl (lv_at hl 6 rfl) ?_
  obtain ⟨n_8, hn_8⟩ := cW_F (c4 := c4) (u := u_7) ha2
  refine va_get (D := D) (ci := 1) (v := .int (Uf u_7 1 a2)) (C := RX2) (T := TX2) (N := 7) hx hb hts (fun w h => wm (zin_X2 w h)) hown hK hP n_8 hn_8 rfl 1 (by decide) (hts _ (wm zw_75)) (fun _ h9 => h9) rfl dX1_writeFlatList_48 ?_
  refine vp_callSl (W.runS (As := [.int ((r_7 - a3) - (1 : Int32)), .int y_2, .int (Uf u_7 1 a2)]) (rest := [.int a3, .ref (Zz Z 9)]) ⟨hx, hb, hml, hown, hts⟩ (ct_X0_listPointer l ((r_7 - a3) - (1 : Int32)) y_2 (Uf u_7 1 a2) _ rfl) (va_cwS 3 hts (wz_S zw_614 zw_615 zw_12 zw_616) rfl rfl rfl (by decide +kernel) ⟨Nat.le_of_ble_eq_true rfl, Nat.le_of_ble_eq_true rfl⟩) ⟨fbN, fun U9 hU hW => ⟨rfl, trivial⟩⟩ rfl rfl hl.1 rfl (lv_room (Nat.le_of_ble_eq_true rfl)) dX1_writeFlatList_51 ⟨Nat.le_of_ble_eq_true rfl, Nat.le_of_ble_eq_true rfl⟩) (fun r_9 e_9 => ?_)
  subst e_9
  obtain ⟨n_11, hn_11⟩ := cW_R (c4 := c4) (u := u_7) hZ.2.2.2.2.2.2
  obtain ⟨x_10, hc_10, h⟩ := zb_bind h
  try dsimp only at h
  refine va_callv (va_runV (As := [.int a3, .long (pX0_listPointer ((r_7 - a3) - (1 : Int32)) y_2 (Uf u_7 1 a2))]) (rest := []) ⟨hx, hb, hml, hown, hts⟩ (ct_X4_put l D c4 A Z hZ u_7 (Zz Z 9) hZ.2.2.2.2.2.2 a3 (pX0_listPointer ((r_7 - a3) - (1 : Int32)) y_2 (Uf u_7 1 a2)) _ hc_10) (cwV 2 hts (wz_V zw_595 zw_185 zw_186 zw_3 zw_187) rfl rfl rfl (by decide +kernel) ⟨Nat.le_of_ble_eq_true rfl, Nat.le_of_ble_eq_true rfl⟩) ⟨fbC, va_recv hK hP (ci := 3) (q0 := n_11) rfl hn_11, fun U9 hU hW => ⟨rfl, goC hP hD hK hA hE hS hU hW⟩⟩ rfl rfl hl.1 rfl (lv_room (Nat.le_of_ble_eq_true rfl)) dX1_writeFlatList_54 ⟨Nat.le_of_ble_eq_true rfl, Nat.le_of_ble_eq_true rfl⟩) hS (fun q _ h => h) (fun q h => h) (fun u_10 t H1 locs ht hvm e_10 hB hz1 hk1 hS => ?_)
  subst e_10
  try dsimp only at h
  obtain ⟨hP, hD, -, -⟩ := hB
  rw [ht] at hP
  generalize H1 = H at hP hS ⊢
  refine lv_aload_n hx hb dX1_writeFlatList_57 rfl (lv_at hl 4 rfl) ?_
  refine lv_aload_n hx hb dX1_writeFlatList_58 rfl (lv_at hl 5 rfl) ?_
  refine lv_aload_n hx hb dX1_writeFlatList_59 rfl (lv_at hl 6 rfl) ?_
  refine lv_aload_n hx hb dX1_writeFlatList_60 rfl (lv_at hl 6 rfl) ?_
  obtain ⟨n_12, hn_12⟩ := cW_F (c4 := c4) (u := u_10) ha2
  refine va_get (D := D) (ci := 1) (v := .int (Uf u_10 5 a2)) (C := RX2) (T := TX2) (N := 7) hx hb hts (fun w h => wm (zin_X2 w h)) hown hK hP n_12 hn_12 rfl 5 (by decide) (hts _ (wm zw_91)) (fun _ h9 => h9) rfl dX1_writeFlatList_61 ?_
  refine lv_iload hx hb dX1_writeFlatList_64 (lv_at hl 1 rfl) ?_
  refine lv_iload hx hb dX1_writeFlatList_66 (lv_at hl 0 rfl) ?_
  obtain ⟨x_13, hc_13, h⟩ := zb_bind h
  try dsimp only at h
  refine va_callv (va_runV (As := [.ref (Zz Z 1), .ref a2, .int (Uf u_10 5 a2), .int y_6, .int r_7]) (rest := []) ⟨hx, hb, hml, hown, hts⟩ (ct_X1_copyWords l D c4 A Z hZ u_10 a2 ha2 (Uf u_10 5 a2) y_6 r_7 _ hc_13) (cwV 5 hts (wz_V zw_596 zw_598 zs_11 zw_4 zw_599) rfl rfl rfl (by decide +kernel) ⟨Nat.le_of_ble_eq_true rfl, Nat.le_of_ble_eq_true rfl⟩) ⟨fbC, va_recv hK hP (ci := 0) (q0 := 3) rfl rfl, fun U9 hU hW => ⟨rfl, goC hP hD hK hA hE hS hU hW⟩⟩ rfl rfl hl.1 rfl (lv_room (Nat.le_of_ble_eq_true rfl)) dX1_writeFlatList_68 ⟨Nat.le_of_ble_eq_true rfl, Nat.le_of_ble_eq_true rfl⟩) hS (fun q _ h => h) (fun q h => h) (fun u_13 t H1 locs ht hvm e_13 hB hz1 hk1 hS => ?_)
  subst e_13
  try dsimp only at h
  obtain ⟨hP, hD, -, -⟩ := hB
  rw [ht] at hP
  generalize H1 = H at hP hS ⊢
  refine lv_aload_n hx hb dX1_writeFlatList_71 rfl (lv_at hl 6 rfl) ?_
  obtain ⟨n_14, hn_14⟩ := cW_F (c4 := c4) (u := u_13) ha2
  refine va_get (D := D) (ci := 1) (v := .int (Uf u_13 1 a2)) (C := RX2) (T := TX2) (N := 7) hx hb hts (fun w h => wm (zin_X2 w h)) hown hK hP n_14 hn_14 rfl 1 (by decide) (hts _ (wm zw_75)) (fun _ h9 => h9) rfl dX1_writeFlatList_72 ?_
  refine lv_iload hx hb dX1_writeFlatList_75 (lv_at hl 2 rfl) ?_
  refine lv_imul hx hb dX1_writeFlatList_77 ?_
  refine lv_bipush (v := (64 : Int32)) hx hb dX1_writeFlatList_78 (by decide) ?_
  refine lv_irem hx hb dX1_writeFlatList_80 (by decide) ?_
  obtain ⟨y_15, e_15, h⟩ := zb_bind h
  try dsimp only at h
  refine zt_i (Option.some.inj e_15) ?_
  refine lv_istore (lv' := [(8, .int y_15), (7, .int r_7), (6, .int y_6), (5, .int r_3), (4, .int y_2), (0, .ref (Zz Z 3)), (1, .ref (Zz Z 1)), (2, .ref a2), (3, .int a3)]) hx hb dX1_writeFlatList_81 hl (by decide) rfl (fun ls hl => ?_)
  refine lv_iload hx hb dX1_writeFlatList_83 (lv_at hl 0 rfl) ?_
  refine lv_if_eq (tgt := 121) hx hb dX1_writeFlatList_85 (by decide) (fun c_16 => ?_) (fun c_16 => ?_)
  · skip
    rw [if_pos c_16] at h
    exact W.vret hx hb hr (fun t ht hW => ⟨⟨u_13, rfl, (Option.some.inj h).symm, wPre_go hP hD hK hA hS ht hW.alike⟩, hS.F ht⟩) hS.2.2 dX1_writeFlatList_121
  · skip
    rw [if_neg c_16] at h
    refine lv_iload hx hb dX1_writeFlatList_88 (lv_at hl 1 rfl) ?_
    refine lv_iload hx hb dX1_writeFlatList_90 (lv_at hl 2 rfl) ?_
    refine lv_iadd hx hb dX1_writeFlatList_92 ?_
    refine lv_iconst (v := (1 : Int32)) hx hb dX1_writeFlatList_93 (by decide) ?_
    refine lv_isub hx hb dX1_writeFlatList_94 ?_
    obtain ⟨y_17, e_17, h⟩ := zb_bind h
    try dsimp only at h
    refine zt_i (Option.some.inj e_17) ?_
    refine lv_istore (lv' := [(9, .int y_17), (8, .int y_15), (7, .int r_7), (6, .int y_6), (5, .int r_3), (4, .int y_2), (0, .ref (Zz Z 3)), (1, .ref (Zz Z 1)), (2, .ref a2), (3, .int a3)]) hx hb dX1_writeFlatList_95 hl (by decide) rfl (fun ls hl => ?_)
    refine lv_aload_n hx hb dX1_writeFlatList_97 rfl (lv_at hl 6 rfl) ?_
    refine va_get (D := D) (ci := 0) (v := .ref (Zz Z 9)) (C := RX1) (T := TX1) (N := 3) hx hb hts (fun w h => wm (zin_X1 w h)) hown hK hP 3 rfl rfl 0 (by decide) (hts _ (wm zw_113)) (fun _ h9 => h9) rfl dX1_writeFlatList_98 ?_
    refine lv_iload hx hb dX1_writeFlatList_101 (lv_at hl 0 rfl) ?_
    refine lv_aload_n hx hb dX1_writeFlatList_103 rfl (lv_at hl 6 rfl) ?_
    refine va_get (D := D) (ci := 0) (v := .ref (Zz Z 9)) (C := RX1) (T := TX1) (N := 3) hx hb hts (fun w h => wm (zin_X1 w h)) hown hK hP 3 rfl rfl 0 (by decide) (hts _ (wm zw_113)) (fun _ h9 => h9) rfl dX1_writeFlatList_104 ?_
    refine lv_iload hx hb dX1_writeFlatList_107 (lv_at hl 0 rfl) ?_
    obtain ⟨n_19, hn_19⟩ := cW_R (c4 := c4) (u := u_13) hZ.2.2.2.2.2.2
    obtain ⟨q_18, hc_18, h⟩ := zb_bind h
    try dsimp only at h
    refine vp_callSl (W.runV (As := [.int y_17]) (rest := [.int y_17, .ref (Zz Z 9)]) ⟨hx, hb, hml, hown, hts⟩ (ct_X4_at l D c4 A Z hZ u_13 (Zz Z 9) hZ.2.2.2.2.2.2 y_17 _ hc_18) (cwV 1 hts (wz_V zw_629 zw_217 zw_218 zw_3 zw_219) rfl rfl rfl (by decide +kernel) ⟨Nat.le_of_ble_eq_true rfl, Nat.le_of_ble_eq_true rfl⟩) ⟨fbC, va_recv hK hP (ci := 3) (q0 := n_19) rfl hn_19, fun U9 hU hW => ⟨rfl, goC hP hD hK hA hE hS hU hW⟩⟩ rfl rfl hl.1 rfl (lv_room (Nat.le_of_ble_eq_true rfl)) dX1_writeFlatList_109 ⟨Nat.le_of_ble_eq_true rfl, Nat.le_of_ble_eq_true rfl⟩) (fun r_18 e_18 => ?_)
    subst e_18
    refine lv_iload hx hb dX1_writeFlatList_112 (lv_at hl 1 rfl) ?_
    refine vp_callSl (W.runS (As := [.int y_15]) (rest := [.long r_18, .int y_17, .ref (Zz Z 9)]) ⟨hx, hb, hml, hown, hts⟩ (ct_X0_lowest l y_15 _ rfl) (va_cwS 1 hts (wz_S zw_630 zw_562 zw_12 zw_563) rfl rfl rfl (by decide +kernel) ⟨Nat.le_of_ble_eq_true rfl, Nat.le_of_ble_eq_true rfl⟩) ⟨fbN, fun U9 hU hW => ⟨rfl, trivial⟩⟩ rfl rfl hl.1 rfl (lv_room (Nat.le_of_ble_eq_true rfl)) dX1_writeFlatList_114 ⟨Nat.le_of_ble_eq_true rfl, Nat.le_of_ble_eq_true rfl⟩) (fun r_20 e_20 => ?_)
    subst e_20
    refine lv_land hx hb dX1_writeFlatList_117 ?_
    obtain ⟨n_22, hn_22⟩ := cW_R (c4 := c4) (u := u_13) hZ.2.2.2.2.2.2
    obtain ⟨x_21, hc_21, h⟩ := zb_bind h
    try dsimp only at h
    refine va_callv (va_runV (As := [.int y_17, .long (r_18 &&& (pX0_lowest y_15))]) (rest := []) ⟨hx, hb, hml, hown, hts⟩ (ct_X4_put l D c4 A Z hZ u_13 (Zz Z 9) hZ.2.2.2.2.2.2 y_17 (r_18 &&& (pX0_lowest y_15)) _ hc_21) (cwV 2 hts (wz_V zw_595 zw_185 zw_186 zw_3 zw_187) rfl rfl rfl (by decide +kernel) ⟨Nat.le_of_ble_eq_true rfl, Nat.le_of_ble_eq_true rfl⟩) ⟨fbC, va_recv hK hP (ci := 3) (q0 := n_22) rfl hn_22, fun U9 hU hW => ⟨rfl, goC hP hD hK hA hE hS hU hW⟩⟩ rfl rfl hl.1 rfl (lv_room (Nat.le_of_ble_eq_true rfl)) dX1_writeFlatList_118 ⟨Nat.le_of_ble_eq_true rfl, Nat.le_of_ble_eq_true rfl⟩) hS (fun q _ h => h) (fun q h => h) (fun u_21 t H1 locs ht hvm e_21 hB hz1 hk1 hS => ?_)
    subst e_21
    try dsimp only at h
    obtain ⟨hP, hD, -, -⟩ := hB
    rw [ht] at hP
    generalize H1 = H at hP hS ⊢
    exact W.vret hx hb hr (fun t ht hW => ⟨⟨u_21, rfl, (Option.some.inj h).symm, wPre_go hP hD hK hA hS ht hW.alike⟩, hS.F ht⟩) hS.2.2 dX1_writeFlatList_121
