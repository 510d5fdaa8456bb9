def pX3_hasSegment (Z : CZ) (u : CS) (a1 : Int32) : Int32 := (if a1 < 0 then (0 : Int32) else (if (4 : Int32) ≤ a1 then (0 : Int32) else (1 : Int32)))
set_option maxHeartbeats 4000000 in
set_option maxRecDepth 100000 in
theorem ct_X3_hasSegment (l : Launch) (D : va_G) (c4 : Nat → ClassId) (A : Nat → Prop) (Z : CZ) (hZ : cok Z) (u : CS) (a1 : Int32) (r : Int32) (h : pX3_hasSegment Z u a1 = r) : Met l yX3_hasSegment (wz yX3_hasSegment cX3_hasSegment 2 (some .boolean)) ({ frames := 0, cells := 0, slots := 0, locals := 0 } : Room) (va_Pc [.ref (Zz Z 1), .int a1] (fun U => cPre D c4 A Z u U)) (vp_Si (fun q => q = r)) 0 0 (fun _ => False) := by
  refine Met.ofW (cc := cX3_hasSegment) (maxL := 2) (ret := (some .boolean)) (by decide) rfl ?_
  intro p e s m args below meth c s₁ B hml hv
  obtain ⟨rfl, ⟨hP, hD, hK, hA⟩, hE⟩ := hv
  have hx := B.exec
  have hb := B.bytes
  have hr := B.returns
  have hts := atoms_spec (ws := (wz yX3_hasSegment cX3_hasSegment 2 (some .boolean))) B.pre
  have hown : s.vm.findClass RX3 = some m.cls := findClass_of_methodNamed B.named
  have hlocks := B.notSynchronized
  have hS : va_S A s.heap s.heap [] := va_S.rf
  have hl := lv_entry ([.ref (Zz Z 1), .int a1]) (n := 2) (Nat.le_of_ble_eq_true rfl)
  rw [lg_entry_eq]
  generalize (lg_sl ([.ref (Zz Z 1), .int a1]) ++ List.replicate (2 - (lg_sl ([.ref (Zz Z 1), .int a1])).length) Slot.unset).toArray = ls at hl ⊢
  have hl : lv_has ls 2 [(0, .ref (Zz Z 1)), (1, .int a1)] := hl
  unfold pX3_hasSegment at h
  refine lv_iload_n hx hb dX3_hasSegment_0 rfl (lv_at hl 1 rfl) ?_
  refine lv_if_lt (tgt := 13) hx hb dX3_hasSegment_1 (by decide) (fun c_1 => ?_) (fun c_1 => ?_)
  · skip
    rw [if_pos c_1] at h
    refine lv_iconst (v := (0 : Int32)) hx hb dX3_hasSegment_13 (by decide) ?_
    exact W.zret (v := (0 : Int32)) (ty := .boolean) hx hb hr rfl (fun t ht hW => ⟨_, rfl, h, ht⟩) (fun _ hq => nomatch hq) dX3_hasSegment_14
  · skip
    rw [if_neg c_1] at h
    refine lv_iload_n hx hb dX3_hasSegment_4 rfl (lv_at hl 1 rfl) ?_
    refine lv_iconst (v := (4 : Int32)) hx hb dX3_hasSegment_5 (by decide) ?_
    refine lv_icmp_ge (tgt := 13) hx hb dX3_hasSegment_6 (by decide) (fun c_2 => ?_) (fun c_2 => ?_)
    · skip
      rw [if_pos c_2] at h
      refine lv_iconst (v := (0 : Int32)) hx hb dX3_hasSegment_13 (by decide) ?_
      exact W.zret (v := (0 : Int32)) (ty := .boolean) hx hb hr rfl (fun t ht hW => ⟨_, rfl, h, ht⟩) (fun _ hq => nomatch hq) dX3_hasSegment_14
    · skip
      rw [if_neg c_2] at h
      refine lv_iconst (v := (1 : Int32)) hx hb dX3_hasSegment_9 (by decide) ?_
      refine lv_goto (tgt := 14) hx hb dX3_hasSegment_10 (by decide) ?_
      exact W.zret (v := (1 : Int32)) (ty := .boolean) hx hb hr rfl (fun t ht hW => ⟨_, rfl, h, ht⟩) (fun _ hq => nomatch hq) dX3_hasSegment_14
def pX3_row (Z : CZ) (u : CS) (a1 : Int32) : Option (Nat) := (if inb a1 4 = true then some (Zs Z a1.toNatClampNeg) else none)
set_option maxHeartbeats 4000000 in
set_option maxRecDepth 100000 in
theorem ct_X3_row (l : Launch) (D : va_G) (c4 : Nat → ClassId) (A : Nat → Prop) (Z : CZ) (hZ : cok Z) (u : CS) (a1 : Int32) (r : Nat) (h : pX3_row Z u a1 = some r) : Met l yX3_row (wz yX3_row cX3_row 2 (some (.object "PointedWords$Row"))) ({ frames := 0, cells := 0, slots := 0, locals := 0 } : Room) (va_Pc [.ref (Zz Z 1), .int a1] (fun U => cPre D c4 A Z u U)) (va_Sr (fun q => q = r) (fun q => .ref q)) 0 0 (fun _ => False) := by
  refine Met.ofW (cc := cX3_row) (maxL := 2) (ret := (some (.object "PointedWords$Row"))) (by decide) rfl ?_
  intro p e s m args below meth c s₁ B hml hv
  obtain ⟨rfl, ⟨hP, hD, hK, hA⟩, hE⟩ := hv
  have hx := B.exec
  have hb := B.bytes
  have hr := B.returns
  have hts := atoms_spec (ws := (wz yX3_row cX3_row 2 (some (.object "PointedWords$Row")))) B.pre
  have hown : s.vm.findClass RX3 = some m.cls := findClass_of_methodNamed B.named
  have hlocks := B.notSynchronized
  have hS : va_S A s.heap s.heap [] := va_S.rf
  have hl := lv_entry ([.ref (Zz Z 1), .int a1]) (n := 2) (Nat.le_of_ble_eq_true rfl)
  rw [lg_entry_eq]
  generalize (lg_sl ([.ref (Zz Z 1), .int a1]) ++ List.replicate (2 - (lg_sl ([.ref (Zz Z 1), .int a1])).length) Slot.unset).toArray = ls at hl ⊢
  have hl : lv_has ls 2 [(0, .ref (Zz Z 1)), (1, .int a1)] := hl
  unfold pX3_row at h
  refine lv_aload_n hx hb dX3_row_0 rfl (lv_at hl 0 rfl) ?_
  refine va_get (D := D) (ci := 2) (v := .ref (Zz Z 2)) (C := RX3) (T := TX3) (N := 1) hx hb hts (fun w h => wm (zin_X3 w h)) hown hK hP 1 rfl rfl 0 (by decide) (hts _ (wm zw_51)) (fun _ h9 => h9) rfl dX3_row_1 ?_
  refine lv_iload_n hx hb dX3_row_4 rfl (lv_at hl 1 rfl) ?_
  obtain ⟨hi_1, h⟩ := zb_if h
  refine va_aldq hx hb hK hP 2 2 rfl rfl (inb_in hi_1) dX3_row_5 ?_
  refine W.eq (g2 := F0 m 6 ls ([.ref (Zs Z a1.toNatClampNeg)])) rfl ?_
  exact W.aret (v := .ref (Zs Z a1.toNatClampNeg)) hx hb hr (Or.inl ⟨_, rfl⟩) (Or.inr ⟨_, rfl⟩) (fun t ht hW => ⟨_, rfl, (Option.some.inj h), ht⟩) (fun _ hq => nomatch hq) dX3_row_6
theorem zrow {Z : CZ} {u : CS} {i : Int32} {r : Nat} (hZ : cok Z) (h : pX3_row Z u i = some r) : isR Z r := by
  unfold pX3_row at h
  obtain ⟨hi, h⟩ := zb_if h
  cases h
  exact cok_s hZ hi
def pX3_hasWords (Z : CZ) (u : CS) (a1 : Int32) (a2 : Int32) (a3 : Int32) : Option (Int32) := (if a1 < 0 then some (0 : Int32) else (if a1 < (4 : Int32) then (if inb a1 4 = true then ((some (Us u (Zs Z a1.toNatClampNeg))).bind fun y_5 => (if a2 < 0 then some (0 : Int32) else (if y_5 < a2 then some (0 : Int32) else (if (y_5 - a2) < a3 then some (0 : Int32) else some (1 : Int32))))) else none) else some (0 : Int32)))
set_option maxHeartbeats 4000000 in
set_option maxRecDepth 100000 in
theorem ct_X3_hasWords (l : Launch) (D : va_G) (c4 : Nat → ClassId) (A : Nat → Prop) (Z : CZ) (hZ : cok Z) (u : CS) (a1 : Int32) (a2 : Int32) (a3 : Int32) (r : Int32) (h : pX3_hasWords Z u a1 a2 a3 = some r) : Met l yX3_hasWords (wz yX3_hasWords cX3_hasWords 5 (some .boolean)) ({ frames := 0, cells := 0, slots := 0, locals := 0 } : Room) (va_Pc [.ref (Zz Z 1), .int a1, .int a2, .int a3] (fun U => cPre D c4 A Z u U)) (vp_Si (fun q => q = r)) 0 0 (fun _ => False) := by
  refine Met.ofW (cc := cX3_hasWords) (maxL := 5) (ret := (some .boolean)) (by decide) rfl ?_
  intro p e s m args below meth c s₁ B hml hv
  obtain ⟨rfl, ⟨hP, hD, hK, hA⟩, hE⟩ := hv
  have hx := B.exec
  have hb := B.bytes
  have hr := B.returns
  have hts := atoms_spec (ws := (wz yX3_hasWords cX3_hasWords 5 (some .boolean))) B.pre
  have hown : s.vm.findClass RX3 = some m.cls := findClass_of_methodNamed B.named
  have hlocks := B.notSynchronized
  have hS : va_S A s.heap s.heap [] := va_S.rf
  have hl := lv_entry ([.ref (Zz Z 1), .int a1, .int a2, .int a3]) (n := 5) (Nat.le_of_ble_eq_true rfl)
  rw [lg_entry_eq]
  generalize (lg_sl ([.ref (Zz Z 1), .int a1, .int a2, .int a3]) ++ List.replicate (5 - (lg_sl ([.ref (Zz Z 1), .int a1, .int a2, .int a3])).length) Slot.unset).toArray = ls at hl ⊢
  have hl : lv_has ls 5 [(0, .ref (Zz Z 1)), (1, .int a1), (2, .int a2), (3, .int a3)] := hl
  unfold pX3_hasWords at h
  refine lv_iload_n hx hb dX3_hasWords_0 rfl (lv_at hl 1 rfl) ?_
  refine lv_if_lt (tgt := 9) hx hb dX3_hasWords_1 (by decide) (fun c_1 => ?_) (fun c_1 => ?_)
  · skip
    rw [if_pos c_1] at h
    refine lv_iconst (v := (0 : Int32)) hx hb dX3_hasWords_9 (by decide) ?_
    exact W.zret (v := (0 : Int32)) (ty := .boolean) hx hb hr rfl (fun t ht hW => ⟨_, rfl, (Option.some.inj h), ht⟩) (fun _ hq => nomatch hq) dX3_hasWords_10
  · skip
    rw [if_neg c_1] at h
    refine lv_iload_n hx hb dX3_hasWords_4 rfl (lv_at hl 1 rfl) ?_
    refine lv_iconst (v := (4 : Int32)) hx hb dX3_hasWords_5 (by decide) ?_
    refine lv_icmp_lt (tgt := 11) hx hb dX3_hasWords_6 (by decide) (fun c_2 => ?_) (fun c_2 => ?_)
    · skip
      rw [if_pos c_2] at h
      refine lv_aload_n hx hb dX3_hasWords_11 rfl (lv_at hl 0 rfl) ?_
      refine va_get (D := D) (ci := 2) (v := .ref (Zz Z 2)) (C := RX3) (T := TX3) (N := 1) hx hb hts (fun w h => wm (zin_X3 w h)) hown hK hP 1 rfl rfl 0 (by decide) (hts _ (wm zw_51)) (fun _ h9 => h9) rfl dX3_hasWords_12 ?_
      refine lv_iload_n hx hb dX3_hasWords_15 rfl (lv_at hl 1 rfl) ?_
      obtain ⟨hi_3, h⟩ := zb_if h
      refine va_aldq hx hb hK hP 2 2 rfl rfl (inb_in hi_3) dX3_hasWords_16 ?_
      refine W.eq (g2 := F0 m 17 ls ([.ref (Zs Z a1.toNatClampNeg)])) rfl ?_
      obtain ⟨n_4, hn_4⟩ := cW_R (c4 := c4) (u := u) (cok_s hZ hi_3)
      refine va_get (D := D) (ci := 3) (v := .int (Us u (Zs Z a1.toNatClampNeg))) (C := RX4) (T := TX4) (N := 2) hx hb hts (fun w h => wm (zin_X4 w h)) hown hK hP n_4 hn_4 rfl 1 (by decide) (hts _ (wm zw_44)) (fun _ h9 => h9) rfl dX3_hasWords_17 ?_
      obtain ⟨y_5, e_5, h⟩ := zb_bind h
      try dsimp only at h
      refine zt_i (Option.some.inj e_5) ?_
      refine lv_istore (lv' := [(4, .int y_5), (0, .ref (Zz Z 1)), (1, .int a1), (2, .int a2), (3, .int a3)]) hx hb dX3_hasWords_20 hl (by decide) rfl (fun ls hl => ?_)
      refine lv_iload_n hx hb dX3_hasWords_22 rfl (lv_at hl 3 rfl) ?_
      refine lv_if_lt (tgt := 44) hx hb dX3_hasWords_23 (by decide) (fun c_6 => ?_) (fun c_6 => ?_)
      · skip
        rw [if_pos c_6] at h
        refine lv_iconst (v := (0 : Int32)) hx hb dX3_hasWords_44 (by decide) ?_
        exact W.zret (v := (0 : Int32)) (ty := .boolean) hx hb hr rfl (fun t ht hW => ⟨_, rfl, (Option.some.inj h), ht⟩) (fun _ hq => nomatch hq) dX3_hasWords_45
      · skip
        rw [if_neg c_6] at h
        refine lv_iload_n hx hb dX3_hasWords_26 rfl (lv_at hl 3 rfl) ?_
        refine lv_iload hx hb dX3_hasWords_27 (lv_at hl 0 rfl) ?_
        refine lv_icmp_gt (tgt := 44) hx hb dX3_hasWords_29 (by decide) (fun c_7 => ?_) (fun c_7 => ?_)
        · skip
          rw [if_pos c_7] at h
          refine lv_iconst (v := (0 : Int32)) hx hb dX3_hasWords_44 (by decide) ?_
          exact W.zret (v := (0 : Int32)) (ty := .boolean) hx hb hr rfl (fun t ht hW => ⟨_, rfl, (Option.some.inj h), ht⟩) (fun _ hq => nomatch hq) dX3_hasWords_45
        · skip
          rw [if_neg c_7] at h
          refine lv_iload_n hx hb dX3_hasWords_32 rfl (lv_at hl 4 rfl) ?_
          refine lv_iload hx hb dX3_hasWords_33 (lv_at hl 0 rfl) ?_
          refine lv_iload_n hx hb dX3_hasWords_35 rfl (lv_at hl 3 rfl) ?_
          refine lv_isub hx hb dX3_hasWords_36 ?_
          refine lv_icmp_gt (tgt := 44) hx hb dX3_hasWords_37 (by decide) (fun c_8 => ?_) (fun c_8 => ?_)
          · skip
            rw [if_pos c_8] at h
            refine lv_iconst (v := (0 : Int32)) hx hb dX3_hasWords_44 (by decide) ?_
            exact W.zret (v := (0 : Int32)) (ty := .boolean) hx hb hr rfl (fun t ht hW => ⟨_, rfl, (Option.some.inj h), ht⟩) (fun _ hq => nomatch hq) dX3_hasWords_45
          · skip
            rw [if_neg c_8] at h
            refine lv_iconst (v := (1 : Int32)) hx hb dX3_hasWords_40 (by decide) ?_
            refine lv_goto (tgt := 45) hx hb dX3_hasWords_41 (by decide) ?_
            exact W.zret (v := (1 : Int32)) (ty := .boolean) hx hb hr rfl (fun t ht hW => ⟨_, rfl, (Option.some.inj h), ht⟩) (fun _ hq => nomatch hq) dX3_hasWords_45
    · skip
      rw [if_neg c_2] at h
      refine lv_iconst (v := (0 : Int32)) hx hb dX3_hasWords_9 (by decide) ?_
      exact W.zret (v := (0 : Int32)) (ty := .boolean) hx hb hr rfl (fun t ht hW => ⟨_, rfl, (Option.some.inj h), ht⟩) (fun _ hq => nomatch hq) dX3_hasWords_10
def pX3_at (Z : CZ) (u : CS) (a1 : Int32) (a2 : Int32) : Option (Int64) := (if a1 < 0 then some (0 : Int64) else (if a1 < (4 : Int32) then (if inb a1 4 = true then (if a2 < 0 then some (0 : Int64) else (if (Us u (Zs Z a1.toNatClampNeg)) ≤ a2 then some (0 : Int64) else (if inb a2 64 = true then some (Uc u (Zc Z (Zs Z a1.toNatClampNeg)) a2.toNatClampNeg) else none))) else none) else some (0 : Int64)))
set_option maxHeartbeats 4000000 in
set_option maxRecDepth 100000 in
theorem ct_X3_at (l : Launch) (D : va_G) (c4 : Nat → ClassId) (A : Nat → Prop) (Z : CZ) (hZ : cok Z) (u : CS) (a1 : Int32) (a2 : Int32) (r : Int64) (h : pX3_at Z u a1 a2 = some r) : Met l yX3_at (wz yX3_at cX3_at 4 (some .long)) ({ frames := 0, cells := 0, slots := 0, locals := 0 } : Room) (va_Pc [.ref (Zz Z 1), .int a1, .int a2] (fun U => cPre D c4 A Z u U)) (vp_Sl (fun q => q = r)) 0 0 (fun _ => False) := by
  refine Met.ofW (cc := cX3_at) (maxL := 4) (ret := (some .long)) (by decide) rfl ?_
  intro p e s m args below meth c s₁ B hml hv
  obtain ⟨rfl, ⟨hP, hD, hK, hA⟩, hE⟩ := hv
  have hx := B.exec
  have hb := B.bytes
  have hr := B.returns
  have hts := atoms_spec (ws := (wz yX3_at cX3_at 4 (some .long))) B.pre
  have hown : s.vm.findClass RX3 = some m.cls := findClass_of_methodNamed B.named
  have hlocks := B.notSynchronized
  have hS : va_S A s.heap s.heap [] := va_S.rf
  have hl := lv_entry ([.ref (Zz Z 1), .int a1, .int a2]) (n := 4) (Nat.le_of_ble_eq_true rfl)
  rw [lg_entry_eq]
  generalize (lg_sl ([.ref (Zz Z 1), .int a1, .int a2]) ++ List.replicate (4 - (lg_sl ([.ref (Zz Z 1), .int a1, .int a2])).length) Slot.unset).toArray = ls at hl ⊢
  have hl : lv_has ls 4 [(0, .ref (Zz Z 1)), (1, .int a1), (2, .int a2)] := hl
  unfold pX3_at at h
  refine lv_iload_n hx hb dX3_at_0 rfl (lv_at hl 1 rfl) ?_
  refine lv_if_lt (tgt := 9) hx hb dX3_at_1 (by decide) (fun c_1 => ?_) (fun c_1 => ?_)
  · skip
    rw [if_pos c_1] at h
    refine lv_lconst (v := (0 : Int64)) hx hb dX3_at_9 (by decide) ?_
    exact W.lret (v := (0 : Int64)) hx hb hr (fun t ht hW => ⟨_, rfl, (Option.some.inj h), ht⟩) (fun _ hq => nomatch hq) dX3_at_10
  · skip
    rw [if_neg c_1] at h
    refine lv_iload_n hx hb dX3_at_4 rfl (lv_at hl 1 rfl) ?_
    refine lv_iconst (v := (4 : Int32)) hx hb dX3_at_5 (by decide) ?_
    refine lv_icmp_lt (tgt := 11) hx hb dX3_at_6 (by decide) (fun c_2 => ?_) (fun c_2 => ?_)
    · skip
      rw [if_pos c_2] at h
      refine lv_aload_n hx hb dX3_at_11 rfl (lv_at hl 0 rfl) ?_
      refine va_get (D := D) (ci := 2) (v := .ref (Zz Z 2)) (C := RX3) (T := TX3) (N := 1) hx hb hts (fun w h => wm (zin_X3 w h)) hown hK hP 1 rfl rfl 0 (by decide) (hts _ (wm zw_51)) (fun _ h9 => h9) rfl dX3_at_12 ?_
      refine lv_iload_n hx hb dX3_at_15 rfl (lv_at hl 1 rfl) ?_
      obtain ⟨hi_3, h⟩ := zb_if h
      refine va_aldq hx hb hK hP 2 2 rfl rfl (inb_in hi_3) dX3_at_16 ?_
      refine W.eq (g2 := F0 m 17 ls ([.ref (Zs Z a1.toNatClampNeg)])) rfl ?_
      refine lv_astore_n (lv' := [(3, .ref (Zs Z a1.toNatClampNeg)), (0, .ref (Zz Z 1)), (1, .int a1), (2, .int a2)]) hx hb dX3_at_17 rfl hl (by decide) rfl (fun ls hl => ?_)
      refine lv_iload_n hx hb dX3_at_18 rfl (lv_at hl 3 rfl) ?_
      refine lv_if_lt (tgt := 39) hx hb dX3_at_19 (by decide) (fun c_4 => ?_) (fun c_4 => ?_)
      · skip
        rw [if_pos c_4] at h
        refine lv_lconst (v := (0 : Int64)) hx hb dX3_at_39 (by decide) ?_
        exact W.lret (v := (0 : Int64)) hx hb hr (fun t ht hW => ⟨_, rfl, (Option.some.inj h), ht⟩) (fun _ hq => nomatch hq) dX3_at_40
      · skip
        rw [if_neg c_4] at h
        refine lv_iload_n hx hb dX3_at_22 rfl (lv_at hl 3 rfl) ?_
        refine lv_aload_n hx hb dX3_at_23 rfl (lv_at hl 0 rfl) ?_
        obtain ⟨n_5, hn_5⟩ := cW_R (c4 := c4) (u := u) (cok_s hZ hi_3)
        refine va_get (D := D) (ci := 3) (v := .int (Us u (Zs Z a1.toNatClampNeg))) (C := RX4) (T := TX4) (N := 2) hx hb hts (fun w h => wm (zin_X4 w h)) hown hK hP n_5 hn_5 rfl 1 (by decide) (hts _ (wm zw_44)) (fun _ h9 => h9) rfl dX3_at_24 ?_
        refine lv_icmp_ge (tgt := 39) hx hb dX3_at_27 (by decide) (fun c_6 => ?_) (fun c_6 => ?_)
        · skip
          rw [if_pos c_6] at h
          refine lv_lconst (v := (0 : Int64)) hx hb dX3_at_39 (by decide) ?_
          exact W.lret (v := (0 : Int64)) hx hb hr (fun t ht hW => ⟨_, rfl, (Option.some.inj h), ht⟩) (fun _ hq => nomatch hq) dX3_at_40
        · skip
          rw [if_neg c_6] at h
          refine lv_aload_n hx hb dX3_at_30 rfl (lv_at hl 0 rfl) ?_
          obtain ⟨n_7, hn_7⟩ := cW_R (c4 := c4) (u := u) (cok_s hZ hi_3)
          refine va_getN (D := D) (ci := 3) (v := .ref (Zc Z (Zs Z a1.toNatClampNeg))) (C := RX4) (T := TX4) (N := 2) hx hb hts (fun w h => wm (zin_X4 w h)) hown hK hP n_7 hn_7 rfl 0 (by decide) (va_Nw.use rfl hE.2.2.2.1) (fun _ h9 => h9) rfl dX3_at_31 ?_
          refine lv_iload_n hx hb dX3_at_34 rfl (lv_at hl 3 rfl) ?_
          obtain ⟨hi_8, h⟩ := zb_if h
          obtain ⟨n_9, hn_9⟩ := cW_C (c4 := c4) (u := u) (cok_s hZ hi_3)
          refine va_lald hx hb hK hP n_9 0 hn_9 rfl (inb_in hi_8) dX3_at_35 ?_
          refine W.eq (g2 := F0 m 36 ls ([.long (Uc u (Zc Z (Zs Z a1.toNatClampNeg)) a2.toNatClampNeg)])) rfl ?_
          refine lv_goto (tgt := 40) hx hb dX3_at_36 (by decide) ?_
          exact W.lret (v := (Uc u (Zc Z (Zs Z a1.toNatClampNeg)) a2.toNatClampNeg)) hx hb hr (fun t ht hW => ⟨_, rfl, (Option.some.inj h), ht⟩) (fun _ hq => nomatch hq) dX3_at_40
    · skip
      rw [if_neg c_2] at h
      refine lv_lconst (v := (0 : Int64)) hx hb dX3_at_9 (by decide) ?_
      exact W.lret (v := (0 : Int64)) hx hb hr (fun t ht hW => ⟨_, rfl, (Option.some.inj h), ht⟩) (fun _ hq => nomatch hq) dX3_at_10
def pX3_flatElement (Z : CZ) (u : CS) (a1 : Nat) (a2 : Int32) : Option (Int64) := ((pX0_elementBits ((Uf u 0 a1) - (1 : Int32))).bind fun r_2 => ((some ((a2.toInt64) * (r_2.toInt64))).bind fun y_3 => ((pX3_at Z u (Uf u 4 a1) ((Uf u 5 a1) + ((y_3 / (64 : Int64)).toInt32))).bind fun r_6 => some (((r_6.toUInt64 >>> (((y_3 - y_3 / (64 : Int64) * (64 : Int64)).toInt32).toInt64.toUInt64 &&& Int64.toUInt64 63)).toInt64) &&& (pX0_lowest r_2)))))
set_option maxHeartbeats 4000000 in
set_option maxRecDepth 100000 in
theorem ct_X3_flatElement (l : Launch) (D : va_G) (c4 : Nat → ClassId) (A : Nat → Prop) (Z : CZ) (hZ : cok Z) (u : CS) (a1 : Nat) (ha1 : isF Z a1) (a2 : Int32) (r : Int64) (h : pX3_flatElement Z u a1 a2 = some r) : Met l yX3_flatElement (wz yX3_flatElement cX3_flatElement 8 (some .long)) ({ frames := 1, cells := 0, slots := 0, locals := 23 } : Room) (va_Pc [.ref (Zz Z 1), .ref a1, .int a2] (fun U => cPre D c4 A Z u U)) (vp_Sl (fun q => q = r)) 0 0 (fun _ => False) := by
  refine Met.ofW (cc := cX3_flatElement) (maxL := 8) (ret := (some .long)) (by decide) rfl ?_
  intro p e s m args below meth c s₁ B hml hv
  obtain ⟨rfl, ⟨hP, hD, hK, hA⟩, hE⟩ := hv
  have hx := B.exec
  have hb := B.bytes
  have hr := B.returns
  have hts := atoms_spec (ws := (wz yX3_flatElement cX3_flatElement 8 (some .long))) B.pre
  have hown : s.vm.findClass RX3 = some m.cls := findClass_of_methodNamed B.named
  have hlocks := B.notSynchronized
  have hS : va_S A s.heap s.heap [] := va_S.rf
  have hl := lv_entry ([.ref (Zz Z 1), .ref a1, .int a2]) (n := 8) (Nat.le_of_ble_eq_true rfl)
  rw [lg_entry_eq]
  generalize (lg_sl ([.ref (Zz Z 1), .ref a1, .int a2]) ++ List.replicate (8 - (lg_sl ([.ref (Zz Z 1), .ref a1, .int a2])).length) Slot.unset).toArray = ls at hl ⊢
  have hl : lv_has ls 8 [(0, .ref (Zz Z 1)), (1, .ref a1), (2, .int a2)] := hl
  unfold pX3_flatElement at h
  refine lv_aload_n hx hb dX3_flatElement_0 rfl (lv_at hl 1 rfl) ?_
  obtain ⟨n_1, hn_1⟩ := cW_F (c4 := c4) (u := u) ha1
  refine va_get (D := D) (ci := 1) (v := .int (Uf u 0 a1)) (C := RX2) (T := TX2) (N := 7) hx hb hts (fun w h => wm (zin_X2 w h)) hown hK hP n_1 hn_1 rfl 0 (by decide) (hts _ (wm zw_72)) (fun _ h9 => h9) rfl dX3_flatElement_1 ?_
  refine lv_iconst (v := (1 : Int32)) hx hb dX3_flatElement_4 (by decide) ?_
  refine lv_isub hx hb dX3_flatElement_5 ?_
  obtain ⟨q_2, hc_2, h⟩ := zb_bind h
  try dsimp only at h
  refine vp_callSi (W.runS (As := [.int ((Uf u 0 a1) - (1 : Int32))]) (rest := []) ⟨hx, hb, hml, hown, hts⟩ (ct_X0_elementBits l A ((Uf u 0 a1) - (1 : Int32)) _ hc_2) (va_cwS 1 hts (wz_S zw_433 zw_434 zw_12 zw_435) rfl rfl rfl (by decide +kernel) ⟨Nat.le_of_ble_eq_true rfl, Nat.le_of_ble_eq_true rfl⟩) ⟨fbE, fun U9 hU hW => ⟨rfl, goE hE hS hU hW⟩⟩ rfl rfl hl.1 rfl (lv_room (Nat.le_of_ble_eq_true rfl)) dX3_flatElement_6 ⟨Nat.le_of_ble_eq_true rfl, Nat.le_of_ble_eq_true rfl⟩) (fun r_2 e_2 => ?_)
  subst e_2
  refine lv_istore_n (lv' := [(3, .int r_2), (0, .ref (Zz Z 1)), (1, .ref a1), (2, .int a2)]) hx hb dX3_flatElement_9 rfl hl (by decide) rfl (fun ls hl => ?_)
  refine lv_iload_n hx hb dX3_flatElement_10 rfl (lv_at hl 3 rfl) ?_
  refine lv_i2l hx hb dX3_flatElement_11 rfl ?_
  refine lv_iload_n hx hb dX3_flatElement_12 rfl (lv_at hl 0 rfl) ?_
  refine lv_i2l hx hb dX3_flatElement_13 rfl ?_
  refine lv_lmul hx hb dX3_flatElement_14 ?_
  obtain ⟨y_3, e_3, h⟩ := zb_bind h
  try dsimp only at h
  refine zt_l (Option.some.inj e_3) ?_
  refine lv_lstore (lv' := [(4, .long y_3), (3, .int r_2), (0, .ref (Zz Z 1)), (1, .ref a1), (2, .int a2)]) hx hb dX3_flatElement_15 hl (by decide) rfl (fun ls hl => ?_)
  refine lv_aload_n hx hb dX3_flatElement_17 rfl (lv_at hl 2 rfl) ?_
  refine lv_aload_n hx hb dX3_flatElement_18 rfl (lv_at hl 3 rfl) ?_
  obtain ⟨n_4, hn_4⟩ := cW_F (c4 := c4) (u := u) ha1
  refine va_get (D := D) (ci := 1) (v := .int (Uf u 4 a1)) (C := RX2) (T := TX2) (N := 7) hx hb hts (fun w h => wm (zin_X2 w h)) hown hK hP n_4 hn_4 rfl 4 (by decide) (hts _ (wm zw_88)) (fun _ h9 => h9) rfl dX3_flatElement_19 ?_
  refine lv_aload_n hx hb dX3_flatElement_22 rfl (lv_at hl 3 rfl) ?_
  obtain ⟨n_5, hn_5⟩ := cW_F (c4 := c4) (u := u) ha1
  refine va_get (D := D) (ci := 1) (v := .int (Uf u 5 a1)) (C := RX2) (T := TX2) (N := 7) hx hb hts (fun w h => wm (zin_X2 w h)) hown hK hP n_5 hn_5 rfl 5 (by decide) (hts _ (wm zw_92)) (fun _ h9 => h9) rfl dX3_flatElement_23 ?_
  refine lv_lload hx hb dX3_flatElement_26 (lv_at hl 0 rfl) ?_
  refine lv_ldc2 (v := (64 : Int64)) hx hb hown (hts _ (wm zw_560)) dX3_flatElement_28 ?_
  refine lv_ldiv hx hb dX3_flatElement_31 (by decide) ?_
  refine lv_l2i hx hb dX3_flatElement_32 rfl ?_
  refine lv_iadd hx hb dX3_flatElement_33 ?_
  obtain ⟨q_6, hc_6, h⟩ := zb_bind h
  try dsimp only at h
  refine vp_callSl (W.runV (As := [.int (Uf u 4 a1), .int ((Uf u 5 a1) + ((y_3 / (64 : Int64)).toInt32))]) (rest := []) ⟨hx, hb, hml, hown, hts⟩ (ct_X3_at l D c4 A Z hZ u (Uf u 4 a1) ((Uf u 5 a1) + ((y_3 / (64 : Int64)).toInt32)) _ hc_6) (cwV 2 hts (wz_V zw_329 zw_201 zw_202 zw_2 zw_203) rfl rfl rfl (by decide +kernel) ⟨Nat.le_of_ble_eq_true rfl, Nat.le_of_ble_eq_true rfl⟩) ⟨fbC, va_recv hK hP (ci := 2) (q0 := 1) rfl rfl, fun U9 hU hW => ⟨rfl, goC hP hD hK hA hE hS hU hW⟩⟩ rfl rfl hl.1 rfl (lv_room (Nat.le_of_ble_eq_true rfl)) dX3_flatElement_34 ⟨Nat.le_of_ble_eq_true rfl, Nat.le_of_ble_eq_true rfl⟩) (fun r_6 e_6 => ?_)
  subst e_6
  refine lv_lstore (lv' := [(6, .long r_6), (4, .long y_3), (3, .int r_2), (0, .ref (Zz Z 1)), (1, .ref a1), (2, .int a2)]) hx hb dX3_flatElement_37 hl (by decide) rfl (fun ls hl => ?_)
  refine lv_lload hx hb dX3_flatElement_39 (lv_at hl 0 rfl) ?_
  refine lv_lload hx hb dX3_flatElement_41 (lv_at hl 1 rfl) ?_
  refine lv_ldc2 (v := (64 : Int64)) hx hb hown (hts _ (wm zw_560)) dX3_flatElement_43 ?_
  refine lv_lrem hx hb dX3_flatElement_46 (by decide) ?_
  refine lv_l2i hx hb dX3_flatElement_47 rfl ?_
  refine lv_lushr hx hb dX3_flatElement_48 rfl ?_
  refine lv_iload_n hx hb dX3_flatElement_49 rfl (lv_at hl 2 rfl) ?_
  refine vp_callSl (W.runS (As := [.int r_2]) (rest := [.long ((r_6.toUInt64 >>> (((y_3 - y_3 / (64 : Int64) * (64 : Int64)).toInt32).toInt64.toUInt64 &&& Int64.toUInt64 63)).toInt64)]) ⟨hx, hb, hml, hown, hts⟩ (ct_X0_lowest l r_2 _ rfl) (va_cwS 1 hts (wz_S zw_561 zw_562 zw_12 zw_563) rfl rfl rfl (by decide +kernel) ⟨Nat.le_of_ble_eq_true rfl, Nat.le_of_ble_eq_true rfl⟩) ⟨fbN, fun U9 hU hW => ⟨rfl, trivial⟩⟩ rfl rfl hl.1 rfl (lv_room (Nat.le_of_ble_eq_true rfl)) dX3_flatElement_50 ⟨Nat.le_of_ble_eq_true rfl, Nat.le_of_ble_eq_true rfl⟩) (fun r_7 e_7 => ?_)
  subst e_7
  refine lv_land hx hb dX3_flatElement_53 ?_
  exact W.lret (v := (((r_6.toUInt64 >>> (((y_3 - y_3 / (64 : Int64) * (64 : Int64)).toInt32).toInt64.toUInt64 &&& Int64.toUInt64 63)).toInt64) &&& (pX0_lowest r_2))) hx hb hr (fun t ht hW => ⟨_, rfl, (Option.some.inj h), ht⟩) (fun _ hq => nomatch hq) dX3_flatElement_54
def pX3_usedWords_3 (Z : CZ) (u : CS) : Nat → Int32 → Int32 → Int32 → Option (Int32)
  | 0, _, _, _ => none
  | n + 1, x0, x1, x2 => (if x2 ≤ 0 then some x2 else ((pX3_at Z u x0 ((x1 + x2) - (1 : Int32))).bind fun r_2 => (if r_2 = (0 : Int64) then pX3_usedWords_3 Z u n x0 x1 (x2 + (-1 : Int32)) else some x2)))
theorem pX3_usedWords_3_s (Z : CZ) (u : CS) (n : Nat) (x0 : Int32) (x1 : Int32) (x2 : Int32) : pX3_usedWords_3 Z u (n + 1) x0 x1 x2 = (if x2 ≤ 0 then some x2 else ((pX3_at Z u x0 ((x1 + x2) - (1 : Int32))).bind fun r_2 => (if r_2 = (0 : Int64) then pX3_usedWords_3 Z u n x0 x1 (x2 + (-1 : Int32)) else some x2))) := rfl
def pX3_usedWords (Z : CZ) (u : CS) (a1 : Int32) (a2 : Int32) (a3 : Int32) : Option (Int32) := pX3_usedWords_3 Z u 300 a1 a2 a3
set_option maxHeartbeats 4000000 in
set_option maxRecDepth 100000 in
theorem ct_X3_usedWords (l : Launch) (D : va_G) (c4 : Nat → ClassId) (A : Nat → Prop) (Z : CZ) (hZ : cok Z) (u : CS) (a1 : Int32) (a2 : Int32) (a3 : Int32) (r : Int32) (h : pX3_usedWords Z u a1 a2 a3 = some r) : Met l yX3_usedWords (wz yX3_usedWords cX3_usedWords 5 (some .int)) ({ frames := 1, cells := 0, slots := 0, locals := 23 } : Room) (va_Pc [.ref (Zz Z 1), .int a1, .int a2, .int a3] (fun U => cPre D c4 A Z u U)) (vp_Si (fun q => q = r)) 0 0 (fun _ => False) := by
  refine Met.ofW (cc := cX3_usedWords) (maxL := 5) (ret := (some .int)) (by decide) rfl ?_
  intro p e s m args below meth c s₁ B hml hv
  obtain ⟨rfl, ⟨hP, hD, hK, hA⟩, hE⟩ := hv
  have hx := B.exec
  have hb := B.bytes
  have hr := B.returns
  have hts := atoms_spec (ws := (wz yX3_usedWords cX3_usedWords 5 (some .int))) B.pre
  have hown : s.vm.findClass RX3 = some m.cls := findClass_of_methodNamed B.named
  have hlocks := B.notSynchronized
  have hS : va_S A s.heap s.heap [] := va_S.rf
  have hl := lv_entry ([.ref (Zz Z 1), .int a1, .int a2, .int a3]) (n := 5) (Nat.le_of_ble_eq_true rfl)
  rw [lg_entry_eq]
  generalize (lg_sl ([.ref (Zz Z 1), .int a1, .int a2, .int a3]) ++ List.replicate (5 - (lg_sl ([.ref (Zz Z 1), .int a1, .int a2, .int a3])).length) Slot.unset).toArray = ls at hl ⊢
  have hl : lv_has ls 5 [(0, .ref (Zz Z 1)), (1, .int a1), (2, .int a2), (3, .int a3)] := hl
  have k_3 : ∀ (n_3 : Nat), ∀ (x0 : Int32) (x1 : Int32) (x2 : Int32), ∀ (ls : Array Slot), lv_has ls 5 [(0, .ref (Zz Z 1)), (1, .int x0), (2, .int x1), (4, .int x2)] → pX3_usedWords_3 Z u n_3 x0 x1 x2 = some r → W p l e ({ frames := 1, cells := 0, slots := 0, locals := 23 } : Room) s m ([.ref (Zz Z 1), .int a1, .int a2, .int a3] : List Value).toArray below meth c s.heap [] 0 0 (MQ below (vp_Si (fun q => q = r)) ([.ref (Zz Z 1), .int a1, .int a2, .int a3] : List Value).toArray s 0 0 (fun _ => False)) (F0 m 3 ls []) := by
    intro n_3
    induction n_3 with
    | zero =>
      intro x0 x1 x2 ls hl h
      exact nomatch h
    | succ n_3 ih_3 =>
      intro x0 x1 x2 ls hl h
      rw [pX3_usedWords_3_s] at h
      refine lv_iload hx hb dX3_usedWords_3 (lv_at hl 3 rfl) ?_
      refine lv_if_le (tgt := 30) hx hb dX3_usedWords_5 (by decide) (fun c_1 => ?_) (fun c_1 => ?_)
      · skip
        rw [if_pos c_1] at h
        refine lv_iload hx hb dX3_usedWords_30 (lv_at hl 3 rfl) ?_
        exact W.iret (v := x2) hx hb hr (fun t ht hW => ⟨_, rfl, (Option.some.inj h), ht⟩) (fun _ hq => nomatch hq) dX3_usedWords_32
      · skip
        rw [if_neg c_1] at h
        refine lv_aload_n hx hb dX3_usedWords_8 rfl (lv_at hl 0 rfl) ?_
        refine lv_iload_n hx hb dX3_usedWords_9 rfl (lv_at hl 1 rfl) ?_
        refine lv_iload_n hx hb dX3_usedWords_10 rfl (lv_at hl 2 rfl) ?_
        refine lv_iload hx hb dX3_usedWords_11 (lv_at hl 3 rfl) ?_
        refine lv_iadd hx hb dX3_usedWords_13 ?_
        refine lv_iconst (v := (1 : Int32)) hx hb dX3_usedWords_14 (by decide) ?_
        refine lv_isub hx hb dX3_usedWords_15 ?_
        obtain ⟨q_2, hc_2, h⟩ := zb_bind h
        try dsimp only at h
        refine vp_callSl (W.runV (As := [.int x0, .int ((x1 + x2) - (1 : Int32))]) (rest := []) ⟨hx, hb, hml, hown, hts⟩ (ct_X3_at l D c4 A Z hZ u x0 ((x1 + x2) - (1 : Int32)) _ hc_2) (cwV 2 hts (wz_V zw_329 zw_201 zw_202 zw_2 zw_203) rfl rfl rfl (by decide +kernel) ⟨Nat.le_of_ble_eq_true rfl, Nat.le_of_ble_eq_true rfl⟩) ⟨fbC, va_recv hK hP (ci := 2) (q0 := 1) rfl rfl, fun U9 hU hW => ⟨rfl, goC hP hD hK hA hE hS hU hW⟩⟩ rfl rfl hl.1 rfl (lv_room (Nat.le_of_ble_eq_true rfl)) dX3_usedWords_16 ⟨Nat.le_of_ble_eq_true rfl, Nat.le_of_ble_eq_true rfl⟩) (fun r_2 e_2 => ?_)
        subst e_2
        refine lv_lconst (v := (0 : Int64)) hx hb dX3_usedWords_19 (by decide) ?_
        refine W.lcmp hx hb dX3_usedWords_20 ?_
        refine lv_if_ne (tgt := 30) hx hb dX3_usedWords_21 (by decide) (fun c_3 => ?_) (fun c_3 => ?_)
        · skip
          have c_3 := mt (lg_cmp_eq _ _).mpr c_3
          rw [if_neg c_3] at h
          refine lv_iload hx hb dX3_usedWords_30 (lv_at hl 3 rfl) ?_
          exact W.iret (v := x2) hx hb hr (fun t ht hW => ⟨_, rfl, (Option.some.inj h), ht⟩) (fun _ hq => nomatch hq) dX3_usedWords_32
        · skip
          have c_3 := (lg_cmp_eq _ _).mp c_3
          rw [if_pos c_3] at h
          refine lv_iinc (v := (x2 + (-1 : Int32))) (lv' := [(4, .int (x2 + (-1 : Int32))), (0, .ref (Zz Z 1)), (1, .int x0), (2, .int x1)]) hx hb dX3_usedWords_24 hl (k := 3) rfl rfl (by decide) rfl (fun ls hl => ?_)
          refine lv_goto (tgt := 3) hx hb dX3_usedWords_27 (by decide) ?_
          exact ih_3 x0 x1 (x2 + (-1 : Int32)) ls (lv_sub hl [1, 2, 3, 0] rfl) h
  unfold pX3_usedWords at h
  refine lv_iload_n hx hb dX3_usedWords_0 rfl (lv_at hl 3 rfl) ?_
  refine lv_istore (lv' := [(4, .int a3), (0, .ref (Zz Z 1)), (1, .int a1), (2, .int a2), (3, .int a3)]) hx hb dX3_usedWords_1 hl (by decide) rfl (fun ls hl => ?_)
  exact k_3 300 a1 a2 a3 ls (lv_sub hl [1, 2, 3, 0] rfl) h
