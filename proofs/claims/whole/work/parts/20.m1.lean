def pX6_offset (a1 : Int64) : Int32 := ((a1.toInt32) >>> ((2 : Int32) &&& 31))
set_option maxHeartbeats 4000000 in
set_option maxRecDepth 100000 in
theorem ct_X6_offset (l : Launch) (a1 : Int64) (r : Int32) (h : pX6_offset a1 = r) : Met l yX6_offset (wz yX6_offset cX6_offset 2 (some .int)) ({ frames := 0, cells := 0, slots := 0, locals := 0 } : Room) (va_Pc [.long a1] (fun _ => True)) (vp_Si (fun q => q = r)) 0 0 (fun _ => False) := by
  refine Met.ofW (cc := cX6_offset) (maxL := 2) (ret := (some .int)) (by decide) rfl ?_
  intro p e s m args below meth c s₁ B hml hv
  obtain ⟨rfl, -⟩ := hv
  have hx := B.exec
  have hb := B.bytes
  have hr := B.returns
  have hts := atoms_spec (ws := (wz yX6_offset cX6_offset 2 (some .int))) B.pre
  have hown : s.vm.findClass RX6 = some m.cls := findClass_of_methodNamed B.named
  have hlocks := B.notSynchronized
  have hl := lv_entry ([.long a1]) (n := 2) (Nat.le_of_ble_eq_true rfl)
  rw [lg_entry_eq]
  generalize (lg_sl ([.long a1]) ++ List.replicate (2 - (lg_sl ([.long a1])).length) Slot.unset).toArray = ls at hl ⊢
  have hl : lv_has ls 2 [(0, .long a1)] := hl
  unfold pX6_offset at h
  refine lv_lload_n hx hb dX6_offset_0 rfl (lv_at hl 0 rfl) ?_
  refine lv_l2i hx hb dX6_offset_1 rfl ?_
  refine lv_iconst (v := (2 : Int32)) hx hb dX6_offset_2 (by decide) ?_
  refine lv_ishr hx hb dX6_offset_3 ?_
  exact W.iret (v := ((a1.toInt32) >>> ((2 : Int32) &&& 31))) hx hb hr (fun t ht hW => ⟨_, rfl, h, ht⟩) (fun _ hq => nomatch hq) dX6_offset_4
def pX6_isPad (a1 : Int64) : Int32 := (if a1 = (0 : Int64) then (0 : Int32) else (if (2 : Int64) ≤ (a1 &&& (3 : Int64)) then (0 : Int32) else (1 : Int32)))
set_option maxHeartbeats 4000000 in
set_option maxRecDepth 100000 in
theorem ct_X6_isPad (l : Launch) (a1 : Int64) (r : Int32) (h : pX6_isPad a1 = r) : Met l yX6_isPad (wz yX6_isPad cX6_isPad 2 (some .boolean)) ({ frames := 0, cells := 0, slots := 0, locals := 0 } : Room) (va_Pc [.long a1] (fun _ => True)) (vp_Si (fun q => q = r)) 0 0 (fun _ => False) := by
  refine Met.ofW (cc := cX6_isPad) (maxL := 2) (ret := (some .boolean)) (by decide) rfl ?_
  intro p e s m args below meth c s₁ B hml hv
  obtain ⟨rfl, -⟩ := hv
  have hx := B.exec
  have hb := B.bytes
  have hr := B.returns
  have hts := atoms_spec (ws := (wz yX6_isPad cX6_isPad 2 (some .boolean))) B.pre
  have hown : s.vm.findClass RX6 = some m.cls := findClass_of_methodNamed B.named
  have hlocks := B.notSynchronized
  have hl := lv_entry ([.long a1]) (n := 2) (Nat.le_of_ble_eq_true rfl)
  rw [lg_entry_eq]
  generalize (lg_sl ([.long a1]) ++ List.replicate (2 - (lg_sl ([.long a1])).length) Slot.unset).toArray = ls at hl ⊢
  have hl : lv_has ls 2 [(0, .long a1)] := hl
  unfold pX6_isPad at h
  refine lv_lload_n hx hb dX6_isPad_0 rfl (lv_at hl 0 rfl) ?_
  refine lv_lconst (v := (0 : Int64)) hx hb dX6_isPad_1 (by decide) ?_
  refine W.lcmp hx hb dX6_isPad_2 ?_
  refine lv_if_eq (tgt := 22) hx hb dX6_isPad_3 (by decide) (fun c_1 => ?_) (fun c_1 => ?_)
  · skip
    have c_1 := (lg_cmp_eq _ _).mp c_1
    rw [if_pos c_1] at h
    refine lv_iconst (v := (0 : Int32)) hx hb dX6_isPad_22 (by decide) ?_
    exact W.zret (v := (0 : Int32)) (ty := .boolean) hx hb hr rfl (fun t ht hW => ⟨_, rfl, h, ht⟩) (fun _ hq => nomatch hq) dX6_isPad_23
  · skip
    have c_1 := mt (lg_cmp_eq _ _).mpr c_1
    rw [if_neg c_1] at h
    refine lv_lload_n hx hb dX6_isPad_6 rfl (lv_at hl 0 rfl) ?_
    refine lv_ldc2 (v := (3 : Int64)) hx hb hown (hts _ (wm zw_789)) dX6_isPad_7 ?_
    refine lv_land hx hb dX6_isPad_10 ?_
    refine lv_ldc2 (v := (2 : Int64)) hx hb hown (hts _ (wm zw_790)) dX6_isPad_11 ?_
    refine W.lcmp hx hb dX6_isPad_14 ?_
    refine lv_if_ge (tgt := 22) hx hb dX6_isPad_15 (by decide) (fun c_2 => ?_) (fun c_2 => ?_)
    · skip
      have c_2 := (lg_cmp_ge _ _).mp c_2
      rw [if_pos c_2] at h
      refine lv_iconst (v := (0 : Int32)) hx hb dX6_isPad_22 (by decide) ?_
      exact W.zret (v := (0 : Int32)) (ty := .boolean) hx hb hr rfl (fun t ht hW => ⟨_, rfl, h, ht⟩) (fun _ hq => nomatch hq) dX6_isPad_23
    · skip
      have c_2 := mt (lg_cmp_ge _ _).mpr c_2
      rw [if_neg c_2] at h
      refine lv_iconst (v := (1 : Int32)) hx hb dX6_isPad_18 (by decide) ?_
      refine lv_goto (tgt := 23) hx hb dX6_isPad_19 (by decide) ?_
      exact W.zret (v := (1 : Int32)) (ty := .boolean) hx hb hr rfl (fun t ht hW => ⟨_, rfl, h, ht⟩) (fun _ hq => nomatch hq) dX6_isPad_23
def pX6_bits (a1 : Int32) : Int32 := (if a1 = 0 then (0 : Int32) else (if a1 = (1 : Int32) then (1 : Int32) else (if a1 = (2 : Int32) then (8 : Int32) else (if a1 = (3 : Int32) then (16 : Int32) else (if a1 = (4 : Int32) then (32 : Int32) else (64 : Int32))))))
set_option maxHeartbeats 4000000 in
set_option maxRecDepth 100000 in
theorem ct_X6_bits (l : Launch) (a1 : Int32) (r : Int32) (h : pX6_bits a1 = r) : Met l yX6_bits (wz yX6_bits cX6_bits 1 (some .int)) ({ frames := 0, cells := 0, slots := 0, locals := 0 } : Room) (va_Pc [.int a1] (fun _ => True)) (vp_Si (fun q => q = r)) 0 0 (fun _ => False) := by
  refine Met.ofW (cc := cX6_bits) (maxL := 1) (ret := (some .int)) (by decide) rfl ?_
  intro p e s m args below meth c s₁ B hml hv
  obtain ⟨rfl, -⟩ := hv
  have hx := B.exec
  have hb := B.bytes
  have hr := B.returns
  have hts := atoms_spec (ws := (wz yX6_bits cX6_bits 1 (some .int))) B.pre
  have hown : s.vm.findClass RX6 = some m.cls := findClass_of_methodNamed B.named
  have hlocks := B.notSynchronized
  have hl := lv_entry ([.int a1]) (n := 1) (Nat.le_of_ble_eq_true rfl)
  rw [lg_entry_eq]
  generalize (lg_sl ([.int a1]) ++ List.replicate (1 - (lg_sl ([.int a1])).length) Slot.unset).toArray = ls at hl ⊢
  have hl : lv_has ls 1 [(0, .int a1)] := hl
  unfold pX6_bits at h
  refine lv_iload_n hx hb dX6_bits_0 rfl (lv_at hl 0 rfl) ?_
  refine lv_if_ne (tgt := 8) hx hb dX6_bits_1 (by decide) (fun c_1 => ?_) (fun c_1 => ?_)
  · skip
    rw [if_neg c_1] at h
    refine lv_iload_n hx hb dX6_bits_8 rfl (lv_at hl 0 rfl) ?_
    refine lv_iconst (v := (1 : Int32)) hx hb dX6_bits_9 (by decide) ?_
    refine lv_icmp_ne (tgt := 17) hx hb dX6_bits_10 (by decide) (fun c_2 => ?_) (fun c_2 => ?_)
    · skip
      rw [if_neg c_2] at h
      refine lv_iload_n hx hb dX6_bits_17 rfl (lv_at hl 0 rfl) ?_
      refine lv_iconst (v := (2 : Int32)) hx hb dX6_bits_18 (by decide) ?_
      refine lv_icmp_ne (tgt := 27) hx hb dX6_bits_19 (by decide) (fun c_3 => ?_) (fun c_3 => ?_)
      · skip
        rw [if_neg c_3] at h
        refine lv_iload_n hx hb dX6_bits_27 rfl (lv_at hl 0 rfl) ?_
        refine lv_iconst (v := (3 : Int32)) hx hb dX6_bits_28 (by decide) ?_
        refine lv_icmp_ne (tgt := 37) hx hb dX6_bits_29 (by decide) (fun c_4 => ?_) (fun c_4 => ?_)
        · skip
          rw [if_neg c_4] at h
          refine lv_iload_n hx hb dX6_bits_37 rfl (lv_at hl 0 rfl) ?_
          refine lv_iconst (v := (4 : Int32)) hx hb dX6_bits_38 (by decide) ?_
          refine lv_icmp_ne (tgt := 47) hx hb dX6_bits_39 (by decide) (fun c_5 => ?_) (fun c_5 => ?_)
          · skip
            rw [if_neg c_5] at h
            refine lv_bipush (v := (64 : Int32)) hx hb dX6_bits_47 (by decide) ?_
            exact W.iret (v := (64 : Int32)) hx hb hr (fun t ht hW => ⟨_, rfl, h, ht⟩) (fun _ hq => nomatch hq) dX6_bits_49
          · skip
            rw [if_pos c_5] at h
            refine lv_bipush (v := (32 : Int32)) hx hb dX6_bits_42 (by decide) ?_
            refine lv_goto (tgt := 49) hx hb dX6_bits_44 (by decide) ?_
            exact W.iret (v := (32 : Int32)) hx hb hr (fun t ht hW => ⟨_, rfl, h, ht⟩) (fun _ hq => nomatch hq) dX6_bits_49
        · skip
          rw [if_pos c_4] at h
          refine lv_bipush (v := (16 : Int32)) hx hb dX6_bits_32 (by decide) ?_
          refine lv_goto (tgt := 49) hx hb dX6_bits_34 (by decide) ?_
          exact W.iret (v := (16 : Int32)) hx hb hr (fun t ht hW => ⟨_, rfl, h, ht⟩) (fun _ hq => nomatch hq) dX6_bits_49
      · skip
        rw [if_pos c_3] at h
        refine lv_bipush (v := (8 : Int32)) hx hb dX6_bits_22 (by decide) ?_
        refine lv_goto (tgt := 49) hx hb dX6_bits_24 (by decide) ?_
        exact W.iret (v := (8 : Int32)) hx hb hr (fun t ht hW => ⟨_, rfl, h, ht⟩) (fun _ hq => nomatch hq) dX6_bits_49
    · skip
      rw [if_pos c_2] at h
      refine lv_iconst (v := (1 : Int32)) hx hb dX6_bits_13 (by decide) ?_
      refine lv_goto (tgt := 49) hx hb dX6_bits_14 (by decide) ?_
      exact W.iret (v := (1 : Int32)) hx hb hr (fun t ht hW => ⟨_, rfl, h, ht⟩) (fun _ hq => nomatch hq) dX6_bits_49
  · skip
    rw [if_pos c_1] at h
    refine lv_iconst (v := (0 : Int32)) hx hb dX6_bits_4 (by decide) ?_
    refine lv_goto (tgt := 49) hx hb dX6_bits_5 (by decide) ?_
    exact W.iret (v := (0 : Int32)) hx hb hr (fun t ht hW => ⟨_, rfl, h, ht⟩) (fun _ hq => nomatch hq) dX6_bits_49
def pX6_pointer (a1 : Int32) (a2 : Int32) (a3 : Int64) : Int64 := ((((((a2 - a1) - (1 : Int32)).toInt64) <<< ((2 : Int32).toInt64 &&& 63)) &&& (4294967295 : Int64)) ||| a3)
set_option maxHeartbeats 4000000 in
set_option maxRecDepth 100000 in
theorem ct_X6_pointer (l : Launch) (a1 : Int32) (a2 : Int32) (a3 : Int64) (r : Int64) (h : pX6_pointer a1 a2 a3 = r) : Met l yX6_pointer (wz yX6_pointer cX6_pointer 6 (some .long)) ({ frames := 0, cells := 0, slots := 0, locals := 0 } : Room) (va_Pc [.int a1, .int a2, .long a3] (fun _ => True)) (vp_Sl (fun q => q = r)) 0 0 (fun _ => False) := by
  refine Met.ofW (cc := cX6_pointer) (maxL := 6) (ret := (some .long)) (by decide) rfl ?_
  intro p e s m args below meth c s₁ B hml hv
  obtain ⟨rfl, -⟩ := hv
  have hx := B.exec
  have hb := B.bytes
  have hr := B.returns
  have hts := atoms_spec (ws := (wz yX6_pointer cX6_pointer 6 (some .long))) B.pre
  have hown : s.vm.findClass RX6 = some m.cls := findClass_of_methodNamed B.named
  have hlocks := B.notSynchronized
  have hl := lv_entry ([.int a1, .int a2, .long a3]) (n := 6) (Nat.le_of_ble_eq_true rfl)
  rw [lg_entry_eq]
  generalize (lg_sl ([.int a1, .int a2, .long a3]) ++ List.replicate (6 - (lg_sl ([.int a1, .int a2, .long a3])).length) Slot.unset).toArray = ls at hl ⊢
  have hl : lv_has ls 6 [(0, .int a1), (1, .int a2), (2, .long a3)] := hl
  unfold pX6_pointer at h
  refine lv_iload_n hx hb dX6_pointer_0 rfl (lv_at hl 1 rfl) ?_
  refine lv_iload_n hx hb dX6_pointer_1 rfl (lv_at hl 0 rfl) ?_
  refine lv_isub hx hb dX6_pointer_2 ?_
  refine lv_iconst (v := (1 : Int32)) hx hb dX6_pointer_3 (by decide) ?_
  refine lv_isub hx hb dX6_pointer_4 ?_
  refine lv_i2l hx hb dX6_pointer_5 rfl ?_
  refine lv_lstore (lv' := [(4, .long (((a2 - a1) - (1 : Int32)).toInt64)), (0, .int a1), (1, .int a2), (2, .long a3)]) hx hb dX6_pointer_6 hl (by decide) rfl (fun ls hl => ?_)
  refine lv_lload hx hb dX6_pointer_8 (lv_at hl 0 rfl) ?_
  refine lv_iconst (v := (2 : Int32)) hx hb dX6_pointer_10 (by decide) ?_
  refine lv_lshl hx hb dX6_pointer_11 rfl ?_
  refine lv_ldc2 (v := (4294967295 : Int64)) hx hb hown (hts _ (wm zw_872)) dX6_pointer_12 ?_
  refine lv_land hx hb dX6_pointer_15 ?_
  refine lv_lload_n hx hb dX6_pointer_16 rfl (lv_at hl 3 rfl) ?_
  refine lv_lor hx hb dX6_pointer_17 ?_
  exact W.lret (v := ((((((a2 - a1) - (1 : Int32)).toInt64) <<< ((2 : Int32).toInt64 &&& 63)) &&& (4294967295 : Int64)) ||| a3)) hx hb hr (fun t ht hW => ⟨_, rfl, h, ht⟩) (fun _ hq => nomatch hq) dX6_pointer_18
def pX6_thrown (v : MS) : Int32 := (Vi v 0)
set_option maxHeartbeats 4000000 in
set_option maxRecDepth 100000 in
theorem ct_X6_thrown (l : Launch) (D : va_G) (c4 : Nat → ClassId) (A : Nat → Prop) (z : Nat → Nat) (v : MS) (r : Int32) (h : pX6_thrown v = r) : Met l yX6_thrown (wz yX6_thrown cX6_thrown 1 (some .int)) ({ frames := 0, cells := 0, slots := 0, locals := 0 } : Room) (va_Pc [.ref (z 0)] (fun U => mPre D c4 A z v U)) (vp_Si (fun q => q = r)) 0 0 (fun _ => False) := by
  refine Met.ofW (cc := cX6_thrown) (maxL := 1) (ret := (some .int)) (by decide) rfl ?_
  intro p e s m args below meth c s₁ B hml hv
  obtain ⟨rfl, hP, hD, hK, hA⟩ := hv
  have hx := B.exec
  have hb := B.bytes
  have hr := B.returns
  have hts := atoms_spec (ws := (wz yX6_thrown cX6_thrown 1 (some .int))) B.pre
  have hown : s.vm.findClass RX6 = some m.cls := findClass_of_methodNamed B.named
  have hlocks := B.notSynchronized
  have hS : va_S A s.heap s.heap [] := va_S.rf
  have hl := lv_entry ([.ref (z 0)]) (n := 1) (Nat.le_of_ble_eq_true rfl)
  rw [lg_entry_eq]
  generalize (lg_sl ([.ref (z 0)]) ++ List.replicate (1 - (lg_sl ([.ref (z 0)])).length) Slot.unset).toArray = ls at hl ⊢
  have hl : lv_has ls 1 [(0, .ref (z 0))] := hl
  unfold pX6_thrown at h
  refine lv_aload_n hx hb dX6_thrown_0 rfl (lv_at hl 0 rfl) ?_
  refine va_get (D := D) (ci := 5) (v := .int (Vi v 0)) (C := RX6) (T := TX6) (N := 33) hx hb hts (fun w h => wm (zin_X6 w h)) hown hK hP 0 rfl rfl 0 (by decide) (hts _ (wm zw_637)) (fun _ h9 => h9) rfl dX6_thrown_1 ?_
  exact W.iret (v := (Vi v 0)) hx hb hr (fun t ht hW => ⟨_, rfl, h, ht⟩) (fun _ hq => nomatch hq) dX6_thrown_4
def pX6_isWord (v : MS) (a1 : Int32) (a2 : Int32) : Option (Int32) := (if a1 < 0 then some (0 : Int32) else (if (4 : Int32) ≤ a1 then some (0 : Int32) else (if a2 < 0 then some (0 : Int32) else (if inb a1 4 = true then (if (Va v 2 a1.toNatClampNeg) ≤ a2 then some (0 : Int32) else some (1 : Int32)) else none))))
set_option maxHeartbeats 4000000 in
set_option maxRecDepth 100000 in
theorem ct_X6_isWord (l : Launch) (D : va_G) (c4 : Nat → ClassId) (A : Nat → Prop) (z : Nat → Nat) (v : MS) (a1 : Int32) (a2 : Int32) (r : Int32) (h : pX6_isWord v a1 a2 = some r) : Met l yX6_isWord (wz yX6_isWord cX6_isWord 3 (some .boolean)) ({ frames := 0, cells := 0, slots := 0, locals := 0 } : Room) (va_Pc [.ref (z 0), .int a1, .int a2] (fun U => mPre D c4 A z v U)) (vp_Si (fun q => q = r)) 0 0 (fun _ => False) := by
  refine Met.ofW (cc := cX6_isWord) (maxL := 3) (ret := (some .boolean)) (by decide) rfl ?_
  intro p e s m args below meth c s₁ B hml hv
  obtain ⟨rfl, hP, hD, hK, hA⟩ := hv
  have hx := B.exec
  have hb := B.bytes
  have hr := B.returns
  have hts := atoms_spec (ws := (wz yX6_isWord cX6_isWord 3 (some .boolean))) B.pre
  have hown : s.vm.findClass RX6 = some m.cls := findClass_of_methodNamed B.named
  have hlocks := B.notSynchronized
  have hS : va_S A s.heap s.heap [] := va_S.rf
  have hl := lv_entry ([.ref (z 0), .int a1, .int a2]) (n := 3) (Nat.le_of_ble_eq_true rfl)
  rw [lg_entry_eq]
  generalize (lg_sl ([.ref (z 0), .int a1, .int a2]) ++ List.replicate (3 - (lg_sl ([.ref (z 0), .int a1, .int a2])).length) Slot.unset).toArray = ls at hl ⊢
  have hl : lv_has ls 3 [(0, .ref (z 0)), (1, .int a1), (2, .int a2)] := hl
  unfold pX6_isWord at h
  refine lv_iload_n hx hb dX6_isWord_0 rfl (lv_at hl 1 rfl) ?_
  refine lv_if_lt (tgt := 27) hx hb dX6_isWord_1 (by decide) (fun c_1 => ?_) (fun c_1 => ?_)
  · skip
    rw [if_pos c_1] at h
    refine lv_iconst (v := (0 : Int32)) hx hb dX6_isWord_27 (by decide) ?_
    exact W.zret (v := (0 : Int32)) (ty := .boolean) hx hb hr rfl (fun t ht hW => ⟨_, rfl, (Option.some.inj h), ht⟩) (fun _ hq => nomatch hq) dX6_isWord_28
  · skip
    rw [if_neg c_1] at h
    refine lv_iload_n hx hb dX6_isWord_4 rfl (lv_at hl 1 rfl) ?_
    refine lv_iconst (v := (4 : Int32)) hx hb dX6_isWord_5 (by decide) ?_
    refine lv_icmp_ge (tgt := 27) hx hb dX6_isWord_6 (by decide) (fun c_2 => ?_) (fun c_2 => ?_)
    · skip
      rw [if_pos c_2] at h
      refine lv_iconst (v := (0 : Int32)) hx hb dX6_isWord_27 (by decide) ?_
      exact W.zret (v := (0 : Int32)) (ty := .boolean) hx hb hr rfl (fun t ht hW => ⟨_, rfl, (Option.some.inj h), ht⟩) (fun _ hq => nomatch hq) dX6_isWord_28
    · skip
      rw [if_neg c_2] at h
      refine lv_iload_n hx hb dX6_isWord_9 rfl (lv_at hl 2 rfl) ?_
      refine lv_if_lt (tgt := 27) hx hb dX6_isWord_10 (by decide) (fun c_3 => ?_) (fun c_3 => ?_)
      · skip
        rw [if_pos c_3] at h
        refine lv_iconst (v := (0 : Int32)) hx hb dX6_isWord_27 (by decide) ?_
        exact W.zret (v := (0 : Int32)) (ty := .boolean) hx hb hr rfl (fun t ht hW => ⟨_, rfl, (Option.some.inj h), ht⟩) (fun _ hq => nomatch hq) dX6_isWord_28
      · skip
        rw [if_neg c_3] at h
        refine lv_iload_n hx hb dX6_isWord_13 rfl (lv_at hl 2 rfl) ?_
        refine lv_aload_n hx hb dX6_isWord_14 rfl (lv_at hl 0 rfl) ?_
        refine va_get (D := D) (ci := 5) (v := .ref (z 2)) (C := RX6) (T := TX6) (N := 33) hx hb hts (fun w h => wm (zin_X6 w h)) hown hK hP 0 rfl rfl 2 (by decide) (hts _ (wm zw_639)) (fun _ h9 => h9) rfl dX6_isWord_15 ?_
        refine lv_iload_n hx hb dX6_isWord_18 rfl (lv_at hl 1 rfl) ?_
        obtain ⟨hi_4, h⟩ := zb_if h
        refine va_iald hx hb hK hP 2 3 rfl rfl (inb_in hi_4) dX6_isWord_19 ?_
        refine W.eq (g2 := F0 m 20 ls ([.int (Va v 2 a1.toNatClampNeg), .int a2])) rfl ?_
        refine lv_icmp_ge (tgt := 27) hx hb dX6_isWord_20 (by decide) (fun c_5 => ?_) (fun c_5 => ?_)
        · skip
          rw [if_pos c_5] at h
          refine lv_iconst (v := (0 : Int32)) hx hb dX6_isWord_27 (by decide) ?_
          exact W.zret (v := (0 : Int32)) (ty := .boolean) hx hb hr rfl (fun t ht hW => ⟨_, rfl, (Option.some.inj h), ht⟩) (fun _ hq => nomatch hq) dX6_isWord_28
        · skip
          rw [if_neg c_5] at h
          refine lv_iconst (v := (1 : Int32)) hx hb dX6_isWord_23 (by decide) ?_
          refine lv_goto (tgt := 28) hx hb dX6_isWord_24 (by decide) ?_
          exact W.zret (v := (1 : Int32)) (ty := .boolean) hx hb hr rfl (fun t ht hW => ⟨_, rfl, (Option.some.inj h), ht⟩) (fun _ hq => nomatch hq) dX6_isWord_28
def pX6_isHandle (v : MS) (a1 : Int32) : Int32 := (if a1 < 0 then (0 : Int32) else (if (Vi v 13) ≤ a1 then (0 : Int32) else (1 : Int32)))
set_option maxHeartbeats 4000000 in
set_option maxRecDepth 100000 in
theorem ct_X6_isHandle (l : Launch) (D : va_G) (c4 : Nat → ClassId) (A : Nat → Prop) (z : Nat → Nat) (v : MS) (a1 : Int32) (r : Int32) (h : pX6_isHandle v a1 = r) : Met l yX6_isHandle (wz yX6_isHandle cX6_isHandle 2 (some .boolean)) ({ frames := 0, cells := 0, slots := 0, locals := 0 } : Room) (va_Pc [.ref (z 0), .int a1] (fun U => mPre D c4 A z v U)) (vp_Si (fun q => q = r)) 0 0 (fun _ => False) := by
  refine Met.ofW (cc := cX6_isHandle) (maxL := 2) (ret := (some .boolean)) (by decide) rfl ?_
  intro p e s m args below meth c s₁ B hml hv
  obtain ⟨rfl, hP, hD, hK, hA⟩ := hv
  have hx := B.exec
  have hb := B.bytes
  have hr := B.returns
  have hts := atoms_spec (ws := (wz yX6_isHandle cX6_isHandle 2 (some .boolean))) B.pre
  have hown : s.vm.findClass RX6 = some m.cls := findClass_of_methodNamed B.named
  have hlocks := B.notSynchronized
  have hS : va_S A s.heap s.heap [] := va_S.rf
  have hl := lv_entry ([.ref (z 0), .int a1]) (n := 2) (Nat.le_of_ble_eq_true rfl)
  rw [lg_entry_eq]
  generalize (lg_sl ([.ref (z 0), .int a1]) ++ List.replicate (2 - (lg_sl ([.ref (z 0), .int a1])).length) Slot.unset).toArray = ls at hl ⊢
  have hl : lv_has ls 2 [(0, .ref (z 0)), (1, .int a1)] := hl
  unfold pX6_isHandle at h
  refine lv_iload_n hx hb dX6_isHandle_0 rfl (lv_at hl 1 rfl) ?_
  refine lv_if_lt (tgt := 16) hx hb dX6_isHandle_1 (by decide) (fun c_1 => ?_) (fun c_1 => ?_)
  · skip
    rw [if_pos c_1] at h
    refine lv_iconst (v := (0 : Int32)) hx hb dX6_isHandle_16 (by decide) ?_
    exact W.zret (v := (0 : Int32)) (ty := .boolean) hx hb hr rfl (fun t ht hW => ⟨_, rfl, h, ht⟩) (fun _ hq => nomatch hq) dX6_isHandle_17
  · skip
    rw [if_neg c_1] at h
    refine lv_iload_n hx hb dX6_isHandle_4 rfl (lv_at hl 1 rfl) ?_
    refine lv_aload_n hx hb dX6_isHandle_5 rfl (lv_at hl 0 rfl) ?_
    refine va_get (D := D) (ci := 5) (v := .int (Vi v 13)) (C := RX6) (T := TX6) (N := 33) hx hb hts (fun w h => wm (zin_X6 w h)) hown hK hP 0 rfl rfl 13 (by decide) (hts _ (wm zw_650)) (fun _ h9 => h9) rfl dX6_isHandle_6 ?_
    refine lv_icmp_ge (tgt := 16) hx hb dX6_isHandle_9 (by decide) (fun c_2 => ?_) (fun c_2 => ?_)
    · skip
      rw [if_pos c_2] at h
      refine lv_iconst (v := (0 : Int32)) hx hb dX6_isHandle_16 (by decide) ?_
      exact W.zret (v := (0 : Int32)) (ty := .boolean) hx hb hr rfl (fun t ht hW => ⟨_, rfl, h, ht⟩) (fun _ hq => nomatch hq) dX6_isHandle_17
    · skip
      rw [if_neg c_2] at h
      refine lv_iconst (v := (1 : Int32)) hx hb dX6_isHandle_12 (by decide) ?_
      refine lv_goto (tgt := 17) hx hb dX6_isHandle_13 (by decide) ?_
      exact W.zret (v := (1 : Int32)) (ty := .boolean) hx hb hr rfl (fun t ht hW => ⟨_, rfl, h, ht⟩) (fun _ hq => nomatch hq) dX6_isHandle_17
def pX6_without_2 (v : MS) : Nat → Int32 → Int32 → Option (Int32)
  | 0, _, _ => none
  | n + 1, x0, x1 => (if x1 ≤ 0 then some x1 else (if inb ((x0 + x1) - (1 : Int32)) 256 = true then (if (Vr v 1 ((x0 + x1) - (1 : Int32)).toNatClampNeg) = (0 : Int64) then pX6_without_2 v n x0 (x1 + (-1 : Int32)) else some x1) else none))
theorem pX6_without_2_s (v : MS) (n : Nat) (x0 : Int32) (x1 : Int32) : pX6_without_2 v (n + 1) x0 x1 = (if x1 ≤ 0 then some x1 else (if inb ((x0 + x1) - (1 : Int32)) 256 = true then (if (Vr v 1 ((x0 + x1) - (1 : Int32)).toNatClampNeg) = (0 : Int64) then pX6_without_2 v n x0 (x1 + (-1 : Int32)) else some x1) else none)) := rfl
def pX6_without (v : MS) (a1 : Int32) (a2 : Int32) : Option (Int32) := pX6_without_2 v 300 a1 a2
set_option maxHeartbeats 4000000 in
set_option maxRecDepth 100000 in
theorem ct_X6_without (l : Launch) (D : va_G) (c4 : Nat → ClassId) (A : Nat → Prop) (z : Nat → Nat) (v : MS) (a1 : Int32) (a2 : Int32) (r : Int32) (h : pX6_without v a1 a2 = some r) : Met l yX6_without (wz yX6_without cX6_without 4 (some .int)) ({ frames := 0, cells := 0, slots := 0, locals := 0 } : Room) (va_Pc [.ref (z 0), .int a1, .int a2] (fun U => mPre D c4 A z v U)) (vp_Si (fun q => q = r)) 0 0 (fun _ => False) := by
  refine Met.ofW (cc := cX6_without) (maxL := 4) (ret := (some .int)) (by decide) rfl ?_
  intro p e s m args below meth c s₁ B hml hv
  obtain ⟨rfl, hP, hD, hK, hA⟩ := hv
  have hx := B.exec
  have hb := B.bytes
  have hr := B.returns
  have hts := atoms_spec (ws := (wz yX6_without cX6_without 4 (some .int))) B.pre
  have hown : s.vm.findClass RX6 = some m.cls := findClass_of_methodNamed B.named
  have hlocks := B.notSynchronized
  have hS : va_S A s.heap s.heap [] := va_S.rf
  have hl := lv_entry ([.ref (z 0), .int a1, .int a2]) (n := 4) (Nat.le_of_ble_eq_true rfl)
  rw [lg_entry_eq]
  generalize (lg_sl ([.ref (z 0), .int a1, .int a2]) ++ List.replicate (4 - (lg_sl ([.ref (z 0), .int a1, .int a2])).length) Slot.unset).toArray = ls at hl ⊢
  have hl : lv_has ls 4 [(0, .ref (z 0)), (1, .int a1), (2, .int a2)] := hl
  have k_2 : ∀ (n_2 : Nat), ∀ (x0 : Int32) (x1 : Int32), ∀ (ls : Array Slot), lv_has ls 4 [(0, .ref (z 0)), (1, .int x0), (3, .int x1)] → pX6_without_2 v n_2 x0 x1 = some r → W p l e ({ frames := 0, cells := 0, slots := 0, locals := 0 } : Room) s m ([.ref (z 0), .int a1, .int a2] : List Value).toArray below meth c s.heap [] 0 0 (MQ below (vp_Si (fun q => q = r)) ([.ref (z 0), .int a1, .int a2] : List Value).toArray s 0 0 (fun _ => False)) (F0 m 2 ls []) := by
    intro n_2
    induction n_2 with
    | zero =>
      intro x0 x1 ls hl h
      exact nomatch h
    | succ n_2 ih_2 =>
      intro x0 x1 ls hl h
      rw [pX6_without_2_s] at h
      refine lv_iload_n hx hb dX6_without_2 rfl (lv_at hl 2 rfl) ?_
      refine lv_if_le (tgt := 27) hx hb dX6_without_3 (by decide) (fun c_1 => ?_) (fun c_1 => ?_)
      · skip
        rw [if_pos c_1] at h
        refine lv_iload_n hx hb dX6_without_27 rfl (lv_at hl 2 rfl) ?_
        exact W.iret (v := x1) hx hb hr (fun t ht hW => ⟨_, rfl, (Option.some.inj h), ht⟩) (fun _ hq => nomatch hq) dX6_without_28
      · skip
        rw [if_neg c_1] at h
        refine lv_aload_n hx hb dX6_without_6 rfl (lv_at hl 0 rfl) ?_
        refine va_get (D := D) (ci := 5) (v := .ref (z 1)) (C := RX6) (T := TX6) (N := 33) hx hb hts (fun w h => wm (zin_X6 w h)) hown hK hP 0 rfl rfl 1 (by decide) (hts _ (wm zw_638)) (fun _ h9 => h9) rfl dX6_without_7 ?_
        refine lv_iload_n hx hb dX6_without_10 rfl (lv_at hl 1 rfl) ?_
        refine lv_iload_n hx hb dX6_without_11 rfl (lv_at hl 2 rfl) ?_
        refine lv_iadd hx hb dX6_without_12 ?_
        refine lv_iconst (v := (1 : Int32)) hx hb dX6_without_13 (by decide) ?_
        refine lv_isub hx hb dX6_without_14 ?_
        obtain ⟨hi_2, h⟩ := zb_if h
        refine va_lald hx hb hK hP 1 0 rfl rfl (inb_in hi_2) dX6_without_15 ?_
        refine W.eq (g2 := F0 m 16 ls ([.long (Vr v 1 ((x0 + x1) - (1 : Int32)).toNatClampNeg)])) rfl ?_
        refine lv_lconst (v := (0 : Int64)) hx hb dX6_without_16 (by decide) ?_
        refine W.lcmp hx hb dX6_without_17 ?_
        refine lv_if_ne (tgt := 27) hx hb dX6_without_18 (by decide) (fun c_3 => ?_) (fun c_3 => ?_)
        · skip
          have c_3 := mt (lg_cmp_eq _ _).mpr c_3
          rw [if_neg c_3] at h
          refine lv_iload_n hx hb dX6_without_27 rfl (lv_at hl 2 rfl) ?_
          exact W.iret (v := x1) hx hb hr (fun t ht hW => ⟨_, rfl, (Option.some.inj h), ht⟩) (fun _ hq => nomatch hq) dX6_without_28
        · skip
          have c_3 := (lg_cmp_eq _ _).mp c_3
          rw [if_pos c_3] at h
          refine lv_iinc (v := (x1 + (-1 : Int32))) (lv' := [(3, .int (x1 + (-1 : Int32))), (0, .ref (z 0)), (1, .int x0)]) hx hb dX6_without_21 hl (k := 2) rfl rfl (by decide) rfl (fun ls hl => ?_)
          refine lv_goto (tgt := 2) hx hb dX6_without_24 (by decide) ?_
          exact ih_2 x0 (x1 + (-1 : Int32)) ls (lv_sub hl [1, 2, 0] rfl) h
  unfold pX6_without at h
  refine lv_iload_n hx hb dX6_without_0 rfl (lv_at hl 2 rfl) ?_
  refine lv_istore_n (lv' := [(3, .int a2), (0, .ref (z 0)), (1, .int a1), (2, .int a2)]) hx hb dX6_without_1 rfl hl (by decide) rfl (fun ls hl => ?_)
  exact k_2 300 a1 a2 ls (lv_sub hl [1, 2, 0] rfl) h
def pX6_fail (v : MS) (a1 : Int32) : Option (MS × Int32) := some ((tI v 0 a1), (0 : Int32))
set_option maxHeartbeats 4000000 in
set_option maxRecDepth 100000 in
theorem ct_X6_fail (l : Launch) (D : va_G) (c4 : Nat → ClassId) (A : Nat → Prop) (z : Nat → Nat) (v : MS) (a1 : Int32) (res : MS × Int32) (h : pX6_fail v a1 = some res) : Met l yX6_fail (wz yX6_fail cX6_fail 2 (some .int)) ({ frames := 0, cells := 0, slots := 0, locals := 0 } : Room) (va_Pc [.ref (z 0), .int a1] (fun U => mPre D c4 A z v U)) (va_Qi (fun q w => res = (w, q)) (fun w t => wPre D c4 A (mW c4 z w) t) A) 0 0 A := by
  refine Met.ofW (cc := cX6_fail) (maxL := 2) (ret := (some .int)) (by decide) rfl ?_
  intro p e s m args below meth c s₁ B hml hv
  obtain ⟨rfl, hP, hD, hK, hA⟩ := hv
  have hx := B.exec
  have hb := B.bytes
  have hr := B.returns
  have hts := atoms_spec (ws := (wz yX6_fail cX6_fail 2 (some .int))) B.pre
  have hown : s.vm.findClass RX6 = some m.cls := findClass_of_methodNamed B.named
  have hlocks := B.notSynchronized
  have hS : va_S A s.heap s.heap [] := va_S.rf
  have hl := lv_entry ([.ref (z 0), .int a1]) (n := 2) (Nat.le_of_ble_eq_true rfl)
  rw [lg_entry_eq]
  generalize (lg_sl ([.ref (z 0), .int a1]) ++ List.replicate (2 - (lg_sl ([.ref (z 0), .int a1])).length) Slot.unset).toArray = ls at hl ⊢
  have hl : lv_has ls 2 [(0, .ref (z 0)), (1, .int a1)] := hl
  unfold pX6_fail at h
  refine lv_aload_n hx hb dX6_fail_0 rfl (lv_at hl 0 rfl) ?_
  refine lv_iload_n hx hb dX6_fail_1 rfl (lv_at hl 1 rfl) ?_
  refine va_put (D := D) (ci := 5) (v := .int a1) (ty := .int) (C := RX6) (T := TX6) (N := 33) hx hb hts (fun w h => wm (zin_X6 w h)) tyX6 tyX6_ok nmX6 hown hK hP hD hS 0 rfl rfl 0 (by decide) (hts _ (wm zw_637)) (fun _ h9 => h9) rfl (by decide +kernel) rfl rfl (Nat.le_of_ble_eq_true rfl) dX6_fail_2 (fun H locs hP hD hS => ?_)
  have hP : va_P D vwCl (mW c4 z (tI v 0 a1)) H := hP
  have hD : va_D A (mW c4 z (tI v 0 a1)) := hD
  refine lv_iconst (v := (0 : Int32)) hx hb dX6_fail_5 (by decide) ?_
  exact W.iret (v := (0 : Int32)) hx hb hr (fun t ht hW => ⟨⟨(0 : Int32), (tI v 0 a1), rfl, (Option.some.inj h).symm, wPre_go hP hD hK hA hS ht hW.alike⟩, hS.F ht⟩) hS.2.2 dX6_fail_6
def pX6_add (v : MS) (a1 : Int32) (a2 : Int64) : Option (MS × Int32) := (if a1 < 0 then some ((tI v 0 (0 : Int32)), (-1 : Int32)) else (if (3 : Int32) < a1 then some ((tI v 0 (0 : Int32)), (-1 : Int32)) else (if inb a1 4 = true then (if (Va v 2 a1.toNatClampNeg) = (64 : Int32) then some ((tI v 0 (0 : Int32)), (-1 : Int32)) else (if inb a1 4 = true then (if inb (((64 : Int32) * a1) + (Va v 2 a1.toNatClampNeg)) 256 = true then (if inb a1 4 = true then ((some ((Va v 2 a1.toNatClampNeg) + (1 : Int32))).bind fun y_8 => (if inb a1 4 = true then (if inb a1 4 = true then some ((tI (tA (tR (tI v 0 (0 : Int32)) 1 (((64 : Int32) * a1) + (Va v 2 a1.toNatClampNeg)).toNatClampNeg a2) 2 a1.toNatClampNeg y_8) 13 (0 : Int32)), ((Va (tA (tR (tI v 0 (0 : Int32)) 1 (((64 : Int32) * a1) + (Va v 2 a1.toNatClampNeg)).toNatClampNeg a2) 2 a1.toNatClampNeg y_8) 2 a1.toNatClampNeg) - (1 : Int32))) else none) else none)) else none) else none) else none)) else none)))
set_option maxHeartbeats 4000000 in
set_option maxRecDepth 100000 in
theorem ct_X6_add (l : Launch) (D : va_G) (c4 : Nat → ClassId) (A : Nat → Prop) (z : Nat → Nat) (v : MS) (a1 : Int32) (a2 : Int64) (res : MS × Int32) (h : pX6_add v a1 a2 = some res) : Met l yX6_add (wz yX6_add cX6_add 4 (some .int)) ({ frames := 0, cells := 0, slots := 0, locals := 0 } : Room) (va_Pc [.ref (z 0), .int a1, .long a2] (fun U => mPre D c4 A z v U)) (va_Qi (fun q w => res = (w, q)) (fun w t => wPre D c4 A (mW c4 z w) t) A) 0 0 A := by
  refine Met.ofW (cc := cX6_add) (maxL := 4) (ret := (some .int)) (by decide) rfl ?_
  intro p e s m args below meth c s₁ B hml hv
  obtain ⟨rfl, hP, hD, hK, hA⟩ := hv
  have hx := B.exec
  have hb := B.bytes
  have hr := B.returns
  have hts := atoms_spec (ws := (wz yX6_add cX6_add 4 (some .int))) B.pre
  have hown : s.vm.findClass RX6 = some m.cls := findClass_of_methodNamed B.named
  have hlocks := B.notSynchronized
  have hS : va_S A s.heap s.heap [] := va_S.rf
  have hl := lv_entry ([.ref (z 0), .int a1, .long a2]) (n := 4) (Nat.le_of_ble_eq_true rfl)
  rw [lg_entry_eq]
  generalize (lg_sl ([.ref (z 0), .int a1, .long a2]) ++ List.replicate (4 - (lg_sl ([.ref (z 0), .int a1, .long a2])).length) Slot.unset).toArray = ls at hl ⊢
  have hl : lv_has ls 4 [(0, .ref (z 0)), (1, .int a1), (2, .long a2)] := hl
  unfold pX6_add at h
  refine lv_aload_n hx hb dX6_add_0 rfl (lv_at hl 0 rfl) ?_
  refine lv_iconst (v := (0 : Int32)) hx hb dX6_add_1 (by decide) ?_
  refine va_put (D := D) (ci := 5) (v := .int (0 : Int32)) (ty := .int) (C := RX6) (T := TX6) (N := 33) hx hb hts (fun w h => wm (zin_X6 w h)) tyX6 tyX6_ok nmX6 hown hK hP hD hS 0 rfl rfl 0 (by decide) (hts _ (wm zw_637)) (fun _ h9 => h9) rfl (by decide +kernel) rfl rfl (Nat.le_of_ble_eq_true rfl) dX6_add_2 (fun H locs hP hD hS => ?_)
  have hP : va_P D vwCl (mW c4 z (tI v 0 (0 : Int32))) H := hP
  have hD : va_D A (mW c4 z (tI v 0 (0 : Int32))) := hD
  refine lv_iload_n hx hb dX6_add_5 rfl (lv_at hl 1 rfl) ?_
  refine lv_if_lt (tgt := 25) hx hb dX6_add_6 (by decide) (fun c_1 => ?_) (fun c_1 => ?_)
  · skip
    rw [if_pos c_1] at h
    refine lv_iconst (v := (-1 : Int32)) hx hb dX6_add_25 (by decide) ?_
    exact W.iret (v := (-1 : Int32)) hx hb hr (fun t ht hW => ⟨⟨(-1 : Int32), (tI v 0 (0 : Int32)), rfl, (Option.some.inj h).symm, wPre_go hP hD hK hA hS ht hW.alike⟩, hS.F ht⟩) hS.2.2 dX6_add_26
  · skip
    rw [if_neg c_1] at h
    refine lv_iload_n hx hb dX6_add_9 rfl (lv_at hl 1 rfl) ?_
    refine lv_iconst (v := (3 : Int32)) hx hb dX6_add_10 (by decide) ?_
    refine lv_icmp_gt (tgt := 25) hx hb dX6_add_11 (by decide) (fun c_2 => ?_) (fun c_2 => ?_)
    · skip
      rw [if_pos c_2] at h
      refine lv_iconst (v := (-1 : Int32)) hx hb dX6_add_25 (by decide) ?_
      exact W.iret (v := (-1 : Int32)) hx hb hr (fun t ht hW => ⟨⟨(-1 : Int32), (tI v 0 (0 : Int32)), rfl, (Option.some.inj h).symm, wPre_go hP hD hK hA hS ht hW.alike⟩, hS.F ht⟩) hS.2.2 dX6_add_26
    · skip
      rw [if_neg c_2] at h
      refine lv_aload_n hx hb dX6_add_14 rfl (lv_at hl 0 rfl) ?_
      refine va_get (D := D) (ci := 5) (v := .ref (z 2)) (C := RX6) (T := TX6) (N := 33) hx hb hts (fun w h => wm (zin_X6 w h)) hown hK hP 0 rfl rfl 2 (by decide) (hts _ (wm zw_639)) (fun _ h9 => h9) rfl dX6_add_15 ?_
      refine lv_iload_n hx hb dX6_add_18 rfl (lv_at hl 1 rfl) ?_
      obtain ⟨hi_3, h⟩ := zb_if h
      refine va_iald hx hb hK hP 2 3 rfl rfl (inb_in hi_3) dX6_add_19 ?_
      refine W.eq (g2 := F0 m 20 ls ([.int (Va v 2 a1.toNatClampNeg)])) rfl ?_
      refine lv_bipush (v := (64 : Int32)) hx hb dX6_add_20 (by decide) ?_
      refine lv_icmp_ne (tgt := 27) hx hb dX6_add_22 (by decide) (fun c_4 => ?_) (fun c_4 => ?_)
      · skip
        rw [if_neg c_4] at h
        refine lv_aload_n hx hb dX6_add_27 rfl (lv_at hl 0 rfl) ?_
        refine va_get (D := D) (ci := 5) (v := .ref (z 1)) (C := RX6) (T := TX6) (N := 33) hx hb hts (fun w h => wm (zin_X6 w h)) hown hK hP 0 rfl rfl 1 (by decide) (hts _ (wm zw_638)) (fun _ h9 => h9) rfl dX6_add_28 ?_
        refine lv_bipush (v := (64 : Int32)) hx hb dX6_add_31 (by decide) ?_
        refine lv_iload_n hx hb dX6_add_33 rfl (lv_at hl 1 rfl) ?_
        refine lv_imul hx hb dX6_add_34 ?_
        refine lv_aload_n hx hb dX6_add_35 rfl (lv_at hl 0 rfl) ?_
        refine va_get (D := D) (ci := 5) (v := .ref (z 2)) (C := RX6) (T := TX6) (N := 33) hx hb hts (fun w h => wm (zin_X6 w h)) hown hK hP 0 rfl rfl 2 (by decide) (hts _ (wm zw_639)) (fun _ h9 => h9) rfl dX6_add_36 ?_
        refine lv_iload_n hx hb dX6_add_39 rfl (lv_at hl 1 rfl) ?_
        obtain ⟨hi_5, h⟩ := zb_if h
        refine va_iald hx hb hK hP 2 3 rfl rfl (inb_in hi_5) dX6_add_40 ?_
        refine W.eq (g2 := F0 m 41 ls ([.int (Va v 2 a1.toNatClampNeg), .int ((64 : Int32) * a1), .ref (z 1)])) rfl ?_
        refine lv_iadd hx hb dX6_add_41 ?_
        refine lv_lload_n hx hb dX6_add_42 rfl (lv_at hl 2 rfl) ?_
        obtain ⟨hi_6, h⟩ := zb_if h
        refine va_last hx hb hK hP hD hS 1 0 rfl rfl (inb_in hi_6) dX6_add_43 (fun H locs hP hD hS => ?_)
        have hP : va_P D vwCl (mW c4 z (tR (tI v 0 (0 : Int32)) 1 (((64 : Int32) * a1) + (Va v 2 a1.toNatClampNeg)).toNatClampNeg a2)) H := hP
        have hD : va_D A (mW c4 z (tR (tI v 0 (0 : Int32)) 1 (((64 : Int32) * a1) + (Va v 2 a1.toNatClampNeg)).toNatClampNeg a2)) := hD
        refine lv_aload_n hx hb dX6_add_44 rfl (lv_at hl 0 rfl) ?_
        refine va_get (D := D) (ci := 5) (v := .ref (z 2)) (C := RX6) (T := TX6) (N := 33) hx hb hts (fun w h => wm (zin_X6 w h)) hown hK hP 0 rfl rfl 2 (by decide) (hts _ (wm zw_639)) (fun _ h9 => h9) rfl dX6_add_45 ?_
        refine lv_iload_n hx hb dX6_add_48 rfl (lv_at hl 1 rfl) ?_
        refine lv_dup2_11 hx hb dX6_add_49 rfl rfl ?_
        obtain ⟨hi_7, h⟩ := zb_if h
        refine va_iald hx hb hK hP 2 3 rfl rfl (inb_in hi_7) dX6_add_50 ?_
        refine W.eq (g2 := F0 m 51 ls ([.int (Va v 2 a1.toNatClampNeg), .int a1, .ref (z 2)])) rfl ?_
        refine lv_iconst (v := (1 : Int32)) hx hb dX6_add_51 (by decide) ?_
        refine lv_iadd hx hb dX6_add_52 ?_
        obtain ⟨y_8, e_8, h⟩ := zb_bind h
        try dsimp only at h
        refine zt_i (Option.some.inj e_8) ?_
        obtain ⟨hi_9, h⟩ := zb_if h
        refine va_iast hx hb hK hP hD hS 2 3 rfl rfl (inb_in hi_9) dX6_add_53 (fun H locs hP hD hS => ?_)
        have hP : va_P D vwCl (mW c4 z (tA (tR (tI v 0 (0 : Int32)) 1 (((64 : Int32) * a1) + (Va v 2 a1.toNatClampNeg)).toNatClampNeg a2) 2 a1.toNatClampNeg y_8)) H := hP
        have hD : va_D A (mW c4 z (tA (tR (tI v 0 (0 : Int32)) 1 (((64 : Int32) * a1) + (Va v 2 a1.toNatClampNeg)).toNatClampNeg a2) 2 a1.toNatClampNeg y_8)) := hD
        refine lv_aload_n hx hb dX6_add_54 rfl (lv_at hl 0 rfl) ?_
        refine lv_iconst (v := (0 : Int32)) hx hb dX6_add_55 (by decide) ?_
        refine va_put (D := D) (ci := 5) (v := .int (0 : Int32)) (ty := .int) (C := RX6) (T := TX6) (N := 33) hx hb hts (fun w h => wm (zin_X6 w h)) tyX6 tyX6_ok nmX6 hown hK hP hD hS 0 rfl rfl 13 (by decide) (hts _ (wm zw_650)) (fun _ h9 => h9) rfl (by decide +kernel) rfl rfl (Nat.le_of_ble_eq_true rfl) dX6_add_56 (fun H locs hP hD hS => ?_)
        have hP : va_P D vwCl (mW c4 z (tI (tA (tR (tI v 0 (0 : Int32)) 1 (((64 : Int32) * a1) + (Va v 2 a1.toNatClampNeg)).toNatClampNeg a2) 2 a1.toNatClampNeg y_8) 13 (0 : Int32))) H := hP
        have hD : va_D A (mW c4 z (tI (tA (tR (tI v 0 (0 : Int32)) 1 (((64 : Int32) * a1) + (Va v 2 a1.toNatClampNeg)).toNatClampNeg a2) 2 a1.toNatClampNeg y_8) 13 (0 : Int32))) := hD
        refine lv_aload_n hx hb dX6_add_59 rfl (lv_at hl 0 rfl) ?_
        refine va_get (D := D) (ci := 5) (v := .ref (z 2)) (C := RX6) (T := TX6) (N := 33) hx hb hts (fun w h => wm (zin_X6 w h)) hown hK hP 0 rfl rfl 2 (by decide) (hts _ (wm zw_639)) (fun _ h9 => h9) rfl dX6_add_60 ?_
        refine lv_iload_n hx hb dX6_add_63 rfl (lv_at hl 1 rfl) ?_
        obtain ⟨hi_10, h⟩ := zb_if h
        refine va_iald hx hb hK hP 2 3 rfl rfl (inb_in hi_10) dX6_add_64 ?_
        refine W.eq (g2 := F0 m 65 ls ([.int (Va (tA (tR (tI v 0 (0 : Int32)) 1 (((64 : Int32) * a1) + (Va v 2 a1.toNatClampNeg)).toNatClampNeg a2) 2 a1.toNatClampNeg y_8) 2 a1.toNatClampNeg)])) rfl ?_
        refine lv_iconst (v := (1 : Int32)) hx hb dX6_add_65 (by decide) ?_
        refine lv_isub hx hb dX6_add_66 ?_
        exact W.iret (v := ((Va (tA (tR (tI v 0 (0 : Int32)) 1 (((64 : Int32) * a1) + (Va v 2 a1.toNatClampNeg)).toNatClampNeg a2) 2 a1.toNatClampNeg y_8) 2 a1.toNatClampNeg) - (1 : Int32))) hx hb hr (fun t ht hW => ⟨⟨((Va (tA (tR (tI v 0 (0 : Int32)) 1 (((64 : Int32) * a1) + (Va v 2 a1.toNatClampNeg)).toNatClampNeg a2) 2 a1.toNatClampNeg y_8) 2 a1.toNatClampNeg) - (1 : Int32)), (tI (tA (tR (tI v 0 (0 : Int32)) 1 (((64 : Int32) * a1) + (Va v 2 a1.toNatClampNeg)).toNatClampNeg a2) 2 a1.toNatClampNeg y_8) 13 (0 : Int32)), rfl, (Option.some.inj h).symm, wPre_go hP hD hK hA hS ht hW.alike⟩, hS.F ht⟩) hS.2.2 dX6_add_67
      · skip
        rw [if_pos c_4] at h
        refine lv_iconst (v := (-1 : Int32)) hx hb dX6_add_25 (by decide) ?_
        exact W.iret (v := (-1 : Int32)) hx hb hr (fun t ht hW => ⟨⟨(-1 : Int32), (tI v 0 (0 : Int32)), rfl, (Option.some.inj h).symm, wPre_go hP hD hK hA hS ht hW.alike⟩, hS.F ht⟩) hS.2.2 dX6_add_26
def pX6_change (v : MS) (a1 : Int32) (a2 : Int32) (a3 : Int64) : Option (MS × Int32) := ((pX6_isWord (tI v 0 (0 : Int32)) a1 a2).bind fun r_1 => (if r_1 = 0 then some ((tI v 0 (0 : Int32)), (0 : Int32)) else (if inb (((64 : Int32) * a1) + a2) 256 = true then some ((tI (tR (tI v 0 (0 : Int32)) 1 (((64 : Int32) * a1) + a2).toNatClampNeg a3) 13 (0 : Int32)), (1 : Int32)) else none)))
set_option maxHeartbeats 4000000 in
set_option maxRecDepth 100000 in
theorem ct_X6_change (l : Launch) (D : va_G) (c4 : Nat → ClassId) (A : Nat → Prop) (z : Nat → Nat) (v : MS) (a1 : Int32) (a2 : Int32) (a3 : Int64) (res : MS × Int32) (h : pX6_change v a1 a2 a3 = some res) : Met l yX6_change (wz yX6_change cX6_change 5 (some .boolean)) ({ frames := 1, cells := 0, slots := 0, locals := 22 } : Room) (va_Pc [.ref (z 0), .int a1, .int a2, .long a3] (fun U => mPre D c4 A z v U)) (va_Qi (fun q w => res = (w, q)) (fun w t => wPre D c4 A (mW c4 z w) t) A) 0 0 A := by
  refine Met.ofW (cc := cX6_change) (maxL := 5) (ret := (some .boolean)) (by decide) rfl ?_
  intro p e s m args below meth c s₁ B hml hv
  obtain ⟨rfl, hP, hD, hK, hA⟩ := hv
  have hx := B.exec
  have hb := B.bytes
  have hr := B.returns
  have hts := atoms_spec (ws := (wz yX6_change cX6_change 5 (some .boolean))) B.pre
  have hown : s.vm.findClass RX6 = some m.cls := findClass_of_methodNamed B.named
  have hlocks := B.notSynchronized
  have hS : va_S A s.heap s.heap [] := va_S.rf
  have hl := lv_entry ([.ref (z 0), .int a1, .int a2, .long a3]) (n := 5) (Nat.le_of_ble_eq_true rfl)
  rw [lg_entry_eq]
  generalize (lg_sl ([.ref (z 0), .int a1, .int a2, .long a3]) ++ List.replicate (5 - (lg_sl ([.ref (z 0), .int a1, .int a2, .long a3])).length) Slot.unset).toArray = ls at hl ⊢
  have hl : lv_has ls 5 [(0, .ref (z 0)), (1, .int a1), (2, .int a2), (3, .long a3)] := hl
  unfold pX6_change at h
  refine lv_aload_n hx hb dX6_change_0 rfl (lv_at hl 0 rfl) ?_
  refine lv_iconst (v := (0 : Int32)) hx hb dX6_change_1 (by decide) ?_
  refine va_put (D := D) (ci := 5) (v := .int (0 : Int32)) (ty := .int) (C := RX6) (T := TX6) (N := 33) hx hb hts (fun w h => wm (zin_X6 w h)) tyX6 tyX6_ok nmX6 hown hK hP hD hS 0 rfl rfl 0 (by decide) (hts _ (wm zw_637)) (fun _ h9 => h9) rfl (by decide +kernel) rfl rfl (Nat.le_of_ble_eq_true rfl) dX6_change_2 (fun H locs hP hD hS => ?_)
  have hP : va_P D vwCl (mW c4 z (tI v 0 (0 : Int32))) H := hP
  have hD : va_D A (mW c4 z (tI v 0 (0 : Int32))) := hD
  refine lv_aload_n hx hb dX6_change_5 rfl (lv_at hl 0 rfl) ?_
  refine lv_iload_n hx hb dX6_change_6 rfl (lv_at hl 1 rfl) ?_
  refine lv_iload_n hx hb dX6_change_7 rfl (lv_at hl 2 rfl) ?_
  obtain ⟨q_1, hc_1, h⟩ := zb_bind h
  try dsimp only at h
  refine vp_callSi (W.runV (As := [.int a1, .int a2]) (rest := []) ⟨hx, hb, hml, hown, hts⟩ (ct_X6_isWord l D c4 A z (tI v 0 (0 : Int32)) a1 a2 _ hc_1) (cwV 2 hts (wz_V zw_750 zw_752 zs_17 zw_6 zw_753) rfl rfl rfl (by decide +kernel) ⟨Nat.le_of_ble_eq_true rfl, Nat.le_of_ble_eq_true rfl⟩) ⟨fbM, va_recv hK hP (ci := 5) (q0 := 0) rfl rfl, fun U9 hU hW => ⟨rfl, wPre_go hP hD hK hA hS hU hW.alike⟩⟩ rfl rfl hl.1 rfl (lv_room (Nat.le_of_ble_eq_true rfl)) dX6_change_8 ⟨Nat.le_of_ble_eq_true rfl, Nat.le_of_ble_eq_true rfl⟩) (fun r_1 e_1 => ?_)
  subst e_1
  refine lv_if_ne (tgt := 16) hx hb dX6_change_11 (by decide) (fun c_2 => ?_) (fun c_2 => ?_)
  · skip
    rw [if_neg c_2] at h
    refine lv_aload_n hx hb dX6_change_16 rfl (lv_at hl 0 rfl) ?_
    refine va_get (D := D) (ci := 5) (v := .ref (z 1)) (C := RX6) (T := TX6) (N := 33) hx hb hts (fun w h => wm (zin_X6 w h)) hown hK hP 0 rfl rfl 1 (by decide) (hts _ (wm zw_638)) (fun _ h9 => h9) rfl dX6_change_17 ?_
    refine lv_bipush (v := (64 : Int32)) hx hb dX6_change_20 (by decide) ?_
    refine lv_iload_n hx hb dX6_change_22 rfl (lv_at hl 1 rfl) ?_
    refine lv_imul hx hb dX6_change_23 ?_
    refine lv_iload_n hx hb dX6_change_24 rfl (lv_at hl 2 rfl) ?_
    refine lv_iadd hx hb dX6_change_25 ?_
    refine lv_lload_n hx hb dX6_change_26 rfl (lv_at hl 3 rfl) ?_
    obtain ⟨hi_3, h⟩ := zb_if h
    refine va_last hx hb hK hP hD hS 1 0 rfl rfl (inb_in hi_3) dX6_change_27 (fun H locs hP hD hS => ?_)
    have hP : va_P D vwCl (mW c4 z (tR (tI v 0 (0 : Int32)) 1 (((64 : Int32) * a1) + a2).toNatClampNeg a3)) H := hP
    have hD : va_D A (mW c4 z (tR (tI v 0 (0 : Int32)) 1 (((64 : Int32) * a1) + a2).toNatClampNeg a3)) := hD
    refine lv_aload_n hx hb dX6_change_28 rfl (lv_at hl 0 rfl) ?_
    refine lv_iconst (v := (0 : Int32)) hx hb dX6_change_29 (by decide) ?_
    refine va_put (D := D) (ci := 5) (v := .int (0 : Int32)) (ty := .int) (C := RX6) (T := TX6) (N := 33) hx hb hts (fun w h => wm (zin_X6 w h)) tyX6 tyX6_ok nmX6 hown hK hP hD hS 0 rfl rfl 13 (by decide) (hts _ (wm zw_650)) (fun _ h9 => h9) rfl (by decide +kernel) rfl rfl (Nat.le_of_ble_eq_true rfl) dX6_change_30 (fun H locs hP hD hS => ?_)
    have hP : va_P D vwCl (mW c4 z (tI (tR (tI v 0 (0 : Int32)) 1 (((64 : Int32) * a1) + a2).toNatClampNeg a3) 13 (0 : Int32))) H := hP
    have hD : va_D A (mW c4 z (tI (tR (tI v 0 (0 : Int32)) 1 (((64 : Int32) * a1) + a2).toNatClampNeg a3) 13 (0 : Int32))) := hD
    refine lv_iconst (v := (1 : Int32)) hx hb dX6_change_33 (by decide) ?_
    exact W.zret (v := (1 : Int32)) (ty := .boolean) hx hb hr rfl (fun t ht hW => ⟨⟨(1 : Int32), (tI (tR (tI v 0 (0 : Int32)) 1 (((64 : Int32) * a1) + a2).toNatClampNeg a3) 13 (0 : Int32)), rfl, (Option.some.inj h).symm, wPre_go hP hD hK hA hS ht hW.alike⟩, hS.F ht⟩) hS.2.2 dX6_change_34
  · skip
    rw [if_pos c_2] at h
    refine lv_iconst (v := (0 : Int32)) hx hb dX6_change_14 (by decide) ?_
    exact W.zret (v := (0 : Int32)) (ty := .boolean) hx hb hr rfl (fun t ht hW => ⟨⟨(0 : Int32), (tI v 0 (0 : Int32)), rfl, (Option.some.inj h).symm, wPre_go hP hD hK hA hS ht hW.alike⟩, hS.F ht⟩) hS.2.2 dX6_change_15
def pX6_cut (v : MS) (a1 : Int32) (a2 : Int32) : Option (MS × Int32) := (if a1 < 0 then some ((tI v 0 (0 : Int32)), (0 : Int32)) else (if (3 : Int32) < a1 then some ((tI v 0 (0 : Int32)), (0 : Int32)) else (if a2 < 0 then some ((tI v 0 (0 : Int32)), (0 : Int32)) else (if inb a1 4 = true then (if a2 ≤ (Va v 2 a1.toNatClampNeg) then (if inb a1 4 = true then some ((tI (tA (tI v 0 (0 : Int32)) 2 a1.toNatClampNeg a2) 13 (0 : Int32)), (1 : Int32)) else none) else some ((tI v 0 (0 : Int32)), (0 : Int32))) else none))))
set_option maxHeartbeats 4000000 in
set_option maxRecDepth 100000 in
theorem ct_X6_cut (l : Launch) (D : va_G) (c4 : Nat → ClassId) (A : Nat → Prop) (z : Nat → Nat) (v : MS) (a1 : Int32) (a2 : Int32) (res : MS × Int32) (h : pX6_cut v a1 a2 = some res) : Met l yX6_cut (wz yX6_cut cX6_cut 3 (some .boolean)) ({ frames := 0, cells := 0, slots := 0, locals := 0 } : Room) (va_Pc [.ref (z 0), .int a1, .int a2] (fun U => mPre D c4 A z v U)) (va_Qi (fun q w => res = (w, q)) (fun w t => wPre D c4 A (mW c4 z w) t) A) 0 0 A := by
  refine Met.ofW (cc := cX6_cut) (maxL := 3) (ret := (some .boolean)) (by decide) rfl ?_
  intro p e s m args below meth c s₁ B hml hv
  obtain ⟨rfl, hP, hD, hK, hA⟩ := hv
  have hx := B.exec
  have hb := B.bytes
  have hr := B.returns
  have hts := atoms_spec (ws := (wz yX6_cut cX6_cut 3 (some .boolean))) B.pre
  have hown : s.vm.findClass RX6 = some m.cls := findClass_of_methodNamed B.named
  have hlocks := B.notSynchronized
  have hS : va_S A s.heap s.heap [] := va_S.rf
  have hl := lv_entry ([.ref (z 0), .int a1, .int a2]) (n := 3) (Nat.le_of_ble_eq_true rfl)
  rw [lg_entry_eq]
  generalize (lg_sl ([.ref (z 0), .int a1, .int a2]) ++ List.replicate (3 - (lg_sl ([.ref (z 0), .int a1, .int a2])).length) Slot.unset).toArray = ls at hl ⊢
  have hl : lv_has ls 3 [(0, .ref (z 0)), (1, .int a1), (2, .int a2)] := hl
  unfold pX6_cut at h
  refine lv_aload_n hx hb dX6_cut_0 rfl (lv_at hl 0 rfl) ?_
  refine lv_iconst (v := (0 : Int32)) hx hb dX6_cut_1 (by decide) ?_
  refine va_put (D := D) (ci := 5) (v := .int (0 : Int32)) (ty := .int) (C := RX6) (T := TX6) (N := 33) hx hb hts (fun w h => wm (zin_X6 w h)) tyX6 tyX6_ok nmX6 hown hK hP hD hS 0 rfl rfl 0 (by decide) (hts _ (wm zw_637)) (fun _ h9 => h9) rfl (by decide +kernel) rfl rfl (Nat.le_of_ble_eq_true rfl) dX6_cut_2 (fun H locs hP hD hS => ?_)
  have hP : va_P D vwCl (mW c4 z (tI v 0 (0 : Int32))) H := hP
  have hD : va_D A (mW c4 z (tI v 0 (0 : Int32))) := hD
  refine lv_iload_n hx hb dX6_cut_5 rfl (lv_at hl 1 rfl) ?_
  refine lv_if_lt (tgt := 28) hx hb dX6_cut_6 (by decide) (fun c_1 => ?_) (fun c_1 => ?_)
  · skip
    rw [if_pos c_1] at h
    refine lv_iconst (v := (0 : Int32)) hx hb dX6_cut_28 (by decide) ?_
    exact W.zret (v := (0 : Int32)) (ty := .boolean) hx hb hr rfl (fun t ht hW => ⟨⟨(0 : Int32), (tI v 0 (0 : Int32)), rfl, (Option.some.inj h).symm, wPre_go hP hD hK hA hS ht hW.alike⟩, hS.F ht⟩) hS.2.2 dX6_cut_29
  · skip
    rw [if_neg c_1] at h
    refine lv_iload_n hx hb dX6_cut_9 rfl (lv_at hl 1 rfl) ?_
    refine lv_iconst (v := (3 : Int32)) hx hb dX6_cut_10 (by decide) ?_
    refine lv_icmp_gt (tgt := 28) hx hb dX6_cut_11 (by decide) (fun c_2 => ?_) (fun c_2 => ?_)
    · skip
      rw [if_pos c_2] at h
      refine lv_iconst (v := (0 : Int32)) hx hb dX6_cut_28 (by decide) ?_
      exact W.zret (v := (0 : Int32)) (ty := .boolean) hx hb hr rfl (fun t ht hW => ⟨⟨(0 : Int32), (tI v 0 (0 : Int32)), rfl, (Option.some.inj h).symm, wPre_go hP hD hK hA hS ht hW.alike⟩, hS.F ht⟩) hS.2.2 dX6_cut_29
    · skip
      rw [if_neg c_2] at h
      refine lv_iload_n hx hb dX6_cut_14 rfl (lv_at hl 2 rfl) ?_
      refine lv_if_lt (tgt := 28) hx hb dX6_cut_15 (by decide) (fun c_3 => ?_) (fun c_3 => ?_)
      · skip
        rw [if_pos c_3] at h
        refine lv_iconst (v := (0 : Int32)) hx hb dX6_cut_28 (by decide) ?_
        exact W.zret (v := (0 : Int32)) (ty := .boolean) hx hb hr rfl (fun t ht hW => ⟨⟨(0 : Int32), (tI v 0 (0 : Int32)), rfl, (Option.some.inj h).symm, wPre_go hP hD hK hA hS ht hW.alike⟩, hS.F ht⟩) hS.2.2 dX6_cut_29
      · skip
        rw [if_neg c_3] at h
        refine lv_iload_n hx hb dX6_cut_18 rfl (lv_at hl 2 rfl) ?_
        refine lv_aload_n hx hb dX6_cut_19 rfl (lv_at hl 0 rfl) ?_
        refine va_get (D := D) (ci := 5) (v := .ref (z 2)) (C := RX6) (T := TX6) (N := 33) hx hb hts (fun w h => wm (zin_X6 w h)) hown hK hP 0 rfl rfl 2 (by decide) (hts _ (wm zw_639)) (fun _ h9 => h9) rfl dX6_cut_20 ?_
        refine lv_iload_n hx hb dX6_cut_23 rfl (lv_at hl 1 rfl) ?_
        obtain ⟨hi_4, h⟩ := zb_if h
        refine va_iald hx hb hK hP 2 3 rfl rfl (inb_in hi_4) dX6_cut_24 ?_
        refine W.eq (g2 := F0 m 25 ls ([.int (Va v 2 a1.toNatClampNeg), .int a2])) rfl ?_
        refine lv_icmp_le (tgt := 30) hx hb dX6_cut_25 (by decide) (fun c_5 => ?_) (fun c_5 => ?_)
        · skip
          rw [if_pos c_5] at h
          refine lv_aload_n hx hb dX6_cut_30 rfl (lv_at hl 0 rfl) ?_
          refine va_get (D := D) (ci := 5) (v := .ref (z 2)) (C := RX6) (T := TX6) (N := 33) hx hb hts (fun w h => wm (zin_X6 w h)) hown hK hP 0 rfl rfl 2 (by decide) (hts _ (wm zw_639)) (fun _ h9 => h9) rfl dX6_cut_31 ?_
          refine lv_iload_n hx hb dX6_cut_34 rfl (lv_at hl 1 rfl) ?_
          refine lv_iload_n hx hb dX6_cut_35 rfl (lv_at hl 2 rfl) ?_
          obtain ⟨hi_6, h⟩ := zb_if h
          refine va_iast hx hb hK hP hD hS 2 3 rfl rfl (inb_in hi_6) dX6_cut_36 (fun H locs hP hD hS => ?_)
          have hP : va_P D vwCl (mW c4 z (tA (tI v 0 (0 : Int32)) 2 a1.toNatClampNeg a2)) H := hP
          have hD : va_D A (mW c4 z (tA (tI v 0 (0 : Int32)) 2 a1.toNatClampNeg a2)) := hD
          refine lv_aload_n hx hb dX6_cut_37 rfl (lv_at hl 0 rfl) ?_
          refine lv_iconst (v := (0 : Int32)) hx hb dX6_cut_38 (by decide) ?_
          refine va_put (D := D) (ci := 5) (v := .int (0 : Int32)) (ty := .int) (C := RX6) (T := TX6) (N := 33) hx hb hts (fun w h => wm (zin_X6 w h)) tyX6 tyX6_ok nmX6 hown hK hP hD hS 0 rfl rfl 13 (by decide) (hts _ (wm zw_650)) (fun _ h9 => h9) rfl (by decide +kernel) rfl rfl (Nat.le_of_ble_eq_true rfl) dX6_cut_39 (fun H locs hP hD hS => ?_)
          have hP : va_P D vwCl (mW c4 z (tI (tA (tI v 0 (0 : Int32)) 2 a1.toNatClampNeg a2) 13 (0 : Int32))) H := hP
          have hD : va_D A (mW c4 z (tI (tA (tI v 0 (0 : Int32)) 2 a1.toNatClampNeg a2) 13 (0 : Int32))) := hD
          refine lv_iconst (v := (1 : Int32)) hx hb dX6_cut_42 (by decide) ?_
          exact W.zret (v := (1 : Int32)) (ty := .boolean) hx hb hr rfl (fun t ht hW => ⟨⟨(1 : Int32), (tI (tA (tI v 0 (0 : Int32)) 2 a1.toNatClampNeg a2) 13 (0 : Int32)), rfl, (Option.some.inj h).symm, wPre_go hP hD hK hA hS ht hW.alike⟩, hS.F ht⟩) hS.2.2 dX6_cut_43
        · skip
          rw [if_neg c_5] at h
          refine lv_iconst (v := (0 : Int32)) hx hb dX6_cut_28 (by decide) ?_
          exact W.zret (v := (0 : Int32)) (ty := .boolean) hx hb hr rfl (fun t ht hW => ⟨⟨(0 : Int32), (tI v 0 (0 : Int32)), rfl, (Option.some.inj h).symm, wPre_go hP hD hK hA hS ht hW.alike⟩, hS.F ht⟩) hS.2.2 dX6_cut_29
def pX6_words (v : MS) (a1 : Int32) : Option (MS × Int32) := (if a1 < 0 then some ((tI v 0 (0 : Int32)), (-1 : Int32)) else (if a1 ≤ (3 : Int32) then (if inb a1 4 = true then some ((tI v 0 (0 : Int32)), (Va v 2 a1.toNatClampNeg)) else none) else some ((tI v 0 (0 : Int32)), (-1 : Int32))))
set_option maxHeartbeats 4000000 in
set_option maxRecDepth 100000 in
theorem ct_X6_words (l : Launch) (D : va_G) (c4 : Nat → ClassId) (A : Nat → Prop) (z : Nat → Nat) (v : MS) (a1 : Int32) (res : MS × Int32) (h : pX6_words v a1 = some res) : Met l yX6_words (wz yX6_words cX6_words 2 (some .int)) ({ frames := 0, cells := 0, slots := 0, locals := 0 } : Room) (va_Pc [.ref (z 0), .int a1] (fun U => mPre D c4 A z v U)) (va_Qi (fun q w => res = (w, q)) (fun w t => wPre D c4 A (mW c4 z w) t) A) 0 0 A := by
  refine Met.ofW (cc := cX6_words) (maxL := 2) (ret := (some .int)) (by decide) rfl ?_
  intro p e s m args below meth c s₁ B hml hv
  obtain ⟨rfl, hP, hD, hK, hA⟩ := hv
  have hx := B.exec
  have hb := B.bytes
  have hr := B.returns
  have hts := atoms_spec (ws := (wz yX6_words cX6_words 2 (some .int))) B.pre
  have hown : s.vm.findClass RX6 = some m.cls := findClass_of_methodNamed B.named
  have hlocks := B.notSynchronized
  have hS : va_S A s.heap s.heap [] := va_S.rf
  have hl := lv_entry ([.ref (z 0), .int a1]) (n := 2) (Nat.le_of_ble_eq_true rfl)
  rw [lg_entry_eq]
  generalize (lg_sl ([.ref (z 0), .int a1]) ++ List.replicate (2 - (lg_sl ([.ref (z 0), .int a1])).length) Slot.unset).toArray = ls at hl ⊢
  have hl : lv_has ls 2 [(0, .ref (z 0)), (1, .int a1)] := hl
  unfold pX6_words at h
  refine lv_aload_n hx hb dX6_words_0 rfl (lv_at hl 0 rfl) ?_
  refine lv_iconst (v := (0 : Int32)) hx hb dX6_words_1 (by decide) ?_
  refine va_put (D := D) (ci := 5) (v := .int (0 : Int32)) (ty := .int) (C := RX6) (T := TX6) (N := 33) hx hb hts (fun w h => wm (zin_X6 w h)) tyX6 tyX6_ok nmX6 hown hK hP hD hS 0 rfl rfl 0 (by decide) (hts _ (wm zw_637)) (fun _ h9 => h9) rfl (by decide +kernel) rfl rfl (Nat.le_of_ble_eq_true rfl) dX6_words_2 (fun H locs hP hD hS => ?_)
  have hP : va_P D vwCl (mW c4 z (tI v 0 (0 : Int32))) H := hP
  have hD : va_D A (mW c4 z (tI v 0 (0 : Int32))) := hD
  refine lv_iload_n hx hb dX6_words_5 rfl (lv_at hl 1 rfl) ?_
  refine lv_if_lt (tgt := 14) hx hb dX6_words_6 (by decide) (fun c_1 => ?_) (fun c_1 => ?_)
  · skip
    rw [if_pos c_1] at h
    refine lv_iconst (v := (-1 : Int32)) hx hb dX6_words_14 (by decide) ?_
    refine lv_goto (tgt := 24) hx hb dX6_words_15 (by decide) ?_
    exact W.iret (v := (-1 : Int32)) hx hb hr (fun t ht hW => ⟨⟨(-1 : Int32), (tI v 0 (0 : Int32)), rfl, (Option.some.inj h).symm, wPre_go hP hD hK hA hS ht hW.alike⟩, hS.F ht⟩) hS.2.2 dX6_words_24
  · skip
    rw [if_neg c_1] at h
    refine lv_iload_n hx hb dX6_words_9 rfl (lv_at hl 1 rfl) ?_
    refine lv_iconst (v := (3 : Int32)) hx hb dX6_words_10 (by decide) ?_
    refine lv_icmp_le (tgt := 18) hx hb dX6_words_11 (by decide) (fun c_2 => ?_) (fun c_2 => ?_)
    · skip
      rw [if_pos c_2] at h
      refine lv_aload_n hx hb dX6_words_18 rfl (lv_at hl 0 rfl) ?_
      refine va_get (D := D) (ci := 5) (v := .ref (z 2)) (C := RX6) (T := TX6) (N := 33) hx hb hts (fun w h => wm (zin_X6 w h)) hown hK hP 0 rfl rfl 2 (by decide) (hts _ (wm zw_639)) (fun _ h9 => h9) rfl dX6_words_19 ?_
      refine lv_iload_n hx hb dX6_words_22 rfl (lv_at hl 1 rfl) ?_
      obtain ⟨hi_3, h⟩ := zb_if h
      refine va_iald hx hb hK hP 2 3 rfl rfl (inb_in hi_3) dX6_words_23 ?_
      refine W.eq (g2 := F0 m 24 ls ([.int (Va v 2 a1.toNatClampNeg)])) rfl ?_
      exact W.iret (v := (Va v 2 a1.toNatClampNeg)) hx hb hr (fun t ht hW => ⟨⟨(Va v 2 a1.toNatClampNeg), (tI v 0 (0 : Int32)), rfl, (Option.some.inj h).symm, wPre_go hP hD hK hA hS ht hW.alike⟩, hS.F ht⟩) hS.2.2 dX6_words_24
    · skip
      rw [if_neg c_2] at h
      refine lv_iconst (v := (-1 : Int32)) hx hb dX6_words_14 (by decide) ?_
      refine lv_goto (tgt := 24) hx hb dX6_words_15 (by decide) ?_
      exact W.iret (v := (-1 : Int32)) hx hb hr (fun t ht hW => ⟨⟨(-1 : Int32), (tI v 0 (0 : Int32)), rfl, (Option.some.inj h).symm, wPre_go hP hD hK hA hS ht hW.alike⟩, hS.F ht⟩) hS.2.2 dX6_words_24
def pX6_word (v : MS) (a1 : Int32) (a2 : Int32) : Option (MS × Int64) := ((pX6_isWord (tI v 0 (0 : Int32)) a1 a2).bind fun r_1 => (if r_1 = 0 then some ((tI v 0 (0 : Int32)), (0 : Int64)) else (if inb (((64 : Int32) * a1) + a2) 256 = true then some ((tI v 0 (0 : Int32)), (Vr v 1 (((64 : Int32) * a1) + a2).toNatClampNeg)) else none)))
set_option maxHeartbeats 4000000 in
set_option maxRecDepth 100000 in
theorem ct_X6_word (l : Launch) (D : va_G) (c4 : Nat → ClassId) (A : Nat → Prop) (z : Nat → Nat) (v : MS) (a1 : Int32) (a2 : Int32) (res : MS × Int64) (h : pX6_word v a1 a2 = some res) : Met l yX6_word (wz yX6_word cX6_word 3 (some .long)) ({ frames := 1, cells := 0, slots := 0, locals := 22 } : Room) (va_Pc [.ref (z 0), .int a1, .int a2] (fun U => mPre D c4 A z v U)) (va_Ql (fun q w => res = (w, q)) (fun w t => wPre D c4 A (mW c4 z w) t) A) 0 0 A := by
  refine Met.ofW (cc := cX6_word) (maxL := 3) (ret := (some .long)) (by decide) rfl ?_
  intro p e s m args below meth c s₁ B hml hv
  obtain ⟨rfl, hP, hD, hK, hA⟩ := hv
  have hx := B.exec
  have hb := B.bytes
  have hr := B.returns
  have hts := atoms_spec (ws := (wz yX6_word cX6_word 3 (some .long))) B.pre
  have hown : s.vm.findClass RX6 = some m.cls := findClass_of_methodNamed B.named
  have hlocks := B.notSynchronized
  have hS : va_S A s.heap s.heap [] := va_S.rf
  have hl := lv_entry ([.ref (z 0), .int a1, .int a2]) (n := 3) (Nat.le_of_ble_eq_true rfl)
  rw [lg_entry_eq]
  generalize (lg_sl ([.ref (z 0), .int a1, .int a2]) ++ List.replicate (3 - (lg_sl ([.ref (z 0), .int a1, .int a2])).length) Slot.unset).toArray = ls at hl ⊢
  have hl : lv_has ls 3 [(0, .ref (z 0)), (1, .int a1), (2, .int a2)] := hl
  unfold pX6_word at h
  refine lv_aload_n hx hb dX6_word_0 rfl (lv_at hl 0 rfl) ?_
  refine lv_iconst (v := (0 : Int32)) hx hb dX6_word_1 (by decide) ?_
  refine va_put (D := D) (ci := 5) (v := .int (0 : Int32)) (ty := .int) (C := RX6) (T := TX6) (N := 33) hx hb hts (fun w h => wm (zin_X6 w h)) tyX6 tyX6_ok nmX6 hown hK hP hD hS 0 rfl rfl 0 (by decide) (hts _ (wm zw_637)) (fun _ h9 => h9) rfl (by decide +kernel) rfl rfl (Nat.le_of_ble_eq_true rfl) dX6_word_2 (fun H locs hP hD hS => ?_)
  have hP : va_P D vwCl (mW c4 z (tI v 0 (0 : Int32))) H := hP
  have hD : va_D A (mW c4 z (tI v 0 (0 : Int32))) := hD
  refine lv_aload_n hx hb dX6_word_5 rfl (lv_at hl 0 rfl) ?_
  refine lv_iload_n hx hb dX6_word_6 rfl (lv_at hl 1 rfl) ?_
  refine lv_iload_n hx hb dX6_word_7 rfl (lv_at hl 2 rfl) ?_
  obtain ⟨q_1, hc_1, h⟩ := zb_bind h
  try dsimp only at h
  refine vp_callSi (W.runV (As := [.int a1, .int a2]) (rest := []) ⟨hx, hb, hml, hown, hts⟩ (ct_X6_isWord l D c4 A z (tI v 0 (0 : Int32)) a1 a2 _ hc_1) (cwV 2 hts (wz_V zw_750 zw_752 zs_17 zw_6 zw_753) rfl rfl rfl (by decide +kernel) ⟨Nat.le_of_ble_eq_true rfl, Nat.le_of_ble_eq_true rfl⟩) ⟨fbM, va_recv hK hP (ci := 5) (q0 := 0) rfl rfl, fun U9 hU hW => ⟨rfl, wPre_go hP hD hK hA hS hU hW.alike⟩⟩ rfl rfl hl.1 rfl (lv_room (Nat.le_of_ble_eq_true rfl)) dX6_word_8 ⟨Nat.le_of_ble_eq_true rfl, Nat.le_of_ble_eq_true rfl⟩) (fun r_1 e_1 => ?_)
  subst e_1
  refine lv_if_eq (tgt := 28) hx hb dX6_word_11 (by decide) (fun c_2 => ?_) (fun c_2 => ?_)
  · skip
    rw [if_pos c_2] at h
    refine lv_lconst (v := (0 : Int64)) hx hb dX6_word_28 (by decide) ?_
    exact W.lret (v := (0 : Int64)) hx hb hr (fun t ht hW => ⟨⟨(0 : Int64), (tI v 0 (0 : Int32)), rfl, (Option.some.inj h).symm, wPre_go hP hD hK hA hS ht hW.alike⟩, hS.F ht⟩) hS.2.2 dX6_word_29
  · skip
    rw [if_neg c_2] at h
    refine lv_aload_n hx hb dX6_word_14 rfl (lv_at hl 0 rfl) ?_
    refine va_get (D := D) (ci := 5) (v := .ref (z 1)) (C := RX6) (T := TX6) (N := 33) hx hb hts (fun w h => wm (zin_X6 w h)) hown hK hP 0 rfl rfl 1 (by decide) (hts _ (wm zw_638)) (fun _ h9 => h9) rfl dX6_word_15 ?_
    refine lv_bipush (v := (64 : Int32)) hx hb dX6_word_18 (by decide) ?_
    refine lv_iload_n hx hb dX6_word_20 rfl (lv_at hl 1 rfl) ?_
    refine lv_imul hx hb dX6_word_21 ?_
    refine lv_iload_n hx hb dX6_word_22 rfl (lv_at hl 2 rfl) ?_
    refine lv_iadd hx hb dX6_word_23 ?_
    obtain ⟨hi_3, h⟩ := zb_if h
    refine va_lald hx hb hK hP 1 0 rfl rfl (inb_in hi_3) dX6_word_24 ?_
    refine W.eq (g2 := F0 m 25 ls ([.long (Vr v 1 (((64 : Int32) * a1) + a2).toNatClampNeg)])) rfl ?_
    refine lv_goto (tgt := 29) hx hb dX6_word_25 (by decide) ?_
    exact W.lret (v := (Vr v 1 (((64 : Int32) * a1) + a2).toNatClampNeg)) hx hb hr (fun t ht hW => ⟨⟨(Vr v 1 (((64 : Int32) * a1) + a2).toNatClampNeg), (tI v 0 (0 : Int32)), rfl, (Option.some.inj h).symm, wPre_go hP hD hK hA hS ht hW.alike⟩, hS.F ht⟩) hS.2.2 dX6_word_29
def pX6_budget (v : MS) (a1 : Int32) : Option (MS × Int32) := (if a1 < 0 then some ((tI v 0 (0 : Int32)), (0 : Int32)) else (if a1 ≤ (63 : Int32) then some ((tI (tI v 0 (0 : Int32)) 3 a1), (1 : Int32)) else some ((tI v 0 (0 : Int32)), (0 : Int32))))
set_option maxHeartbeats 4000000 in
set_option maxRecDepth 100000 in
theorem ct_X6_budget (l : Launch) (D : va_G) (c4 : Nat → ClassId) (A : Nat → Prop) (z : Nat → Nat) (v : MS) (a1 : Int32) (res : MS × Int32) (h : pX6_budget v a1 = some res) : Met l yX6_budget (wz yX6_budget cX6_budget 2 (some .boolean)) ({ frames := 0, cells := 0, slots := 0, locals := 0 } : Room) (va_Pc [.ref (z 0), .int a1] (fun U => mPre D c4 A z v U)) (va_Qi (fun q w => res = (w, q)) (fun w t => wPre D c4 A (mW c4 z w) t) A) 0 0 A := by
  refine Met.ofW (cc := cX6_budget) (maxL := 2) (ret := (some .boolean)) (by decide) rfl ?_
  intro p e s m args below meth c s₁ B hml hv
  obtain ⟨rfl, hP, hD, hK, hA⟩ := hv
  have hx := B.exec
  have hb := B.bytes
  have hr := B.returns
  have hts := atoms_spec (ws := (wz yX6_budget cX6_budget 2 (some .boolean))) B.pre
  have hown : s.vm.findClass RX6 = some m.cls := findClass_of_methodNamed B.named
  have hlocks := B.notSynchronized
  have hS : va_S A s.heap s.heap [] := va_S.rf
  have hl := lv_entry ([.ref (z 0), .int a1]) (n := 2) (Nat.le_of_ble_eq_true rfl)
  rw [lg_entry_eq]
  generalize (lg_sl ([.ref (z 0), .int a1]) ++ List.replicate (2 - (lg_sl ([.ref (z 0), .int a1])).length) Slot.unset).toArray = ls at hl ⊢
  have hl : lv_has ls 2 [(0, .ref (z 0)), (1, .int a1)] := hl
  unfold pX6_budget at h
  refine lv_aload_n hx hb dX6_budget_0 rfl (lv_at hl 0 rfl) ?_
  refine lv_iconst (v := (0 : Int32)) hx hb dX6_budget_1 (by decide) ?_
  refine va_put (D := D) (ci := 5) (v := .int (0 : Int32)) (ty := .int) (C := RX6) (T := TX6) (N := 33) hx hb hts (fun w h => wm (zin_X6 w h)) tyX6 tyX6_ok nmX6 hown hK hP hD hS 0 rfl rfl 0 (by decide) (hts _ (wm zw_637)) (fun _ h9 => h9) rfl (by decide +kernel) rfl rfl (Nat.le_of_ble_eq_true rfl) dX6_budget_2 (fun H locs hP hD hS => ?_)
  have hP : va_P D vwCl (mW c4 z (tI v 0 (0 : Int32))) H := hP
  have hD : va_D A (mW c4 z (tI v 0 (0 : Int32))) := hD
  refine lv_iload_n hx hb dX6_budget_5 rfl (lv_at hl 1 rfl) ?_
  refine lv_if_lt (tgt := 15) hx hb dX6_budget_6 (by decide) (fun c_1 => ?_) (fun c_1 => ?_)
  · skip
    rw [if_pos c_1] at h
    refine lv_iconst (v := (0 : Int32)) hx hb dX6_budget_15 (by decide) ?_
    exact W.zret (v := (0 : Int32)) (ty := .boolean) hx hb hr rfl (fun t ht hW => ⟨⟨(0 : Int32), (tI v 0 (0 : Int32)), rfl, (Option.some.inj h).symm, wPre_go hP hD hK hA hS ht hW.alike⟩, hS.F ht⟩) hS.2.2 dX6_budget_16
  · skip
    rw [if_neg c_1] at h
    refine lv_iload_n hx hb dX6_budget_9 rfl (lv_at hl 1 rfl) ?_
    refine lv_bipush (v := (63 : Int32)) hx hb dX6_budget_10 (by decide) ?_
    refine lv_icmp_le (tgt := 17) hx hb dX6_budget_12 (by decide) (fun c_2 => ?_) (fun c_2 => ?_)
    · skip
      rw [if_pos c_2] at h
      refine lv_aload_n hx hb dX6_budget_17 rfl (lv_at hl 0 rfl) ?_
      refine lv_iload_n hx hb dX6_budget_18 rfl (lv_at hl 1 rfl) ?_
      refine va_put (D := D) (ci := 5) (v := .int a1) (ty := .int) (C := RX6) (T := TX6) (N := 33) hx hb hts (fun w h => wm (zin_X6 w h)) tyX6 tyX6_ok nmX6 hown hK hP hD hS 0 rfl rfl 3 (by decide) (hts _ (wm zw_640)) (fun _ h9 => h9) rfl (by decide +kernel) rfl rfl (Nat.le_of_ble_eq_true rfl) dX6_budget_19 (fun H locs hP hD hS => ?_)
      have hP : va_P D vwCl (mW c4 z (tI (tI v 0 (0 : Int32)) 3 a1)) H := hP
      have hD : va_D A (mW c4 z (tI (tI v 0 (0 : Int32)) 3 a1)) := hD
      refine lv_iconst (v := (1 : Int32)) hx hb dX6_budget_22 (by decide) ?_
      exact W.zret (v := (1 : Int32)) (ty := .boolean) hx hb hr rfl (fun t ht hW => ⟨⟨(1 : Int32), (tI (tI v 0 (0 : Int32)) 3 a1), rfl, (Option.some.inj h).symm, wPre_go hP hD hK hA hS ht hW.alike⟩, hS.F ht⟩) hS.2.2 dX6_budget_23
    · skip
      rw [if_neg c_2] at h
      refine lv_iconst (v := (0 : Int32)) hx hb dX6_budget_15 (by decide) ?_
      exact W.zret (v := (0 : Int32)) (ty := .boolean) hx hb hr rfl (fun t ht hW => ⟨⟨(0 : Int32), (tI v 0 (0 : Int32)), rfl, (Option.some.inj h).symm, wPre_go hP hD hK hA hS ht hW.alike⟩, hS.F ht⟩) hS.2.2 dX6_budget_16
