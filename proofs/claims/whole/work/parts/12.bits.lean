def pX0_type (a1 : Int64) : Int32 := ((a1.toInt32) &&& (3 : Int32))
set_option maxHeartbeats 4000000 in
set_option maxRecDepth 100000 in
theorem ct_X0_type (l : Launch) (a1 : Int64) (r : Int32) (h : pX0_type a1 = r) : Met l yX0_type (wz yX0_type cX0_type 2 (some .int)) ({ frames := 0, cells := 0, slots := 0, locals := 0 } : Room) (va_Pc [.long a1] (fun _ => True)) (vp_Si (fun q => q = r)) 0 0 (fun _ => False) := by
  refine Met.ofW (cc := cX0_type) (maxL := 2) (ret := (some .int)) (by decide) rfl ?_
  intro p e s m args below meth c s₁ B hml hv
  obtain ⟨rfl, -⟩ := hv
  have hx := B.exec
  have hb := B.bytes
  have hr := B.returns
  have hts := atoms_spec (ws := (wz yX0_type cX0_type 2 (some .int))) B.pre
  have hown : s.vm.findClass RX0 = some m.cls := findClass_of_methodNamed B.named
  have hlocks := B.notSynchronized
  have hl := lv_entry ([.long a1]) (n := 2) (Nat.le_of_ble_eq_true rfl)
  rw [lg_entry_eq]
  generalize (lg_sl ([.long a1]) ++ List.replicate (2 - (lg_sl ([.long a1])).length) Slot.unset).toArray = ls at hl ⊢
  have hl : lv_has ls 2 [(0, .long a1)] := hl
  unfold pX0_type at h
  refine lv_lload_n hx hb dX0_type_0 rfl (lv_at hl 0 rfl) ?_
  refine lv_l2i hx hb dX0_type_1 rfl ?_
  refine lv_iconst (v := (3 : Int32)) hx hb dX0_type_2 (by decide) ?_
  refine lv_iand hx hb dX0_type_3 ?_
  exact W.iret (v := ((a1.toInt32) &&& (3 : Int32))) hx hb hr (fun t ht hW => ⟨_, rfl, h, ht⟩) (fun _ hq => nomatch hq) dX0_type_4
def pX0_isStructOrList (a1 : Int64) : Int32 := (if a1 = (0 : Int64) then (0 : Int32) else (if (a1 &&& (2 : Int64)) = (0 : Int64) then (1 : Int32) else (0 : Int32)))
set_option maxHeartbeats 4000000 in
set_option maxRecDepth 100000 in
theorem ct_X0_isStructOrList (l : Launch) (a1 : Int64) (r : Int32) (h : pX0_isStructOrList a1 = r) : Met l yX0_isStructOrList (wz yX0_isStructOrList cX0_isStructOrList 2 (some .boolean)) ({ frames := 0, cells := 0, slots := 0, locals := 0 } : Room) (va_Pc [.long a1] (fun _ => True)) (vp_Si (fun q => q = r)) 0 0 (fun _ => False) := by
  refine Met.ofW (cc := cX0_isStructOrList) (maxL := 2) (ret := (some .boolean)) (by decide) rfl ?_
  intro p e s m args below meth c s₁ B hml hv
  obtain ⟨rfl, -⟩ := hv
  have hx := B.exec
  have hb := B.bytes
  have hr := B.returns
  have hts := atoms_spec (ws := (wz yX0_isStructOrList cX0_isStructOrList 2 (some .boolean))) B.pre
  have hown : s.vm.findClass RX0 = some m.cls := findClass_of_methodNamed B.named
  have hlocks := B.notSynchronized
  have hl := lv_entry ([.long a1]) (n := 2) (Nat.le_of_ble_eq_true rfl)
  rw [lg_entry_eq]
  generalize (lg_sl ([.long a1]) ++ List.replicate (2 - (lg_sl ([.long a1])).length) Slot.unset).toArray = ls at hl ⊢
  have hl : lv_has ls 2 [(0, .long a1)] := hl
  unfold pX0_isStructOrList at h
  refine lv_lload_n hx hb dX0_isStructOrList_0 rfl (lv_at hl 0 rfl) ?_
  refine lv_lconst (v := (0 : Int64)) hx hb dX0_isStructOrList_1 (by decide) ?_
  refine W.lcmp hx hb dX0_isStructOrList_2 ?_
  refine lv_if_eq (tgt := 20) hx hb dX0_isStructOrList_3 (by decide) (fun c_1 => ?_) (fun c_1 => ?_)
  · skip
    have c_1 := (lg_cmp_eq _ _).mp c_1
    rw [if_pos c_1] at h
    refine lv_iconst (v := (0 : Int32)) hx hb dX0_isStructOrList_20 (by decide) ?_
    exact W.zret (v := (0 : Int32)) (ty := .boolean) hx hb hr rfl (fun t ht hW => ⟨_, rfl, h, ht⟩) (fun _ hq => nomatch hq) dX0_isStructOrList_21
  · skip
    have c_1 := mt (lg_cmp_eq _ _).mpr c_1
    rw [if_neg c_1] at h
    refine lv_lload_n hx hb dX0_isStructOrList_6 rfl (lv_at hl 0 rfl) ?_
    refine lv_ldc2 (v := (2 : Int64)) hx hb hown (hts _ (wm zw_359)) dX0_isStructOrList_7 ?_
    refine lv_land hx hb dX0_isStructOrList_10 ?_
    refine lv_lconst (v := (0 : Int64)) hx hb dX0_isStructOrList_11 (by decide) ?_
    refine W.lcmp hx hb dX0_isStructOrList_12 ?_
    refine lv_if_ne (tgt := 20) hx hb dX0_isStructOrList_13 (by decide) (fun c_2 => ?_) (fun c_2 => ?_)
    · skip
      have c_2 := mt (lg_cmp_eq _ _).mpr c_2
      rw [if_neg c_2] at h
      refine lv_iconst (v := (0 : Int32)) hx hb dX0_isStructOrList_20 (by decide) ?_
      exact W.zret (v := (0 : Int32)) (ty := .boolean) hx hb hr rfl (fun t ht hW => ⟨_, rfl, h, ht⟩) (fun _ hq => nomatch hq) dX0_isStructOrList_21
    · skip
      have c_2 := (lg_cmp_eq _ _).mp c_2
      rw [if_pos c_2] at h
      refine lv_iconst (v := (1 : Int32)) hx hb dX0_isStructOrList_16 (by decide) ?_
      refine lv_goto (tgt := 21) hx hb dX0_isStructOrList_17 (by decide) ?_
      exact W.zret (v := (1 : Int32)) (ty := .boolean) hx hb hr rfl (fun t ht hW => ⟨_, rfl, h, ht⟩) (fun _ hq => nomatch hq) dX0_isStructOrList_21
def pX0_offset (a1 : Int64) : Int32 := ((a1.toInt32) >>> ((2 : Int32) &&& 31))
set_option maxHeartbeats 4000000 in
set_option maxRecDepth 100000 in
theorem ct_X0_offset (l : Launch) (a1 : Int64) (r : Int32) (h : pX0_offset a1 = r) : Met l yX0_offset (wz yX0_offset cX0_offset 2 (some .int)) ({ frames := 0, cells := 0, slots := 0, locals := 0 } : Room) (va_Pc [.long a1] (fun _ => True)) (vp_Si (fun q => q = r)) 0 0 (fun _ => False) := by
  refine Met.ofW (cc := cX0_offset) (maxL := 2) (ret := (some .int)) (by decide) rfl ?_
  intro p e s m args below meth c s₁ B hml hv
  obtain ⟨rfl, -⟩ := hv
  have hx := B.exec
  have hb := B.bytes
  have hr := B.returns
  have hts := atoms_spec (ws := (wz yX0_offset cX0_offset 2 (some .int))) B.pre
  have hown : s.vm.findClass RX0 = some m.cls := findClass_of_methodNamed B.named
  have hlocks := B.notSynchronized
  have hl := lv_entry ([.long a1]) (n := 2) (Nat.le_of_ble_eq_true rfl)
  rw [lg_entry_eq]
  generalize (lg_sl ([.long a1]) ++ List.replicate (2 - (lg_sl ([.long a1])).length) Slot.unset).toArray = ls at hl ⊢
  have hl : lv_has ls 2 [(0, .long a1)] := hl
  unfold pX0_offset at h
  refine lv_lload_n hx hb dX0_offset_0 rfl (lv_at hl 0 rfl) ?_
  refine lv_l2i hx hb dX0_offset_1 rfl ?_
  refine lv_iconst (v := (2 : Int32)) hx hb dX0_offset_2 (by decide) ?_
  refine lv_ishr hx hb dX0_offset_3 ?_
  exact W.iret (v := ((a1.toInt32) >>> ((2 : Int32) &&& 31))) hx hb hr (fun t ht hW => ⟨_, rfl, h, ht⟩) (fun _ hq => nomatch hq) dX0_offset_4
def pX0_tagCount (a1 : Int64) : Int32 := (((a1.toInt32).toUInt32 >>> ((2 : Int32).toUInt32 &&& Int32.toUInt32 31)).toInt32)
set_option maxHeartbeats 4000000 in
set_option maxRecDepth 100000 in
theorem ct_X0_tagCount (l : Launch) (a1 : Int64) (r : Int32) (h : pX0_tagCount a1 = r) : Met l yX0_tagCount (wz yX0_tagCount cX0_tagCount 2 (some .int)) ({ frames := 0, cells := 0, slots := 0, locals := 0 } : Room) (va_Pc [.long a1] (fun _ => True)) (vp_Si (fun q => q = r)) 0 0 (fun _ => False) := by
  refine Met.ofW (cc := cX0_tagCount) (maxL := 2) (ret := (some .int)) (by decide) rfl ?_
  intro p e s m args below meth c s₁ B hml hv
  obtain ⟨rfl, -⟩ := hv
  have hx := B.exec
  have hb := B.bytes
  have hr := B.returns
  have hts := atoms_spec (ws := (wz yX0_tagCount cX0_tagCount 2 (some .int))) B.pre
  have hown : s.vm.findClass RX0 = some m.cls := findClass_of_methodNamed B.named
  have hlocks := B.notSynchronized
  have hl := lv_entry ([.long a1]) (n := 2) (Nat.le_of_ble_eq_true rfl)
  rw [lg_entry_eq]
  generalize (lg_sl ([.long a1]) ++ List.replicate (2 - (lg_sl ([.long a1])).length) Slot.unset).toArray = ls at hl ⊢
  have hl : lv_has ls 2 [(0, .long a1)] := hl
  unfold pX0_tagCount at h
  refine lv_lload_n hx hb dX0_tagCount_0 rfl (lv_at hl 0 rfl) ?_
  refine lv_l2i hx hb dX0_tagCount_1 rfl ?_
  refine lv_iconst (v := (2 : Int32)) hx hb dX0_tagCount_2 (by decide) ?_
  refine lv_iushr hx hb dX0_tagCount_3 rfl ?_
  exact W.iret (v := (((a1.toInt32).toUInt32 >>> ((2 : Int32).toUInt32 &&& Int32.toUInt32 31)).toInt32)) hx hb hr (fun t ht hW => ⟨_, rfl, h, ht⟩) (fun _ hq => nomatch hq) dX0_tagCount_4
def pX0_dataWords (a1 : Int64) : Int32 := ((((a1.toUInt64 >>> ((32 : Int32).toInt64.toUInt64 &&& Int64.toUInt64 63)).toInt64).toInt32) &&& (65535 : Int32))
set_option maxHeartbeats 4000000 in
set_option maxRecDepth 100000 in
theorem ct_X0_dataWords (l : Launch) (a1 : Int64) (r : Int32) (h : pX0_dataWords a1 = r) : Met l yX0_dataWords (wz yX0_dataWords cX0_dataWords 2 (some .int)) ({ frames := 0, cells := 0, slots := 0, locals := 0 } : Room) (va_Pc [.long a1] (fun _ => True)) (vp_Si (fun q => q = r)) 0 0 (fun _ => False) := by
  refine Met.ofW (cc := cX0_dataWords) (maxL := 2) (ret := (some .int)) (by decide) rfl ?_
  intro p e s m args below meth c s₁ B hml hv
  obtain ⟨rfl, -⟩ := hv
  have hx := B.exec
  have hb := B.bytes
  have hr := B.returns
  have hts := atoms_spec (ws := (wz yX0_dataWords cX0_dataWords 2 (some .int))) B.pre
  have hown : s.vm.findClass RX0 = some m.cls := findClass_of_methodNamed B.named
  have hlocks := B.notSynchronized
  have hl := lv_entry ([.long a1]) (n := 2) (Nat.le_of_ble_eq_true rfl)
  rw [lg_entry_eq]
  generalize (lg_sl ([.long a1]) ++ List.replicate (2 - (lg_sl ([.long a1])).length) Slot.unset).toArray = ls at hl ⊢
  have hl : lv_has ls 2 [(0, .long a1)] := hl
  unfold pX0_dataWords at h
  refine lv_lload_n hx hb dX0_dataWords_0 rfl (lv_at hl 0 rfl) ?_
  refine lv_bipush (v := (32 : Int32)) hx hb dX0_dataWords_1 (by decide) ?_
  refine lv_lushr hx hb dX0_dataWords_3 rfl ?_
  refine lv_l2i hx hb dX0_dataWords_4 rfl ?_
  refine lv_ldc (v := (65535 : Int32)) hx hb hown (hts _ (wm zw_405)) dX0_dataWords_5 ?_
  refine lv_iand hx hb dX0_dataWords_7 ?_
  exact W.iret (v := ((((a1.toUInt64 >>> ((32 : Int32).toInt64.toUInt64 &&& Int64.toUInt64 63)).toInt64).toInt32) &&& (65535 : Int32))) hx hb hr (fun t ht hW => ⟨_, rfl, h, ht⟩) (fun _ hq => nomatch hq) dX0_dataWords_8
def pX0_pointers (a1 : Int64) : Int32 := (((a1.toUInt64 >>> ((48 : Int32).toInt64.toUInt64 &&& Int64.toUInt64 63)).toInt64).toInt32)
set_option maxHeartbeats 4000000 in
set_option maxRecDepth 100000 in
theorem ct_X0_pointers (l : Launch) (a1 : Int64) (r : Int32) (h : pX0_pointers a1 = r) : Met l yX0_pointers (wz yX0_pointers cX0_pointers 2 (some .int)) ({ frames := 0, cells := 0, slots := 0, locals := 0 } : Room) (va_Pc [.long a1] (fun _ => True)) (vp_Si (fun q => q = r)) 0 0 (fun _ => False) := by
  refine Met.ofW (cc := cX0_pointers) (maxL := 2) (ret := (some .int)) (by decide) rfl ?_
  intro p e s m args below meth c s₁ B hml hv
  obtain ⟨rfl, -⟩ := hv
  have hx := B.exec
  have hb := B.bytes
  have hr := B.returns
  have hts := atoms_spec (ws := (wz yX0_pointers cX0_pointers 2 (some .int))) B.pre
  have hown : s.vm.findClass RX0 = some m.cls := findClass_of_methodNamed B.named
  have hlocks := B.notSynchronized
  have hl := lv_entry ([.long a1]) (n := 2) (Nat.le_of_ble_eq_true rfl)
  rw [lg_entry_eq]
  generalize (lg_sl ([.long a1]) ++ List.replicate (2 - (lg_sl ([.long a1])).length) Slot.unset).toArray = ls at hl ⊢
  have hl : lv_has ls 2 [(0, .long a1)] := hl
  unfold pX0_pointers at h
  refine lv_lload_n hx hb dX0_pointers_0 rfl (lv_at hl 0 rfl) ?_
  refine lv_bipush (v := (48 : Int32)) hx hb dX0_pointers_1 (by decide) ?_
  refine lv_lushr hx hb dX0_pointers_3 rfl ?_
  refine lv_l2i hx hb dX0_pointers_4 rfl ?_
  exact W.iret (v := (((a1.toUInt64 >>> ((48 : Int32).toInt64.toUInt64 &&& Int64.toUInt64 63)).toInt64).toInt32)) hx hb hr (fun t ht hW => ⟨_, rfl, h, ht⟩) (fun _ hq => nomatch hq) dX0_pointers_5
def pX0_listKind (a1 : Int64) : Int32 := ((((a1.toUInt64 >>> ((32 : Int32).toInt64.toUInt64 &&& Int64.toUInt64 63)).toInt64).toInt32) &&& (7 : Int32))
set_option maxHeartbeats 4000000 in
set_option maxRecDepth 100000 in
theorem ct_X0_listKind (l : Launch) (a1 : Int64) (r : Int32) (h : pX0_listKind a1 = r) : Met l yX0_listKind (wz yX0_listKind cX0_listKind 2 (some .int)) ({ frames := 0, cells := 0, slots := 0, locals := 0 } : Room) (va_Pc [.long a1] (fun _ => True)) (vp_Si (fun q => q = r)) 0 0 (fun _ => False) := by
  refine Met.ofW (cc := cX0_listKind) (maxL := 2) (ret := (some .int)) (by decide) rfl ?_
  intro p e s m args below meth c s₁ B hml hv
  obtain ⟨rfl, -⟩ := hv
  have hx := B.exec
  have hb := B.bytes
  have hr := B.returns
  have hts := atoms_spec (ws := (wz yX0_listKind cX0_listKind 2 (some .int))) B.pre
  have hown : s.vm.findClass RX0 = some m.cls := findClass_of_methodNamed B.named
  have hlocks := B.notSynchronized
  have hl := lv_entry ([.long a1]) (n := 2) (Nat.le_of_ble_eq_true rfl)
  rw [lg_entry_eq]
  generalize (lg_sl ([.long a1]) ++ List.replicate (2 - (lg_sl ([.long a1])).length) Slot.unset).toArray = ls at hl ⊢
  have hl : lv_has ls 2 [(0, .long a1)] := hl
  unfold pX0_listKind at h
  refine lv_lload_n hx hb dX0_listKind_0 rfl (lv_at hl 0 rfl) ?_
  refine lv_bipush (v := (32 : Int32)) hx hb dX0_listKind_1 (by decide) ?_
  refine lv_lushr hx hb dX0_listKind_3 rfl ?_
  refine lv_l2i hx hb dX0_listKind_4 rfl ?_
  refine lv_bipush (v := (7 : Int32)) hx hb dX0_listKind_5 (by decide) ?_
  refine lv_iand hx hb dX0_listKind_7 ?_
  exact W.iret (v := ((((a1.toUInt64 >>> ((32 : Int32).toInt64.toUInt64 &&& Int64.toUInt64 63)).toInt64).toInt32) &&& (7 : Int32))) hx hb hr (fun t ht hW => ⟨_, rfl, h, ht⟩) (fun _ hq => nomatch hq) dX0_listKind_8
def pX0_listNumber (a1 : Int64) : Int32 := (((a1.toUInt64 >>> ((35 : Int32).toInt64.toUInt64 &&& Int64.toUInt64 63)).toInt64).toInt32)
set_option maxHeartbeats 4000000 in
set_option maxRecDepth 100000 in
theorem ct_X0_listNumber (l : Launch) (a1 : Int64) (r : Int32) (h : pX0_listNumber a1 = r) : Met l yX0_listNumber (wz yX0_listNumber cX0_listNumber 2 (some .int)) ({ frames := 0, cells := 0, slots := 0, locals := 0 } : Room) (va_Pc [.long a1] (fun _ => True)) (vp_Si (fun q => q = r)) 0 0 (fun _ => False) := by
  refine Met.ofW (cc := cX0_listNumber) (maxL := 2) (ret := (some .int)) (by decide) rfl ?_
  intro p e s m args below meth c s₁ B hml hv
  obtain ⟨rfl, -⟩ := hv
  have hx := B.exec
  have hb := B.bytes
  have hr := B.returns
  have hts := atoms_spec (ws := (wz yX0_listNumber cX0_listNumber 2 (some .int))) B.pre
  have hown : s.vm.findClass RX0 = some m.cls := findClass_of_methodNamed B.named
  have hlocks := B.notSynchronized
  have hl := lv_entry ([.long a1]) (n := 2) (Nat.le_of_ble_eq_true rfl)
  rw [lg_entry_eq]
  generalize (lg_sl ([.long a1]) ++ List.replicate (2 - (lg_sl ([.long a1])).length) Slot.unset).toArray = ls at hl ⊢
  have hl : lv_has ls 2 [(0, .long a1)] := hl
  unfold pX0_listNumber at h
  refine lv_lload_n hx hb dX0_listNumber_0 rfl (lv_at hl 0 rfl) ?_
  refine lv_bipush (v := (35 : Int32)) hx hb dX0_listNumber_1 (by decide) ?_
  refine lv_lushr hx hb dX0_listNumber_3 rfl ?_
  refine lv_l2i hx hb dX0_listNumber_4 rfl ?_
  exact W.iret (v := (((a1.toUInt64 >>> ((35 : Int32).toInt64.toUInt64 &&& Int64.toUInt64 63)).toInt64).toInt32)) hx hb hr (fun t ht hW => ⟨_, rfl, h, ht⟩) (fun _ hq => nomatch hq) dX0_listNumber_5
def pX0_hasTwoWordPad (a1 : Int64) : Int32 := (if (a1 &&& (4 : Int64)) = (0 : Int64) then (0 : Int32) else (1 : Int32))
set_option maxHeartbeats 4000000 in
set_option maxRecDepth 100000 in
theorem ct_X0_hasTwoWordPad (l : Launch) (a1 : Int64) (r : Int32) (h : pX0_hasTwoWordPad a1 = r) : Met l yX0_hasTwoWordPad (wz yX0_hasTwoWordPad cX0_hasTwoWordPad 2 (some .boolean)) ({ frames := 0, cells := 0, slots := 0, locals := 0 } : Room) (va_Pc [.long a1] (fun _ => True)) (vp_Si (fun q => q = r)) 0 0 (fun _ => False) := by
  refine Met.ofW (cc := cX0_hasTwoWordPad) (maxL := 2) (ret := (some .boolean)) (by decide) rfl ?_
  intro p e s m args below meth c s₁ B hml hv
  obtain ⟨rfl, -⟩ := hv
  have hx := B.exec
  have hb := B.bytes
  have hr := B.returns
  have hts := atoms_spec (ws := (wz yX0_hasTwoWordPad cX0_hasTwoWordPad 2 (some .boolean))) B.pre
  have hown : s.vm.findClass RX0 = some m.cls := findClass_of_methodNamed B.named
  have hlocks := B.notSynchronized
  have hl := lv_entry ([.long a1]) (n := 2) (Nat.le_of_ble_eq_true rfl)
  rw [lg_entry_eq]
  generalize (lg_sl ([.long a1]) ++ List.replicate (2 - (lg_sl ([.long a1])).length) Slot.unset).toArray = ls at hl ⊢
  have hl : lv_has ls 2 [(0, .long a1)] := hl
  unfold pX0_hasTwoWordPad at h
  refine lv_lload_n hx hb dX0_hasTwoWordPad_0 rfl (lv_at hl 0 rfl) ?_
  refine lv_ldc2 (v := (4 : Int64)) hx hb hown (hts _ (wm zw_382)) dX0_hasTwoWordPad_1 ?_
  refine lv_land hx hb dX0_hasTwoWordPad_4 ?_
  refine lv_lconst (v := (0 : Int64)) hx hb dX0_hasTwoWordPad_5 (by decide) ?_
  refine W.lcmp hx hb dX0_hasTwoWordPad_6 ?_
  refine lv_if_eq (tgt := 14) hx hb dX0_hasTwoWordPad_7 (by decide) (fun c_1 => ?_) (fun c_1 => ?_)
  · skip
    have c_1 := (lg_cmp_eq _ _).mp c_1
    rw [if_pos c_1] at h
    refine lv_iconst (v := (0 : Int32)) hx hb dX0_hasTwoWordPad_14 (by decide) ?_
    exact W.zret (v := (0 : Int32)) (ty := .boolean) hx hb hr rfl (fun t ht hW => ⟨_, rfl, h, ht⟩) (fun _ hq => nomatch hq) dX0_hasTwoWordPad_15
  · skip
    have c_1 := mt (lg_cmp_eq _ _).mpr c_1
    rw [if_neg c_1] at h
    refine lv_iconst (v := (1 : Int32)) hx hb dX0_hasTwoWordPad_10 (by decide) ?_
    refine lv_goto (tgt := 15) hx hb dX0_hasTwoWordPad_11 (by decide) ?_
    exact W.zret (v := (1 : Int32)) (ty := .boolean) hx hb hr rfl (fun t ht hW => ⟨_, rfl, h, ht⟩) (fun _ hq => nomatch hq) dX0_hasTwoWordPad_15
def pX0_farSegment (a1 : Int64) : Int32 := (if (4 : Int64) ≤ ((a1.toUInt64 >>> ((32 : Int32).toInt64.toUInt64 &&& Int64.toUInt64 63)).toInt64) then (-1 : Int32) else (((a1.toUInt64 >>> ((32 : Int32).toInt64.toUInt64 &&& Int64.toUInt64 63)).toInt64).toInt32))
set_option maxHeartbeats 4000000 in
set_option maxRecDepth 100000 in
theorem ct_X0_farSegment (l : Launch) (a1 : Int64) (r : Int32) (h : pX0_farSegment a1 = r) : Met l yX0_farSegment (wz yX0_farSegment cX0_farSegment 4 (some .int)) ({ frames := 0, cells := 0, slots := 0, locals := 0 } : Room) (va_Pc [.long a1] (fun _ => True)) (vp_Si (fun q => q = r)) 0 0 (fun _ => False) := by
  refine Met.ofW (cc := cX0_farSegment) (maxL := 4) (ret := (some .int)) (by decide) rfl ?_
  intro p e s m args below meth c s₁ B hml hv
  obtain ⟨rfl, -⟩ := hv
  have hx := B.exec
  have hb := B.bytes
  have hr := B.returns
  have hts := atoms_spec (ws := (wz yX0_farSegment cX0_farSegment 4 (some .int))) B.pre
  have hown : s.vm.findClass RX0 = some m.cls := findClass_of_methodNamed B.named
  have hlocks := B.notSynchronized
  have hl := lv_entry ([.long a1]) (n := 4) (Nat.le_of_ble_eq_true rfl)
  rw [lg_entry_eq]
  generalize (lg_sl ([.long a1]) ++ List.replicate (4 - (lg_sl ([.long a1])).length) Slot.unset).toArray = ls at hl ⊢
  have hl : lv_has ls 4 [(0, .long a1)] := hl
  unfold pX0_farSegment at h
  refine lv_lload_n hx hb dX0_farSegment_0 rfl (lv_at hl 0 rfl) ?_
  refine lv_bipush (v := (32 : Int32)) hx hb dX0_farSegment_1 (by decide) ?_
  refine lv_lushr hx hb dX0_farSegment_3 rfl ?_
  refine lv_lstore_n (lv' := [(2, .long ((a1.toUInt64 >>> ((32 : Int32).toInt64.toUInt64 &&& Int64.toUInt64 63)).toInt64)), (0, .long a1)]) hx hb dX0_farSegment_4 rfl hl (by decide) rfl (fun ls hl => ?_)
  refine lv_lload_n hx hb dX0_farSegment_5 rfl (lv_at hl 0 rfl) ?_
  refine lv_ldc2 (v := (4 : Int64)) hx hb hown (hts _ (wm zw_382)) dX0_farSegment_6 ?_
  refine W.lcmp hx hb dX0_farSegment_9 ?_
  refine lv_if_ge (tgt := 18) hx hb dX0_farSegment_10 (by decide) (fun c_1 => ?_) (fun c_1 => ?_)
  · skip
    have c_1 := (lg_cmp_ge _ _).mp c_1
    rw [if_pos c_1] at h
    refine lv_iconst (v := (-1 : Int32)) hx hb dX0_farSegment_18 (by decide) ?_
    exact W.iret (v := (-1 : Int32)) hx hb hr (fun t ht hW => ⟨_, rfl, h, ht⟩) (fun _ hq => nomatch hq) dX0_farSegment_19
  · skip
    have c_1 := mt (lg_cmp_ge _ _).mpr c_1
    rw [if_neg c_1] at h
    refine lv_lload_n hx hb dX0_farSegment_13 rfl (lv_at hl 0 rfl) ?_
    refine lv_l2i hx hb dX0_farSegment_14 rfl ?_
    refine lv_goto (tgt := 19) hx hb dX0_farSegment_15 (by decide) ?_
    exact W.iret (v := (((a1.toUInt64 >>> ((32 : Int32).toInt64.toUInt64 &&& Int64.toUInt64 63)).toInt64).toInt32)) hx hb hr (fun t ht hW => ⟨_, rfl, h, ht⟩) (fun _ hq => nomatch hq) dX0_farSegment_19
def pX0_farWord (a1 : Int64) : Int32 := (((a1.toInt32).toUInt32 >>> ((3 : Int32).toUInt32 &&& Int32.toUInt32 31)).toInt32)
set_option maxHeartbeats 4000000 in
set_option maxRecDepth 100000 in
theorem ct_X0_farWord (l : Launch) (a1 : Int64) (r : Int32) (h : pX0_farWord a1 = r) : Met l yX0_farWord (wz yX0_farWord cX0_farWord 2 (some .int)) ({ frames := 0, cells := 0, slots := 0, locals := 0 } : Room) (va_Pc [.long a1] (fun _ => True)) (vp_Si (fun q => q = r)) 0 0 (fun _ => False) := by
  refine Met.ofW (cc := cX0_farWord) (maxL := 2) (ret := (some .int)) (by decide) rfl ?_
  intro p e s m args below meth c s₁ B hml hv
  obtain ⟨rfl, -⟩ := hv
  have hx := B.exec
  have hb := B.bytes
  have hr := B.returns
  have hts := atoms_spec (ws := (wz yX0_farWord cX0_farWord 2 (some .int))) B.pre
  have hown : s.vm.findClass RX0 = some m.cls := findClass_of_methodNamed B.named
  have hlocks := B.notSynchronized
  have hl := lv_entry ([.long a1]) (n := 2) (Nat.le_of_ble_eq_true rfl)
  rw [lg_entry_eq]
  generalize (lg_sl ([.long a1]) ++ List.replicate (2 - (lg_sl ([.long a1])).length) Slot.unset).toArray = ls at hl ⊢
  have hl : lv_has ls 2 [(0, .long a1)] := hl
  unfold pX0_farWord at h
  refine lv_lload_n hx hb dX0_farWord_0 rfl (lv_at hl 0 rfl) ?_
  refine lv_l2i hx hb dX0_farWord_1 rfl ?_
  refine lv_iconst (v := (3 : Int32)) hx hb dX0_farWord_2 (by decide) ?_
  refine lv_iushr hx hb dX0_farWord_3 rfl ?_
  exact W.iret (v := (((a1.toInt32).toUInt32 >>> ((3 : Int32).toUInt32 &&& Int32.toUInt32 31)).toInt32)) hx hb hr (fun t ht hW => ⟨_, rfl, h, ht⟩) (fun _ hq => nomatch hq) dX0_farWord_4
def pX0_structPointer (a1 : Int32) (a2 : Int32) (a3 : Int32) : Int64 := ((((a3.toInt64) <<< ((48 : Int32).toInt64 &&& 63)) ||| ((a2.toInt64) <<< ((32 : Int32).toInt64 &&& 63))) ||| (((a1.toInt64) <<< ((2 : Int32).toInt64 &&& 63)) &&& (4294967295 : Int64)))
set_option maxHeartbeats 4000000 in
set_option maxRecDepth 100000 in
theorem ct_X0_structPointer (l : Launch) (a1 : Int32) (a2 : Int32) (a3 : Int32) (r : Int64) (h : pX0_structPointer a1 a2 a3 = r) : Met l yX0_structPointer (wz yX0_structPointer cX0_structPointer 3 (some .long)) ({ frames := 0, cells := 0, slots := 0, locals := 0 } : Room) (va_Pc [.int a1, .int a2, .int a3] (fun _ => True)) (vp_Sl (fun q => q = r)) 0 0 (fun _ => False) := by
  refine Met.ofW (cc := cX0_structPointer) (maxL := 3) (ret := (some .long)) (by decide) rfl ?_
  intro p e s m args below meth c s₁ B hml hv
  obtain ⟨rfl, -⟩ := hv
  have hx := B.exec
  have hb := B.bytes
  have hr := B.returns
  have hts := atoms_spec (ws := (wz yX0_structPointer cX0_structPointer 3 (some .long))) B.pre
  have hown : s.vm.findClass RX0 = some m.cls := findClass_of_methodNamed B.named
  have hlocks := B.notSynchronized
  have hl := lv_entry ([.int a1, .int a2, .int a3]) (n := 3) (Nat.le_of_ble_eq_true rfl)
  rw [lg_entry_eq]
  generalize (lg_sl ([.int a1, .int a2, .int a3]) ++ List.replicate (3 - (lg_sl ([.int a1, .int a2, .int a3])).length) Slot.unset).toArray = ls at hl ⊢
  have hl : lv_has ls 3 [(0, .int a1), (1, .int a2), (2, .int a3)] := hl
  unfold pX0_structPointer at h
  refine lv_iload_n hx hb dX0_structPointer_0 rfl (lv_at hl 2 rfl) ?_
  refine lv_i2l hx hb dX0_structPointer_1 rfl ?_
  refine lv_bipush (v := (48 : Int32)) hx hb dX0_structPointer_2 (by decide) ?_
  refine lv_lshl hx hb dX0_structPointer_4 rfl ?_
  refine lv_iload_n hx hb dX0_structPointer_5 rfl (lv_at hl 1 rfl) ?_
  refine lv_i2l hx hb dX0_structPointer_6 rfl ?_
  refine lv_bipush (v := (32 : Int32)) hx hb dX0_structPointer_7 (by decide) ?_
  refine lv_lshl hx hb dX0_structPointer_9 rfl ?_
  refine lv_lor hx hb dX0_structPointer_10 ?_
  refine lv_iload_n hx hb dX0_structPointer_11 rfl (lv_at hl 0 rfl) ?_
  refine lv_i2l hx hb dX0_structPointer_12 rfl ?_
  refine lv_iconst (v := (2 : Int32)) hx hb dX0_structPointer_13 (by decide) ?_
  refine lv_lshl hx hb dX0_structPointer_14 rfl ?_
  refine lv_ldc2 (v := (4294967295 : Int64)) hx hb hown (hts _ (wm zw_594)) dX0_structPointer_15 ?_
  refine lv_land hx hb dX0_structPointer_18 ?_
  refine lv_lor hx hb dX0_structPointer_19 ?_
  exact W.lret (v := ((((a3.toInt64) <<< ((48 : Int32).toInt64 &&& 63)) ||| ((a2.toInt64) <<< ((32 : Int32).toInt64 &&& 63))) ||| (((a1.toInt64) <<< ((2 : Int32).toInt64 &&& 63)) &&& (4294967295 : Int64)))) hx hb hr (fun t ht hW => ⟨_, rfl, h, ht⟩) (fun _ hq => nomatch hq) dX0_structPointer_20
def pX0_listPointer (a1 : Int32) (a2 : Int32) (a3 : Int32) : Int64 := (((((a3.toInt64) <<< ((35 : Int32).toInt64 &&& 63)) ||| ((a2.toInt64) <<< ((32 : Int32).toInt64 &&& 63))) ||| (((a1.toInt64) <<< ((2 : Int32).toInt64 &&& 63)) &&& (4294967295 : Int64))) ||| (1 : Int64))
set_option maxHeartbeats 4000000 in
set_option maxRecDepth 100000 in
theorem ct_X0_listPointer (l : Launch) (a1 : Int32) (a2 : Int32) (a3 : Int32) (r : Int64) (h : pX0_listPointer a1 a2 a3 = r) : Met l yX0_listPointer (wz yX0_listPointer cX0_listPointer 3 (some .long)) ({ frames := 0, cells := 0, slots := 0, locals := 0 } : Room) (va_Pc [.int a1, .int a2, .int a3] (fun _ => True)) (vp_Sl (fun q => q = r)) 0 0 (fun _ => False) := by
  refine Met.ofW (cc := cX0_listPointer) (maxL := 3) (ret := (some .long)) (by decide) rfl ?_
  intro p e s m args below meth c s₁ B hml hv
  obtain ⟨rfl, -⟩ := hv
  have hx := B.exec
  have hb := B.bytes
  have hr := B.returns
  have hts := atoms_spec (ws := (wz yX0_listPointer cX0_listPointer 3 (some .long))) B.pre
  have hown : s.vm.findClass RX0 = some m.cls := findClass_of_methodNamed B.named
  have hlocks := B.notSynchronized
  have hl := lv_entry ([.int a1, .int a2, .int a3]) (n := 3) (Nat.le_of_ble_eq_true rfl)
  rw [lg_entry_eq]
  generalize (lg_sl ([.int a1, .int a2, .int a3]) ++ List.replicate (3 - (lg_sl ([.int a1, .int a2, .int a3])).length) Slot.unset).toArray = ls at hl ⊢
  have hl : lv_has ls 3 [(0, .int a1), (1, .int a2), (2, .int a3)] := hl
  unfold pX0_listPointer at h
  refine lv_iload_n hx hb dX0_listPointer_0 rfl (lv_at hl 2 rfl) ?_
  refine lv_i2l hx hb dX0_listPointer_1 rfl ?_
  refine lv_bipush (v := (35 : Int32)) hx hb dX0_listPointer_2 (by decide) ?_
  refine lv_lshl hx hb dX0_listPointer_4 rfl ?_
  refine lv_iload_n hx hb dX0_listPointer_5 rfl (lv_at hl 1 rfl) ?_
  refine lv_i2l hx hb dX0_listPointer_6 rfl ?_
  refine lv_bipush (v := (32 : Int32)) hx hb dX0_listPointer_7 (by decide) ?_
  refine lv_lshl hx hb dX0_listPointer_9 rfl ?_
  refine lv_lor hx hb dX0_listPointer_10 ?_
  refine lv_iload_n hx hb dX0_listPointer_11 rfl (lv_at hl 0 rfl) ?_
  refine lv_i2l hx hb dX0_listPointer_12 rfl ?_
  refine lv_iconst (v := (2 : Int32)) hx hb dX0_listPointer_13 (by decide) ?_
  refine lv_lshl hx hb dX0_listPointer_14 rfl ?_
  refine lv_ldc2 (v := (4294967295 : Int64)) hx hb hown (hts _ (wm zw_594)) dX0_listPointer_15 ?_
  refine lv_land hx hb dX0_listPointer_18 ?_
  refine lv_lor hx hb dX0_listPointer_19 ?_
  refine lv_lconst (v := (1 : Int64)) hx hb dX0_listPointer_20 (by decide) ?_
  refine lv_lor hx hb dX0_listPointer_21 ?_
  exact W.lret (v := (((((a3.toInt64) <<< ((35 : Int32).toInt64 &&& 63)) ||| ((a2.toInt64) <<< ((32 : Int32).toInt64 &&& 63))) ||| (((a1.toInt64) <<< ((2 : Int32).toInt64 &&& 63)) &&& (4294967295 : Int64))) ||| (1 : Int64))) hx hb hr (fun t ht hW => ⟨_, rfl, h, ht⟩) (fun _ hq => nomatch hq) dX0_listPointer_22
def pX0_wordsFor (a1 : Int32) (a2 : Int32) : Int32 := (((((a1.toInt64) * (a2.toInt64)) + (63 : Int64)) / (64 : Int64)).toInt32)
set_option maxHeartbeats 4000000 in
set_option maxRecDepth 100000 in
theorem ct_X0_wordsFor (l : Launch) (a1 : Int32) (a2 : Int32) (r : Int32) (h : pX0_wordsFor a1 a2 = r) : Met l yX0_wordsFor (wz yX0_wordsFor cX0_wordsFor 2 (some .int)) ({ frames := 0, cells := 0, slots := 0, locals := 0 } : Room) (va_Pc [.int a1, .int a2] (fun _ => True)) (vp_Si (fun q => q = r)) 0 0 (fun _ => False) := by
  refine Met.ofW (cc := cX0_wordsFor) (maxL := 2) (ret := (some .int)) (by decide) rfl ?_
  intro p e s m args below meth c s₁ B hml hv
  obtain ⟨rfl, -⟩ := hv
  have hx := B.exec
  have hb := B.bytes
  have hr := B.returns
  have hts := atoms_spec (ws := (wz yX0_wordsFor cX0_wordsFor 2 (some .int))) B.pre
  have hown : s.vm.findClass RX0 = some m.cls := findClass_of_methodNamed B.named
  have hlocks := B.notSynchronized
  have hl := lv_entry ([.int a1, .int a2]) (n := 2) (Nat.le_of_ble_eq_true rfl)
  rw [lg_entry_eq]
  generalize (lg_sl ([.int a1, .int a2]) ++ List.replicate (2 - (lg_sl ([.int a1, .int a2])).length) Slot.unset).toArray = ls at hl ⊢
  have hl : lv_has ls 2 [(0, .int a1), (1, .int a2)] := hl
  unfold pX0_wordsFor at h
  refine lv_iload_n hx hb dX0_wordsFor_0 rfl (lv_at hl 0 rfl) ?_
  refine lv_i2l hx hb dX0_wordsFor_1 rfl ?_
  refine lv_iload_n hx hb dX0_wordsFor_2 rfl (lv_at hl 1 rfl) ?_
  refine lv_i2l hx hb dX0_wordsFor_3 rfl ?_
  refine lv_lmul hx hb dX0_wordsFor_4 ?_
  refine lv_ldc2 (v := (63 : Int64)) hx hb hown (hts _ (wm zw_441)) dX0_wordsFor_5 ?_
  refine lv_ladd hx hb dX0_wordsFor_8 ?_
  refine lv_ldc2 (v := (64 : Int64)) hx hb hown (hts _ (wm zw_442)) dX0_wordsFor_9 ?_
  refine lv_ldiv hx hb dX0_wordsFor_12 (by decide) ?_
  refine lv_l2i hx hb dX0_wordsFor_13 rfl ?_
  exact W.iret (v := (((((a1.toInt64) * (a2.toInt64)) + (63 : Int64)) / (64 : Int64)).toInt32)) hx hb hr (fun t ht hW => ⟨_, rfl, h, ht⟩) (fun _ hq => nomatch hq) dX0_wordsFor_14
def pX0_lowest (a1 : Int32) : Int64 := (if a1 < (64 : Int32) then (((1 : Int64) <<< (a1.toInt64 &&& 63)) - (1 : Int64)) else (-1 : Int64))
set_option maxHeartbeats 4000000 in
set_option maxRecDepth 100000 in
theorem ct_X0_lowest (l : Launch) (a1 : Int32) (r : Int64) (h : pX0_lowest a1 = r) : Met l yX0_lowest (wz yX0_lowest cX0_lowest 1 (some .long)) ({ frames := 0, cells := 0, slots := 0, locals := 0 } : Room) (va_Pc [.int a1] (fun _ => True)) (vp_Sl (fun q => q = r)) 0 0 (fun _ => False) := by
  refine Met.ofW (cc := cX0_lowest) (maxL := 1) (ret := (some .long)) (by decide) rfl ?_
  intro p e s m args below meth c s₁ B hml hv
  obtain ⟨rfl, -⟩ := hv
  have hx := B.exec
  have hb := B.bytes
  have hr := B.returns
  have hts := atoms_spec (ws := (wz yX0_lowest cX0_lowest 1 (some .long))) B.pre
  have hown : s.vm.findClass RX0 = some m.cls := findClass_of_methodNamed B.named
  have hlocks := B.notSynchronized
  have hl := lv_entry ([.int a1]) (n := 1) (Nat.le_of_ble_eq_true rfl)
  rw [lg_entry_eq]
  generalize (lg_sl ([.int a1]) ++ List.replicate (1 - (lg_sl ([.int a1])).length) Slot.unset).toArray = ls at hl ⊢
  have hl : lv_has ls 1 [(0, .int a1)] := hl
  unfold pX0_lowest at h
  refine lv_iload_n hx hb dX0_lowest_0 rfl (lv_at hl 0 rfl) ?_
  refine lv_bipush (v := (64 : Int32)) hx hb dX0_lowest_1 (by decide) ?_
  refine lv_icmp_lt (tgt := 12) hx hb dX0_lowest_3 (by decide) (fun c_1 => ?_) (fun c_1 => ?_)
  · skip
    rw [if_pos c_1] at h
    refine lv_lconst (v := (1 : Int64)) hx hb dX0_lowest_12 (by decide) ?_
    refine lv_iload_n hx hb dX0_lowest_13 rfl (lv_at hl 0 rfl) ?_
    refine lv_lshl hx hb dX0_lowest_14 rfl ?_
    refine lv_lconst (v := (1 : Int64)) hx hb dX0_lowest_15 (by decide) ?_
    refine lv_lsub hx hb dX0_lowest_16 ?_
    exact W.lret (v := (((1 : Int64) <<< (a1.toInt64 &&& 63)) - (1 : Int64))) hx hb hr (fun t ht hW => ⟨_, rfl, h, ht⟩) (fun _ hq => nomatch hq) dX0_lowest_17
  · skip
    rw [if_neg c_1] at h
    refine lv_ldc2 (v := (-1 : Int64)) hx hb hown (hts _ (wm zw_564)) dX0_lowest_6 ?_
    refine lv_goto (tgt := 17) hx hb dX0_lowest_9 (by decide) ?_
    exact W.lret (v := (-1 : Int64)) hx hb hr (fun t ht hW => ⟨_, rfl, h, ht⟩) (fun _ hq => nomatch hq) dX0_lowest_17
def pX0_elementBits (a1 : Int32) : Option (Int32) := (if a1 < 0 then some (0 : Int32) else (if (7 : Int32) ≤ a1 then some (0 : Int32) else (if inb a1 7 = true then some (zEB a1.toNatClampNeg) else none)))
set_option maxHeartbeats 4000000 in
set_option maxRecDepth 100000 in
theorem ct_X0_elementBits (l : Launch) (A : Nat → Prop) (a1 : Int32) (r : Int32) (h : pX0_elementBits a1 = some r) : Met l yX0_elementBits (wz yX0_elementBits cX0_elementBits 1 (some .int)) ({ frames := 0, cells := 0, slots := 0, locals := 0 } : Room) (va_Pc [.int a1] (fun U => cEv A U U.heap)) (vp_Si (fun q => q = r)) 0 0 (fun _ => False) := by
  refine Met.ofW (cc := cX0_elementBits) (maxL := 1) (ret := (some .int)) (by decide) rfl ?_
  intro p e s m args below meth c s₁ B hml hv
  obtain ⟨rfl, hE⟩ := hv
  have hx := B.exec
  have hb := B.bytes
  have hr := B.returns
  have hts := atoms_spec (ws := (wz yX0_elementBits cX0_elementBits 1 (some .int))) B.pre
  have hown : s.vm.findClass RX0 = some m.cls := findClass_of_methodNamed B.named
  have hlocks := B.notSynchronized
  have hS : va_S A s.heap s.heap [] := va_S.rf
  have hl := lv_entry ([.int a1]) (n := 1) (Nat.le_of_ble_eq_true rfl)
  rw [lg_entry_eq]
  generalize (lg_sl ([.int a1]) ++ List.replicate (1 - (lg_sl ([.int a1])).length) Slot.unset).toArray = ls at hl ⊢
  have hl : lv_has ls 1 [(0, .int a1)] := hl
  unfold pX0_elementBits at h
  refine lv_iload_n hx hb dX0_elementBits_0 rfl (lv_at hl 0 rfl) ?_
  refine lv_if_lt (tgt := 20) hx hb dX0_elementBits_1 (by decide) (fun c_1 => ?_) (fun c_1 => ?_)
  · skip
    rw [if_pos c_1] at h
    refine lv_iconst (v := (0 : Int32)) hx hb dX0_elementBits_20 (by decide) ?_
    exact W.iret (v := (0 : Int32)) hx hb hr (fun t ht hW => ⟨_, rfl, (Option.some.inj h), ht⟩) (fun _ hq => nomatch hq) dX0_elementBits_21
  · skip
    rw [if_neg c_1] at h
    refine lv_iload_n hx hb dX0_elementBits_4 rfl (lv_at hl 0 rfl) ?_
    obtain ⟨te, hZ8, hT8⟩ := hE.2.2.1
    refine va_gets hx hb hZ8 hS hown (hts _ (wm zw_436)) (fun _ h9 => h9) dX0_elementBits_5 ?_
    refine va_tlen hx hb hT8 hS (v := (7 : Int32)) (by decide) dX0_elementBits_8 ?_
    refine lv_icmp_ge (tgt := 20) hx hb dX0_elementBits_9 (by decide) (fun c_2 => ?_) (fun c_2 => ?_)
    · skip
      rw [if_pos c_2] at h
      refine lv_iconst (v := (0 : Int32)) hx hb dX0_elementBits_20 (by decide) ?_
      exact W.iret (v := (0 : Int32)) hx hb hr (fun t ht hW => ⟨_, rfl, (Option.some.inj h), ht⟩) (fun _ hq => nomatch hq) dX0_elementBits_21
    · skip
      rw [if_neg c_2] at h
      obtain ⟨te, hZ8, hT8⟩ := hE.2.2.1
      refine va_gets hx hb hZ8 hS hown (hts _ (wm zw_436)) (fun _ h9 => h9) dX0_elementBits_12 ?_
      refine lv_iload_n hx hb dX0_elementBits_15 rfl (lv_at hl 0 rfl) ?_
      obtain ⟨hi_3, h⟩ := zb_if h
      refine va_ti hx hb hT8 hS (v := .int (zEB a1.toNatClampNeg)) (inb_in hi_3) rfl dX0_elementBits_16 ?_
      refine lv_goto (tgt := 21) hx hb dX0_elementBits_17 (by decide) ?_
      exact W.iret (v := (zEB a1.toNatClampNeg)) hx hb hr (fun t ht hW => ⟨_, rfl, (Option.some.inj h), ht⟩) (fun _ hq => nomatch hq) dX0_elementBits_21
